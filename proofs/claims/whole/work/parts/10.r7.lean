/-! THE REFERENCE'S METHODS, SEVENTH PART (rows laid by my program gen/ref7.py) -/
set_option maxHeartbeats 4000000 in
set_option maxRecDepth 100000 in
theorem c5_pass (l : Launch) (G : mG) (ad : Nat → Nat) (σ : Sg) (d9 : Nat) (hd9 : d9 < 4294967296) (hI : IV σ) : cRi l yX5_pass wsX5_pass 5 G ad σ [.int (nI d9)] (rPost (thD σ d9) (dyN (st σ 25 0 0) d9 22 0 + 4294967296 - σ 22 0) (dyN (st σ 25 0 0) d9) σ) := by
  intro M sz hR
  refine m_start cX5_pass 5 (some .int) (by decide) rfl (Nat.le_of_ble_eq_true rfl) ?_
  intro p e s m below meth c ls hx hb hr hml hown hlk hnm hts hK hsz hE hW hl
  have hA := mA_A (M := M) hsz
  have hl : lv_has ls 5 [(0, .ref (ad 0)), (1, .int (nI d9))] := hl
  have hW := rW_start hR hW
  have hinX5 : ∀ w ∈ u_ws RX5 TX5 26, w ∈ wsX5_pass := (fun _ h => List.mem_cons_of_mem _ (List.mem_append_right _ h))
  have hV := hI.1
  have hB := hV.b
  obtain ⟨⟨h0, h8, hd⟩, h7, h3, h12, h45, h17, hl9, h23, h1921⟩ := id hB
  have hD22 := hI.2.2.1.le
  refine lv_aload_n hx hb dX5_pass_0 rfl (lv_at hl 0 rfl) ?_
  refine lv_iload_n hx hb dX5_pass_1 rfl (lv_at hl 1 rfl) ?_
  refine lv_iconst (v := nI 1) hx hb dX5_pass_2 (by decide) ?_
  refine lv_bipush (v := nI 60) hx hb dX5_pass_3 (by decide) ?_
  refine lv_tope (show nI 60 = nI 61 - nI 1 by decide) ?_
  refine rk_S (As := [.int (nI d9), .int (nI 1), .int (nI 61 - nI 1)]) (nL := 5) ⟨hx, hb, hml, hown, hts⟩ (c5_in l d9 1 61 (by omega) (by omega) (by omega)) (va_cwS 3 hts gX5_pass_X5_in rfl rfl rfl (by decide +kernel) ⟨(Nat.le_of_ble_eq_true rfl), (Nat.le_of_ble_eq_true rfl)⟩) hK hE hW hA rfl hl.1 rfl (Nat.le_of_ble_eq_true rfl) dX5_pass_5 (Nat.zero_le _) (Nat.zero_le _) (fun H locs hW => ?_)
  refine nb_if_ne (tgt := 15) hx hb dX5_pass_8 (by decide) (fun c_1 => ?_) (fun c_1 => ?_)
  · skip
    refine lv_aload_n hx hb dX5_pass_15 rfl (lv_at hl 0 rfl) ?_
    refine rr_geti hx hb hts hinX5 hown hK hW 24 (by decide) rfl rfl (hts (.fieldLink RX5 92 "SeaPostModel" "today" "I") (by decide +kernel)) dX5_pass_16 ?_
    refine lv_iload_n hx hb dX5_pass_19 rfl (lv_at hl 1 rfl) ?_
    refine lv_iadd hx hb dX5_pass_20 (lv_tope (nI_add (σ 24 0) d9) ?_)
    refine lv_sipush (v := nI 1000) hx hb dX5_pass_21 (by decide) ?_
    refine nv_icmp_le (u := σ 24 0 + d9) (v := 1000) (tgt := 31) hx hb dX5_pass_24 (by decide) (by omega) (by omega) (fun c_2 => ?_) (fun c_2 => ?_)
    · skip
      refine lv_iconst (v := nI 0) hx hb dX5_pass_31 (by decide) ?_
      refine rr_puti (v := 0) hx hb hts hinX5 hown hK hW 25 (by decide) rfl rfl (hts (.fieldLink RX5 70 "SeaPostModel" "thrown" "I") (by decide +kernel)) rfl (by decide +kernel) dX5_pass_32 (fun H locs hW => ?_)
      obtain ⟨σ_3, eσ_3⟩ : ∃ z : Sg, z = st σ 25 0 0 := ⟨_, rfl⟩
      rw [← eσ_3] at hW
      refine lv_aload_n hx hb dX5_pass_35 rfl (lv_at hl 0 rfl) ?_
      refine rr_geti hx hb hts hinX5 hown hK hW 25 (by decide) rfl rfl (hts (.fieldLink RX5 70 "SeaPostModel" "thrown" "I") (by decide +kernel)) dX5_pass_36 ?_
      refine lv_tope (congrArg nI (show σ_3 25 0 = 0 by rw [eσ_3, st_s])) ?_
      refine lv_if_eq (tgt := 44) hx hb dX5_pass_39 (by decide) (fun _ => ?_) (fun z => absurd (by decide) z)
      refine lv_aload_n hx hb dX5_pass_44 rfl (lv_at hl 0 rfl) ?_
      refine rr_geti hx hb hts hinX5 hown hK hW 22 (by decide) rfl rfl (hts (.fieldLink RX5 127 "SeaPostModel" "handedMany" "I") (by decide +kernel)) dX5_pass_45 ?_
      refine lv_tope (congrArg nI (show σ_3 22 0 = σ 22 0 by rw [eσ_3, st_f (by decide)])) ?_
      refine lv_istore_n (lv' := [(2, .int (nI (σ 22 0))), (0, .ref (ad 0)), (1, .int (nI d9))]) hx hb dX5_pass_48 rfl hl (by decide) rfl (fun ls hl => ?_)
      refine lv_iconst (v := nI 0) hx hb dX5_pass_49 (by decide) ?_
      refine lv_istore_n (lv' := [(3, .int (nI 0)), (2, .int (nI (σ 22 0))), (0, .ref (ad 0)), (1, .int (nI d9))]) hx hb dX5_pass_50 rfl hl (by decide) rfl (fun ls hl => ?_)
      obtain ⟨z9, ez9⟩ : ∃ z : Sg, z = st σ 25 0 0 := ⟨_, rfl⟩
      have hI9 : IV z9 := by rw [ez9]; exact hI.x25
      have h249 : z9 24 0 = σ 24 0 := by rw [ez9, st_f (by decide)]
      rw [show σ_3 = z9 by rw [ez9, eσ_3]] at hW
      refine m_loop d9 (fun n H locs ls => rW G ad (mA M sz) s.heap M (dyN z9 n) H locs ∧ lv_has ls 5 [(3, .int (nI n)), (2, .int (nI (σ 22 0))), (0, .ref (ad 0)), (1, .int (nI d9))]) 0 (Nat.zero_le _) ⟨hW, lv_sub hl [0, 1, 2, 3] rfl⟩ (fun n H locs ls hn hI2 ih => ?_)
      obtain ⟨hW, hl⟩ := hI2
      obtain ⟨q1, q2, q3, q4, q5⟩ := dyN_ok hI9 n (by omega)
      obtain ⟨ρ, eρ⟩ : ∃ z : Sg, z = dyN z9 n := ⟨_, rfl⟩
      rw [← eρ] at hW q1 q3
      refine lv_iload_n hx hb dX5_pass_51 rfl (lv_at hl 0 rfl) ?_
      refine lv_iload_n hx hb dX5_pass_52 rfl (lv_at hl 3 rfl) ?_
      refine nv_icmp_ge (u := n) (v := d9) (tgt := 110) hx hb dX5_pass_53 (by decide) (by omega) (by omega) (fun c_4 => ?_) (fun c_4 => ?_)
      · skip
        refine lv_aload_n hx hb dX5_pass_110 rfl (lv_at hl 2 rfl) ?_
        refine rr_geti hx hb hts hinX5 hown hK hW 22 (by decide) rfl rfl (hts (.fieldLink RX5 127 "SeaPostModel" "handedMany" "I") (by decide +kernel)) dX5_pass_111 ?_
        refine lv_iload_n hx hb dX5_pass_114 rfl (lv_at hl 1 rfl) ?_
        refine lv_isub hx hb dX5_pass_115 (lv_tope (nI_subw (a := ρ 22 0) (b := σ 22 0) (by omega)) ?_)
        have hnn : n = d9 := by omega
        exact rr_iret hx hb hr hlk (Nat.le_refl 0) (Nat.le_refl 0) hW (rP_0 (show thD σ d9 = 0 from by unfold thD; (repeat' split) <;> first | rfl | omega) (by rw [eρ, hnn, ez9]) (by rw [eρ, hnn, ez9])) dX5_pass_116
      · skip
        refine lv_aload_n hx hb dX5_pass_56 rfl (lv_at hl 2 rfl) ?_
        refine lv_dup hx hb dX5_pass_57 rfl ?_
        refine rr_geti hx hb hts hinX5 hown hK hW 24 (by decide) rfl rfl (hts (.fieldLink RX5 92 "SeaPostModel" "today" "I") (by decide +kernel)) dX5_pass_58 ?_
        refine lv_iconst (v := nI 1) hx hb dX5_pass_61 (by decide) ?_
        refine lv_iadd hx hb dX5_pass_62 (lv_tope (nI_add (ρ 24 0) 1) ?_)
        refine rr_puti (v := ρ 24 0 + 1) hx hb hts hinX5 hown hK hW 24 (by decide) rfl rfl (hts (.fieldLink RX5 92 "SeaPostModel" "today" "I") (by decide +kernel)) rfl (by decide +kernel) dX5_pass_63 (fun H locs hW => ?_)
        obtain ⟨σ_5, eσ_5⟩ : ∃ z : Sg, z = st ρ 24 0 (ρ 24 0 + 1) := ⟨_, rfl⟩
        rw [← eσ_5] at hW
        refine lv_iconst (v := nI 0) hx hb dX5_pass_66 (by decide) ?_
        refine lv_istore (lv' := [(4, .int (nI 0)), (3, .int (nI n)), (2, .int (nI (σ 22 0))), (0, .ref (ad 0)), (1, .int (nI d9))]) hx hb dX5_pass_67 hl (by decide) rfl (fun ls hl => ?_)
        obtain ⟨κ, eκ⟩ : ∃ z : Sg, z = st ρ 24 0 (ρ 24 0 + 1) := ⟨_, rfl⟩
        rw [show σ_5 = κ by rw [eκ, eσ_5]] at hW
        have hM0 : IM κ 0 := by rw [eκ]; exact IM.of q1 (by omega)
        have h8κ : κ 8 0 = ρ 8 0 := by rw [eκ, st_f (by decide)]
        have h8r : ρ 8 0 ≤ 40 := q1.1 8 0
        refine m_loop (ρ 8 0) (fun k H locs ls => rW G ad (mA M sz) s.heap M (daN κ k) H locs ∧ lv_has ls 5 [(4, .int (nI k)), (3, .int (nI n)), (2, .int (nI (σ 22 0))), (0, .ref (ad 0)), (1, .int (nI d9))]) 0 (Nat.zero_le _) ⟨hW, lv_sub hl [0, 1, 2, 3, 4] rfl⟩ (fun k H locs ls hk hI3 ih2 => ?_)
        obtain ⟨hW, hl⟩ := hI3
        obtain ⟨p1, p2⟩ := IM.go hM0 k (by omega)
        obtain ⟨μ, eμ⟩ : ∃ z : Sg, z = daN κ k := ⟨_, rfl⟩
        rw [← eμ] at hW p1 p2
        have h8μ : μ 8 0 = ρ 8 0 := (p2 8 0 (Or.inl (by decide))).trans h8κ
        have h24μ : μ 24 0 = ρ 24 0 + 1 := (p2 24 0 (Or.inr (by decide))).trans (by rw [eκ, st_s])
        refine lv_iload hx hb dX5_pass_69 (lv_at hl 0 rfl) ?_
        refine lv_aload_n hx hb dX5_pass_71 rfl (lv_at hl 3 rfl) ?_
        refine rr_geti hx hb hts hinX5 hown hK hW 8 (by decide) rfl rfl (hts (.fieldLink RX5 140 "SeaPostModel" "letters" "I") (by decide +kernel)) dX5_pass_72 ?_
        refine lv_tope (congrArg nI (show μ 8 0 = ρ 8 0 from h8μ)) ?_
        refine nv_icmp_ge (u := k) (v := ρ 8 0) (tgt := 90) hx hb dX5_pass_75 (by decide) (by omega) (by omega) (fun c_6 => ?_) (fun c_6 => ?_)
        · skip
          refine lv_aload_n hx hb dX5_pass_90 rfl (lv_at hl 3 rfl) ?_
          refine rr_geti hx hb hts hinX5 hown hK hW 24 (by decide) rfl rfl (hts (.fieldLink RX5 92 "SeaPostModel" "today" "I") (by decide +kernel)) dX5_pass_91 ?_
          have hkk : k = ρ 8 0 := by omega
          have hdA : μ = dyA ρ := by rw [eμ, hkk]; unfold dyA; rw [eκ]
          refine lv_tope (congrArg nI (show μ 24 0 = ρ 24 0 + 1 from h24μ)) ?_
          refine lv_bipush (v := nI 10) hx hb dX5_pass_94 (by decide) ?_
          refine lv_irem hx hb dX5_pass_96 (nI_ne0 (by omega) (by omega)) (lv_tope (pk_rem (a := ρ 24 0 + 1) (d := 10) (by omega) (by omega) (by omega)) ?_)
          refine nv_if_ne (tgt := 104) hx hb dX5_pass_97 (by decide) (by omega) (fun c_7 => ?_) (fun c_7 => ?_)
          · skip
            have hdy_8 : μ = dy ρ := by rw [hdA]; unfold dy; rw [if_neg (by omega)]
            refine lv_iinc (v := nI (n + 1)) (lv' := [(3, .int (nI (n + 1))), (4, .int (nI k)), (2, .int (nI (σ 22 0))), (0, .ref (ad 0)), (1, .int (nI d9))]) hx hb dX5_pass_104 hl (k := 1) rfl (by rw [show (Int32.ofInt 1) = nI 1 by decide, nI_add]) (by decide) rfl (fun ls hl => ?_)
            refine lv_goto (tgt := 51) hx hb dX5_pass_107 (by decide) ?_
            exact ih _ _ _ (by omega) ⟨by show rW G ad (mA M sz) s.heap M (dy (dyN z9 n)) H locs; rw [← eρ, ← hdy_8]; exact hW, lv_sub hl [0, 2, 3, 4] rfl⟩
          · skip
            refine lv_aload_n hx hb dX5_pass_100 rfl (lv_at hl 3 rfl) ?_
            refine rk_Vv (As := []) (nL := 5) ⟨hx, hb, hml, hown, hts⟩ (c5_office l G ad μ (by rw [hdA]; exact OFP.of (dyA_ok q1 (by omega)).1)) (cwV 0 hts gX5_pass_X5_office rfl rfl rfl (by decide +kernel) ⟨(Nat.le_of_ble_eq_true rfl), (Nat.le_of_ble_eq_true rfl)⟩) hK hE hW hA rfl hl.1 rfl (Nat.le_of_ble_eq_true rfl) dX5_pass_101 (Nat.zero_le _) (Nat.zero_le _) (fun σ9 H locs hp_9 hW => ?_)
            obtain ⟨σ_10, eσ_10⟩ : ∃ z : Sg, z = σ9 := ⟨_, rfl⟩
            rw [← eσ_10] at hW
            rw [hp_9] at eσ_10
            clear hp_9
            have hdy_11 : σ_10 = dy ρ := by rw [eσ_10, hdA]; unfold dy; rw [if_pos (by omega)]
            refine lv_iinc (v := nI (n + 1)) (lv' := [(3, .int (nI (n + 1))), (4, .int (nI k)), (2, .int (nI (σ 22 0))), (0, .ref (ad 0)), (1, .int (nI d9))]) hx hb dX5_pass_104 hl (k := 1) rfl (by rw [show (Int32.ofInt 1) = nI 1 by decide, nI_add]) (by decide) rfl (fun ls hl => ?_)
            refine lv_goto (tgt := 51) hx hb dX5_pass_107 (by decide) ?_
            exact ih _ _ _ (by omega) ⟨by show rW G ad (mA M sz) s.heap M (dy (dyN z9 n)) H locs; rw [← eρ, ← hdy_11]; exact hW, lv_sub hl [0, 2, 3, 4] rfl⟩
        · skip
          refine lv_aload_n hx hb dX5_pass_78 rfl (lv_at hl 3 rfl) ?_
          refine lv_iload hx hb dX5_pass_79 (lv_at hl 0 rfl) ?_
          refine rk_Vv (As := [.int (nI k)]) (nL := 5) ⟨hx, hb, hml, hown, hts⟩ (c5_dawns l G ad μ k p1 (by omega)) (cwV 1 hts gX5_pass_X5_dawns rfl rfl rfl (by decide +kernel) ⟨(Nat.le_of_ble_eq_true rfl), (Nat.le_of_ble_eq_true rfl)⟩) hK hE hW hA rfl hl.1 rfl (Nat.le_of_ble_eq_true rfl) dX5_pass_81 (Nat.zero_le _) (Nat.zero_le _) (fun σ9 H locs hp_12 hW => ?_)
          obtain ⟨σ_13, eσ_13⟩ : ∃ z : Sg, z = σ9 := ⟨_, rfl⟩
          rw [← eσ_13] at hW
          rw [hp_12] at eσ_13
          clear hp_12
          refine lv_iinc (v := nI (k + 1)) (lv' := [(4, .int (nI (k + 1))), (3, .int (nI n)), (2, .int (nI (σ 22 0))), (0, .ref (ad 0)), (1, .int (nI d9))]) hx hb dX5_pass_84 hl (k := 0) rfl (by rw [show (Int32.ofInt 1) = nI 1 by decide, nI_add]) (by decide) rfl (fun ls hl => ?_)
          refine lv_goto (tgt := 69) hx hb dX5_pass_87 (by decide) ?_
          exact ih2 _ _ _ (by omega) ⟨by rw [show daN κ (k + 1) = σ_13 by show da (daN κ k) k = _; rw [eσ_13, eμ]]; exact hW, lv_sub hl [0, 1, 2, 3, 4] rfl⟩
    · skip
      refine lv_iconst (v := nI 2) hx hb dX5_pass_27 (by decide) ?_
      refine lv_goto (tgt := 32) hx hb dX5_pass_28 (by decide) ?_
      refine rr_puti (v := 2) hx hb hts hinX5 hown hK hW 25 (by decide) rfl rfl (hts (.fieldLink RX5 70 "SeaPostModel" "thrown" "I") (by decide +kernel)) rfl (by decide +kernel) dX5_pass_32 (fun H locs hW => ?_)
      obtain ⟨σ_14, eσ_14⟩ : ∃ z : Sg, z = st σ 25 0 2 := ⟨_, rfl⟩
      rw [← eσ_14] at hW
      refine lv_aload_n hx hb dX5_pass_35 rfl (lv_at hl 0 rfl) ?_
      refine rr_geti hx hb hts hinX5 hown hK hW 25 (by decide) rfl rfl (hts (.fieldLink RX5 70 "SeaPostModel" "thrown" "I") (by decide +kernel)) dX5_pass_36 ?_
      refine lv_tope (congrArg nI (show σ_14 25 0 = 2 by rw [eσ_14, st_s])) ?_
      refine lv_if_eq (tgt := 44) hx hb dX5_pass_39 (by decide) (fun z => absurd z (by decide)) (fun _ => ?_)
      refine lv_iconst (v := nI 0) hx hb dX5_pass_42 (by decide) ?_
      exact rr_iret hx hb hr hlk (Nat.le_refl 0) (Nat.le_refl 0) hW (rP_x (show thD σ d9 = 2 from by unfold thD; (repeat' split) <;> first | rfl | omega) (by decide) (by subst eσ_14; first | rfl | (rw [st_st]; done))) dX5_pass_43
  · skip
    refine lv_iconst (v := nI 1) hx hb dX5_pass_11 (by decide) ?_
    refine lv_goto (tgt := 32) hx hb dX5_pass_12 (by decide) ?_
    refine rr_puti (v := 1) hx hb hts hinX5 hown hK hW 25 (by decide) rfl rfl (hts (.fieldLink RX5 70 "SeaPostModel" "thrown" "I") (by decide +kernel)) rfl (by decide +kernel) dX5_pass_32 (fun H locs hW => ?_)
    obtain ⟨σ_15, eσ_15⟩ : ∃ z : Sg, z = st σ 25 0 1 := ⟨_, rfl⟩
    rw [← eσ_15] at hW
    refine lv_aload_n hx hb dX5_pass_35 rfl (lv_at hl 0 rfl) ?_
    refine rr_geti hx hb hts hinX5 hown hK hW 25 (by decide) rfl rfl (hts (.fieldLink RX5 70 "SeaPostModel" "thrown" "I") (by decide +kernel)) dX5_pass_36 ?_
    refine lv_tope (congrArg nI (show σ_15 25 0 = 1 by rw [eσ_15, st_s])) ?_
    refine lv_if_eq (tgt := 44) hx hb dX5_pass_39 (by decide) (fun z => absurd z (by decide)) (fun _ => ?_)
    refine lv_iconst (v := nI 0) hx hb dX5_pass_42 (by decide) ?_
    exact rr_iret hx hb hr hlk (Nat.le_refl 0) (Nat.le_refl 0) hW (rP_x (show thD σ d9 = 1 from by unfold thD; (repeat' split) <;> first | rfl | omega) (by decide) (by subst eσ_15; first | rfl | (rw [st_st]; done))) dX5_pass_43

set_option maxHeartbeats 4000000 in
set_option maxRecDepth 100000 in
theorem c5_post (l : Launch) (G : mG) (ad : Nat → Nat) (σ : Sg) (q : Nat) (u : Nat) (h9 : Nat) (hq : q < 4294967296) (hu : u < 4294967296) (hh : h9 < 4294967296) (hI : IV σ) : cRi l yX5_post wsX5_post 4 G ad σ [.int (nI q), .int (nI u), .int (nI h9)] (rPost (thP σ q u h9) (σ 8 0) (po (st σ 25 0 0) q u h9) σ) := by
  intro M sz hR
  refine m_start cX5_post 5 (some .int) (by decide) rfl (Nat.le_of_ble_eq_true rfl) ?_
  intro p e s m below meth c ls hx hb hr hml hown hlk hnm hts hK hsz hE hW hl
  have hA := mA_A (M := M) hsz
  have hl : lv_has ls 5 [(0, .ref (ad 0)), (1, .int (nI q)), (2, .int (nI u)), (3, .int (nI h9))] := hl
  have hW := rW_start hR hW
  have hinX5 : ∀ w ∈ u_ws RX5 TX5 26, w ∈ wsX5_post := (fun _ h => List.mem_cons_of_mem _ (List.mem_append_right _ h))
  have hV := hI.1
  have hB := hV.b
  obtain ⟨⟨h0, h8, hd⟩, h7, h3, h12, h45, h17, hl9, h23, h1921⟩ := id hB
  refine lv_aload_n hx hb dX5_post_0 rfl (lv_at hl 0 rfl) ?_
  refine lv_iload_n hx hb dX5_post_1 rfl (lv_at hl 1 rfl) ?_
  refine rk_S (As := [.int (nI q)]) (nL := 5) ⟨hx, hb, hml, hown, hts⟩ (c5_isPort l q hq) (va_cwS 1 hts gX5_post_X5_isPort rfl rfl rfl (by decide +kernel) ⟨(Nat.le_of_ble_eq_true rfl), (Nat.le_of_ble_eq_true rfl)⟩) hK hE hW hA rfl hl.1 rfl (Nat.le_of_ble_eq_true rfl) dX5_post_2 (Nat.zero_le _) (Nat.zero_le _) (fun H locs hW => ?_)
  refine nb_if_eq (tgt := 28) hx hb dX5_post_5 (by decide) (fun c_1 => ?_) (fun c_1 => ?_)
  · skip
    refine lv_iconst (v := nI 1) hx hb dX5_post_28 (by decide) ?_
    refine lv_goto (tgt := 46) hx hb dX5_post_29 (by decide) ?_
    refine rr_puti (v := 1) hx hb hts hinX5 hown hK hW 25 (by decide) rfl rfl (hts (.fieldLink RX5 70 "SeaPostModel" "thrown" "I") (by decide +kernel)) rfl (by decide +kernel) dX5_post_46 (fun H locs hW => ?_)
    obtain ⟨σ_2, eσ_2⟩ : ∃ z : Sg, z = st σ 25 0 1 := ⟨_, rfl⟩
    rw [← eσ_2] at hW
    refine lv_aload_n hx hb dX5_post_49 rfl (lv_at hl 0 rfl) ?_
    refine rr_geti hx hb hts hinX5 hown hK hW 25 (by decide) rfl rfl (hts (.fieldLink RX5 70 "SeaPostModel" "thrown" "I") (by decide +kernel)) dX5_post_50 ?_
    refine lv_tope (congrArg nI (show σ_2 25 0 = 1 by rw [eσ_2, st_s])) ?_
    refine lv_if_eq (tgt := 58) hx hb dX5_post_53 (by decide) (fun z => absurd z (by decide)) (fun _ => ?_)
    refine lv_iconst (v := nI 0) hx hb dX5_post_56 (by decide) ?_
    exact rr_iret hx hb hr hlk (Nat.le_refl 0) (Nat.le_refl 0) hW (rP_x (show thP σ q u h9 = 1 from by unfold thP; (repeat' split) <;> first | rfl | omega) (by decide) (by subst eσ_2; first | rfl | (rw [st_st]; done))) dX5_post_57
  · skip
    refine lv_aload_n hx hb dX5_post_8 rfl (lv_at hl 0 rfl) ?_
    refine lv_iload_n hx hb dX5_post_9 rfl (lv_at hl 2 rfl) ?_
    refine rk_Vi (As := [.int (nI u)]) (nL := 5) ⟨hx, hb, hml, hown, hts⟩ (c5_isShip l G ad σ u hu h0) (cwV 1 hts gX5_post_X5_isShip rfl rfl rfl (by decide +kernel) ⟨(Nat.le_of_ble_eq_true rfl), (Nat.le_of_ble_eq_true rfl)⟩) hK hE hW hA rfl hl.1 rfl (Nat.le_of_ble_eq_true rfl) dX5_post_10 (Nat.zero_le _) (Nat.zero_le _) (fun r9 σ9 H locs hp_3 hW => ?_)
    obtain ⟨e91, e92⟩ := hp_3
    subst e91
    rw [e92] at hW
    clear e92
    refine nb_if_eq (tgt := 28) hx hb dX5_post_13 (by decide) (fun c_4 => ?_) (fun c_4 => ?_)
    · skip
      refine lv_iconst (v := nI 1) hx hb dX5_post_28 (by decide) ?_
      refine lv_goto (tgt := 46) hx hb dX5_post_29 (by decide) ?_
      refine rr_puti (v := 1) hx hb hts hinX5 hown hK hW 25 (by decide) rfl rfl (hts (.fieldLink RX5 70 "SeaPostModel" "thrown" "I") (by decide +kernel)) rfl (by decide +kernel) dX5_post_46 (fun H locs hW => ?_)
      obtain ⟨σ_5, eσ_5⟩ : ∃ z : Sg, z = st σ 25 0 1 := ⟨_, rfl⟩
      rw [← eσ_5] at hW
      refine lv_aload_n hx hb dX5_post_49 rfl (lv_at hl 0 rfl) ?_
      refine rr_geti hx hb hts hinX5 hown hK hW 25 (by decide) rfl rfl (hts (.fieldLink RX5 70 "SeaPostModel" "thrown" "I") (by decide +kernel)) dX5_post_50 ?_
      refine lv_tope (congrArg nI (show σ_5 25 0 = 1 by rw [eσ_5, st_s])) ?_
      refine lv_if_eq (tgt := 58) hx hb dX5_post_53 (by decide) (fun z => absurd z (by decide)) (fun _ => ?_)
      refine lv_iconst (v := nI 0) hx hb dX5_post_56 (by decide) ?_
      exact rr_iret hx hb hr hlk (Nat.le_refl 0) (Nat.le_refl 0) hW (rP_x (show thP σ q u h9 = 1 from by unfold thP; (repeat' split) <;> first | rfl | omega) (by decide) (by subst eσ_5; first | rfl | (rw [st_st]; done))) dX5_post_57
    · skip
      refine lv_iload_n hx hb dX5_post_16 rfl (lv_at hl 3 rfl) ?_
      refine rk_S (As := [.int (nI h9)]) (nL := 5) ⟨hx, hb, hml, hown, hts⟩ (c5_isPort l h9 hh) (va_cwS 1 hts gX5_post_X5_isPort rfl rfl rfl (by decide +kernel) ⟨(Nat.le_of_ble_eq_true rfl), (Nat.le_of_ble_eq_true rfl)⟩) hK hE hW hA rfl hl.1 rfl (Nat.le_of_ble_eq_true rfl) dX5_post_17 (Nat.zero_le _) (Nat.zero_le _) (fun H locs hW => ?_)
      refine nb_if_ne (tgt := 32) hx hb dX5_post_20 (by decide) (fun c_6 => ?_) (fun c_6 => ?_)
      · skip
        refine lv_aload_n hx hb dX5_post_32 rfl (lv_at hl 0 rfl) ?_
        refine rr_geti hx hb hts hinX5 hown hK hW 8 (by decide) rfl rfl (hts (.fieldLink RX5 140 "SeaPostModel" "letters" "I") (by decide +kernel)) dX5_post_33 ?_
        refine lv_bipush (v := nI 40) hx hb dX5_post_36 (by decide) ?_
        refine nv_icmp_ne (u := σ 8 0) (v := 40) (tgt := 45) hx hb dX5_post_38 (by decide) (by omega) (by omega) (fun c_7 => ?_) (fun c_7 => ?_)
        · skip
          refine lv_iconst (v := nI 0) hx hb dX5_post_45 (by decide) ?_
          refine rr_puti (v := 0) hx hb hts hinX5 hown hK hW 25 (by decide) rfl rfl (hts (.fieldLink RX5 70 "SeaPostModel" "thrown" "I") (by decide +kernel)) rfl (by decide +kernel) dX5_post_46 (fun H locs hW => ?_)
          obtain ⟨σ_8, eσ_8⟩ : ∃ z : Sg, z = st σ 25 0 0 := ⟨_, rfl⟩
          rw [← eσ_8] at hW
          refine lv_aload_n hx hb dX5_post_49 rfl (lv_at hl 0 rfl) ?_
          refine rr_geti hx hb hts hinX5 hown hK hW 25 (by decide) rfl rfl (hts (.fieldLink RX5 70 "SeaPostModel" "thrown" "I") (by decide +kernel)) dX5_post_50 ?_
          refine lv_tope (congrArg nI (show σ_8 25 0 = 0 by rw [eσ_8, st_s])) ?_
          refine lv_if_eq (tgt := 58) hx hb dX5_post_53 (by decide) (fun _ => ?_) (fun z => absurd (by decide) z)
          refine lv_aload_n hx hb dX5_post_58 rfl (lv_at hl 0 rfl) ?_
          refine rr_geti hx hb hts hinX5 hown hK hW 8 (by decide) rfl rfl (hts (.fieldLink RX5 140 "SeaPostModel" "letters" "I") (by decide +kernel)) dX5_post_59 ?_
          refine lv_tope (congrArg nI (show σ_8 8 0 = σ 8 0 by rw [eσ_8, st_f (by decide)])) ?_
          refine lv_istore (lv' := [(4, .int (nI (σ 8 0))), (0, .ref (ad 0)), (1, .int (nI q)), (2, .int (nI u)), (3, .int (nI h9))]) hx hb dX5_post_62 hl (by decide) rfl (fun ls hl => ?_)
          refine lv_aload_n hx hb dX5_post_64 rfl (lv_at hl 1 rfl) ?_
          refine lv_dup hx hb dX5_post_65 rfl ?_
          refine rr_geti hx hb hts hinX5 hown hK hW 8 (by decide) rfl rfl (hts (.fieldLink RX5 140 "SeaPostModel" "letters" "I") (by decide +kernel)) dX5_post_66 ?_
          refine lv_tope (congrArg nI (show σ_8 8 0 = σ 8 0 by rw [eσ_8, st_f (by decide)])) ?_
          refine lv_iconst (v := nI 1) hx hb dX5_post_69 (by decide) ?_
          refine lv_iadd hx hb dX5_post_70 (lv_tope (nI_add (σ 8 0) 1) ?_)
          refine rr_puti (v := σ 8 0 + 1) hx hb hts hinX5 hown hK hW 8 (by decide) rfl rfl (hts (.fieldLink RX5 140 "SeaPostModel" "letters" "I") (by decide +kernel)) rfl (by decide +kernel) dX5_post_71 (fun H locs hW => ?_)
          obtain ⟨σ_9, eσ_9⟩ : ∃ z : Sg, z = st σ_8 8 0 (σ 8 0 + 1) := ⟨_, rfl⟩
          rw [← eσ_9] at hW
          refine lv_aload_n hx hb dX5_post_74 rfl (lv_at hl 1 rfl) ?_
          refine rr_geta hx hb hts hinX5 hown hK hW 9 (by decide) rfl rfl (hts (.fieldLink RX5 31 "SeaPostModel" "its" "[I") (by decide +kernel)) dX5_post_75 ?_
          refine lv_iload hx hb dX5_post_78 (lv_at hl 0 rfl) ?_
          refine lv_iload_n hx hb dX5_post_80 rfl (lv_at hl 3 rfl) ?_
          refine rr_ast (j := σ 8 0) (v := u) hx hb hK hW 9 rfl rfl (show σ 8 0 < 40 by omega) dX5_post_81 (fun H locs hW => ?_)
          obtain ⟨σ_10, eσ_10⟩ : ∃ z : Sg, z = st σ_9 9 (σ 8 0) u := ⟨_, rfl⟩
          rw [← eσ_10] at hW
          refine lv_aload_n hx hb dX5_post_82 rfl (lv_at hl 1 rfl) ?_
          refine rr_geta hx hb hts hinX5 hown hK hW 10 (by decide) rfl rfl (hts (.fieldLink RX5 34 "SeaPostModel" "homeOf" "[I") (by decide +kernel)) dX5_post_83 ?_
          refine lv_iload hx hb dX5_post_86 (lv_at hl 0 rfl) ?_
          refine lv_iload_n hx hb dX5_post_88 rfl (lv_at hl 4 rfl) ?_
          refine rr_ast (j := σ 8 0) (v := h9) hx hb hK hW 10 rfl rfl (show σ 8 0 < 40 by omega) dX5_post_89 (fun H locs hW => ?_)
          obtain ⟨σ_11, eσ_11⟩ : ∃ z : Sg, z = st σ_10 10 (σ 8 0) h9 := ⟨_, rfl⟩
          rw [← eσ_11] at hW
          refine lv_aload_n hx hb dX5_post_90 rfl (lv_at hl 1 rfl) ?_
          refine rr_geta hx hb hts hinX5 hown hK hW 11 (by decide) rfl rfl (hts (.fieldLink RX5 37 "SeaPostModel" "postedOn" "[I") (by decide +kernel)) dX5_post_91 ?_
          refine lv_iload hx hb dX5_post_94 (lv_at hl 0 rfl) ?_
          refine lv_aload_n hx hb dX5_post_96 rfl (lv_at hl 1 rfl) ?_
          refine rr_geti hx hb hts hinX5 hown hK hW 24 (by decide) rfl rfl (hts (.fieldLink RX5 92 "SeaPostModel" "today" "I") (by decide +kernel)) dX5_post_97 ?_
          refine lv_tope (congrArg nI (show σ_11 24 0 = σ 24 0 by rw [eσ_11, st_f (by decide), eσ_10, st_f (by decide), eσ_9, st_f (by decide), eσ_8, st_f (by decide)])) ?_
          refine rr_ast (j := σ 8 0) (v := σ 24 0) hx hb hK hW 11 rfl rfl (show σ 8 0 < 40 by omega) dX5_post_100 (fun H locs hW => ?_)
          obtain ⟨σ_12, eσ_12⟩ : ∃ z : Sg, z = st σ_11 11 (σ 8 0) (σ 24 0) := ⟨_, rfl⟩
          rw [← eσ_12] at hW
          refine lv_aload_n hx hb dX5_post_101 rfl (lv_at hl 1 rfl) ?_
          refine rr_geta hx hb hts hinX5 hown hK hW 13 (by decide) rfl rfl (hts (.fieldLink RX5 43 "SeaPostModel" "portOf" "[I") (by decide +kernel)) dX5_post_102 ?_
          refine lv_iload hx hb dX5_post_105 (lv_at hl 0 rfl) ?_
          refine lv_iload_n hx hb dX5_post_107 rfl (lv_at hl 2 rfl) ?_
          refine rr_ast (j := σ 8 0) (v := q) hx hb hK hW 13 rfl rfl (show σ 8 0 < 40 by omega) dX5_post_108 (fun H locs hW => ?_)
          obtain ⟨σ_13, eσ_13⟩ : ∃ z : Sg, z = st σ_12 13 (σ 8 0) q := ⟨_, rfl⟩
          rw [← eσ_13] at hW
          refine lv_aload_n hx hb dX5_post_109 rfl (lv_at hl 1 rfl) ?_
          refine rr_geta hx hb hts hinX5 hown hK hW 12 (by decide) rfl rfl (hts (.fieldLink RX5 40 "SeaPostModel" "stateOf" "[I") (by decide +kernel)) dX5_post_110 ?_
          refine lv_iload hx hb dX5_post_113 (lv_at hl 0 rfl) ?_
          refine lv_bipush (v := nI 8) hx hb dX5_post_115 (by decide) ?_
          refine rr_ast (j := σ 8 0) (v := 8) hx hb hK hW 12 rfl rfl (show σ 8 0 < 40 by omega) dX5_post_117 (fun H locs hW => ?_)
          obtain ⟨σ_14, eσ_14⟩ : ∃ z : Sg, z = st σ_13 12 (σ 8 0) 8 := ⟨_, rfl⟩
          rw [← eσ_14] at hW
          obtain ⟨z9, ez9⟩ : ∃ z : Sg, z = st σ 25 0 0 := ⟨_, rfl⟩
          have hI9 : IV z9 := by rw [ez9]; exact hI.x25
          have h8z : z9 8 0 = σ 8 0 := by rw [ez9, st_f (by decide)]
          have hpN : σ_14 = poN z9 q u h9 := by rw [ez9]; subst eσ_8; subst eσ_9; subst eσ_10; subst eσ_11; subst eσ_12; subst eσ_13; subst eσ_14; rfl
          rw [hpN] at hW
          have h18 : poN z9 q u h9 18 (σ 8 0) = 0 := by rw [← h8z, poN_f (by decide)]; exact (hI9.2.2.2.2.1 _ (Nat.le_refl _)).1
          obtain ⟨b1, b2, b3, b4, b5⟩ := poW_ok (σ := z9) (p := q) (s := u) (h := h9) hI9 (by omega) (by omega) (by rw [ez9, st_f (by decide)]; omega) (by omega)
          rw [h8z] at b2 b5
          have hle1 := hI.2.1.le
          have hle2 := hI.2.2.1.le
          refine lv_aload_n hx hb dX5_post_118 rfl (lv_at hl 1 rfl) ?_
          refine lv_iload hx hb dX5_post_119 (lv_at hl 0 rfl) ?_
          refine lv_bipush (v := nI 65) hx hb dX5_post_121 (by decide) ?_
          refine lv_iload_n hx hb dX5_post_123 rfl (lv_at hl 2 rfl) ?_
          refine lv_iadd hx hb dX5_post_124 (lv_tope (nI_add 65 q) ?_)
          refine rk_Vv (As := [.int (nI (σ 8 0)), .int (nI (65 + q))]) (nL := 5) ⟨hx, hb, hml, hown, hts⟩ (c5_writes l G ad (poN z9 q u h9) (σ 8 0) (65 + q) (by omega) (by omega)) (cwV 2 hts gX5_post_X5_writes rfl rfl rfl (by decide +kernel) ⟨(Nat.le_of_ble_eq_true rfl), (Nat.le_of_ble_eq_true rfl)⟩) hK hE hW hA rfl hl.1 rfl (Nat.le_of_ble_eq_true rfl) dX5_post_125 (Nat.zero_le _) (Nat.zero_le _) (fun σ9 H locs hp_15 hW => ?_)
          rw [hp_15] at hW
          refine lv_aload_n hx hb dX5_post_128 rfl (lv_at hl 1 rfl) ?_
          refine lv_iload hx hb dX5_post_129 (lv_at hl 0 rfl) ?_
          refine rk_Vv (As := [.int (nI (σ 8 0))]) (nL := 5) ⟨hx, hb, hml, hown, hts⟩ (c5_writesDay l G ad (wr (poN z9 q u h9) (σ 8 0) (65 + q)) (σ 8 0) (by omega) (by rw [wr_18]; omega) (by rw [wr_f (by decide), poN_f (by decide), ez9]; exact hd)) (cwV 1 hts gX5_post_X5_writesDay rfl rfl rfl (by decide +kernel) ⟨(Nat.le_of_ble_eq_true rfl), (Nat.le_of_ble_eq_true rfl)⟩) hK hE hW hA rfl hl.1 rfl (Nat.le_of_ble_eq_true rfl) dX5_post_131 (Nat.zero_le _) (Nat.zero_le _) (fun σ9 H locs hp_16 hW => ?_)
          rw [hp_16, show wDay (wr (poN z9 q u h9) (σ 8 0) (65 + q)) (σ 8 0) = poW z9 q u h9 by unfold poW; rw [h8z]] at hW
          refine lv_aload_n hx hb dX5_post_134 rfl (lv_at hl 1 rfl) ?_
          refine lv_iload hx hb dX5_post_135 (lv_at hl 0 rfl) ?_
          refine rk_Vv (As := [.int (nI (σ 8 0))]) (nL := 5) ⟨hx, hb, hml, hown, hts⟩ (c5_handles l G ad (poW z9 q u h9) (σ 8 0) (by omega) b1.b (by omega) b2.2.2.2.2.2.1.lp (by rw [b4 20 0 (by decide), poN_f (by decide), ez9]; show σ 20 0 < 40; omega) (by rw [b4 22 0 (by decide), poN_f (by decide), ez9]; show σ 22 0 < 40; omega)) (cwV 1 hts gX5_post_X5_handles rfl rfl rfl (by decide +kernel) ⟨(Nat.le_of_ble_eq_true rfl), (Nat.le_of_ble_eq_true rfl)⟩) hK hE hW hA rfl hl.1 rfl (Nat.le_of_ble_eq_true rfl) dX5_post_137 (Nat.zero_le _) (Nat.zero_le _) (fun σ9 H locs hp_17 hW => ?_)
          rw [hp_17] at hW
          refine lv_iload hx hb dX5_post_140 (lv_at hl 0 rfl) ?_
          exact rr_iret hx hb hr hlk (Nat.le_refl 0) (Nat.le_refl 0) hW (rP_0 (show thP σ q u h9 = 0 from by unfold thP; (repeat' split) <;> first | rfl | omega) rfl (by rw [← h8z]; subst ez9; rfl)) dX5_post_142
        · skip
          refine lv_iconst (v := nI 2) hx hb dX5_post_41 (by decide) ?_
          refine lv_goto (tgt := 46) hx hb dX5_post_42 (by decide) ?_
          refine rr_puti (v := 2) hx hb hts hinX5 hown hK hW 25 (by decide) rfl rfl (hts (.fieldLink RX5 70 "SeaPostModel" "thrown" "I") (by decide +kernel)) rfl (by decide +kernel) dX5_post_46 (fun H locs hW => ?_)
          obtain ⟨σ_18, eσ_18⟩ : ∃ z : Sg, z = st σ 25 0 2 := ⟨_, rfl⟩
          rw [← eσ_18] at hW
          refine lv_aload_n hx hb dX5_post_49 rfl (lv_at hl 0 rfl) ?_
          refine rr_geti hx hb hts hinX5 hown hK hW 25 (by decide) rfl rfl (hts (.fieldLink RX5 70 "SeaPostModel" "thrown" "I") (by decide +kernel)) dX5_post_50 ?_
          refine lv_tope (congrArg nI (show σ_18 25 0 = 2 by rw [eσ_18, st_s])) ?_
          refine lv_if_eq (tgt := 58) hx hb dX5_post_53 (by decide) (fun z => absurd z (by decide)) (fun _ => ?_)
          refine lv_iconst (v := nI 0) hx hb dX5_post_56 (by decide) ?_
          exact rr_iret hx hb hr hlk (Nat.le_refl 0) (Nat.le_refl 0) hW (rP_x (show thP σ q u h9 = 2 from by unfold thP; (repeat' split) <;> first | rfl | omega) (by decide) (by subst eσ_18; first | rfl | (rw [st_st]; done))) dX5_post_57
      · skip
        refine lv_iload_n hx hb dX5_post_23 rfl (lv_at hl 3 rfl) ?_
        refine lv_iconst (v := nI 4294967295) hx hb dX5_post_24 (by decide) ?_
        refine nv_icmp_eq (u := h9) (v := 4294967295) (tgt := 32) hx hb dX5_post_25 (by decide) (by omega) (by omega) (fun c_19 => ?_) (fun c_19 => ?_)
        · skip
          refine lv_aload_n hx hb dX5_post_32 rfl (lv_at hl 0 rfl) ?_
          refine rr_geti hx hb hts hinX5 hown hK hW 8 (by decide) rfl rfl (hts (.fieldLink RX5 140 "SeaPostModel" "letters" "I") (by decide +kernel)) dX5_post_33 ?_
          refine lv_bipush (v := nI 40) hx hb dX5_post_36 (by decide) ?_
          refine nv_icmp_ne (u := σ 8 0) (v := 40) (tgt := 45) hx hb dX5_post_38 (by decide) (by omega) (by omega) (fun c_20 => ?_) (fun c_20 => ?_)
          · skip
            refine lv_iconst (v := nI 0) hx hb dX5_post_45 (by decide) ?_
            refine rr_puti (v := 0) hx hb hts hinX5 hown hK hW 25 (by decide) rfl rfl (hts (.fieldLink RX5 70 "SeaPostModel" "thrown" "I") (by decide +kernel)) rfl (by decide +kernel) dX5_post_46 (fun H locs hW => ?_)
            obtain ⟨σ_21, eσ_21⟩ : ∃ z : Sg, z = st σ 25 0 0 := ⟨_, rfl⟩
            rw [← eσ_21] at hW
            refine lv_aload_n hx hb dX5_post_49 rfl (lv_at hl 0 rfl) ?_
            refine rr_geti hx hb hts hinX5 hown hK hW 25 (by decide) rfl rfl (hts (.fieldLink RX5 70 "SeaPostModel" "thrown" "I") (by decide +kernel)) dX5_post_50 ?_
            refine lv_tope (congrArg nI (show σ_21 25 0 = 0 by rw [eσ_21, st_s])) ?_
            refine lv_if_eq (tgt := 58) hx hb dX5_post_53 (by decide) (fun _ => ?_) (fun z => absurd (by decide) z)
            refine lv_aload_n hx hb dX5_post_58 rfl (lv_at hl 0 rfl) ?_
            refine rr_geti hx hb hts hinX5 hown hK hW 8 (by decide) rfl rfl (hts (.fieldLink RX5 140 "SeaPostModel" "letters" "I") (by decide +kernel)) dX5_post_59 ?_
            refine lv_tope (congrArg nI (show σ_21 8 0 = σ 8 0 by rw [eσ_21, st_f (by decide)])) ?_
            refine lv_istore (lv' := [(4, .int (nI (σ 8 0))), (0, .ref (ad 0)), (1, .int (nI q)), (2, .int (nI u)), (3, .int (nI h9))]) hx hb dX5_post_62 hl (by decide) rfl (fun ls hl => ?_)
            refine lv_aload_n hx hb dX5_post_64 rfl (lv_at hl 1 rfl) ?_
            refine lv_dup hx hb dX5_post_65 rfl ?_
            refine rr_geti hx hb hts hinX5 hown hK hW 8 (by decide) rfl rfl (hts (.fieldLink RX5 140 "SeaPostModel" "letters" "I") (by decide +kernel)) dX5_post_66 ?_
            refine lv_tope (congrArg nI (show σ_21 8 0 = σ 8 0 by rw [eσ_21, st_f (by decide)])) ?_
            refine lv_iconst (v := nI 1) hx hb dX5_post_69 (by decide) ?_
            refine lv_iadd hx hb dX5_post_70 (lv_tope (nI_add (σ 8 0) 1) ?_)
            refine rr_puti (v := σ 8 0 + 1) hx hb hts hinX5 hown hK hW 8 (by decide) rfl rfl (hts (.fieldLink RX5 140 "SeaPostModel" "letters" "I") (by decide +kernel)) rfl (by decide +kernel) dX5_post_71 (fun H locs hW => ?_)
            obtain ⟨σ_22, eσ_22⟩ : ∃ z : Sg, z = st σ_21 8 0 (σ 8 0 + 1) := ⟨_, rfl⟩
            rw [← eσ_22] at hW
            refine lv_aload_n hx hb dX5_post_74 rfl (lv_at hl 1 rfl) ?_
            refine rr_geta hx hb hts hinX5 hown hK hW 9 (by decide) rfl rfl (hts (.fieldLink RX5 31 "SeaPostModel" "its" "[I") (by decide +kernel)) dX5_post_75 ?_
            refine lv_iload hx hb dX5_post_78 (lv_at hl 0 rfl) ?_
            refine lv_iload_n hx hb dX5_post_80 rfl (lv_at hl 3 rfl) ?_
            refine rr_ast (j := σ 8 0) (v := u) hx hb hK hW 9 rfl rfl (show σ 8 0 < 40 by omega) dX5_post_81 (fun H locs hW => ?_)
            obtain ⟨σ_23, eσ_23⟩ : ∃ z : Sg, z = st σ_22 9 (σ 8 0) u := ⟨_, rfl⟩
            rw [← eσ_23] at hW
            refine lv_aload_n hx hb dX5_post_82 rfl (lv_at hl 1 rfl) ?_
            refine rr_geta hx hb hts hinX5 hown hK hW 10 (by decide) rfl rfl (hts (.fieldLink RX5 34 "SeaPostModel" "homeOf" "[I") (by decide +kernel)) dX5_post_83 ?_
            refine lv_iload hx hb dX5_post_86 (lv_at hl 0 rfl) ?_
            refine lv_iload_n hx hb dX5_post_88 rfl (lv_at hl 4 rfl) ?_
            refine rr_ast (j := σ 8 0) (v := h9) hx hb hK hW 10 rfl rfl (show σ 8 0 < 40 by omega) dX5_post_89 (fun H locs hW => ?_)
            obtain ⟨σ_24, eσ_24⟩ : ∃ z : Sg, z = st σ_23 10 (σ 8 0) h9 := ⟨_, rfl⟩
            rw [← eσ_24] at hW
            refine lv_aload_n hx hb dX5_post_90 rfl (lv_at hl 1 rfl) ?_
            refine rr_geta hx hb hts hinX5 hown hK hW 11 (by decide) rfl rfl (hts (.fieldLink RX5 37 "SeaPostModel" "postedOn" "[I") (by decide +kernel)) dX5_post_91 ?_
            refine lv_iload hx hb dX5_post_94 (lv_at hl 0 rfl) ?_
            refine lv_aload_n hx hb dX5_post_96 rfl (lv_at hl 1 rfl) ?_
            refine rr_geti hx hb hts hinX5 hown hK hW 24 (by decide) rfl rfl (hts (.fieldLink RX5 92 "SeaPostModel" "today" "I") (by decide +kernel)) dX5_post_97 ?_
            refine lv_tope (congrArg nI (show σ_24 24 0 = σ 24 0 by rw [eσ_24, st_f (by decide), eσ_23, st_f (by decide), eσ_22, st_f (by decide), eσ_21, st_f (by decide)])) ?_
            refine rr_ast (j := σ 8 0) (v := σ 24 0) hx hb hK hW 11 rfl rfl (show σ 8 0 < 40 by omega) dX5_post_100 (fun H locs hW => ?_)
            obtain ⟨σ_25, eσ_25⟩ : ∃ z : Sg, z = st σ_24 11 (σ 8 0) (σ 24 0) := ⟨_, rfl⟩
            rw [← eσ_25] at hW
            refine lv_aload_n hx hb dX5_post_101 rfl (lv_at hl 1 rfl) ?_
            refine rr_geta hx hb hts hinX5 hown hK hW 13 (by decide) rfl rfl (hts (.fieldLink RX5 43 "SeaPostModel" "portOf" "[I") (by decide +kernel)) dX5_post_102 ?_
            refine lv_iload hx hb dX5_post_105 (lv_at hl 0 rfl) ?_
            refine lv_iload_n hx hb dX5_post_107 rfl (lv_at hl 2 rfl) ?_
            refine rr_ast (j := σ 8 0) (v := q) hx hb hK hW 13 rfl rfl (show σ 8 0 < 40 by omega) dX5_post_108 (fun H locs hW => ?_)
            obtain ⟨σ_26, eσ_26⟩ : ∃ z : Sg, z = st σ_25 13 (σ 8 0) q := ⟨_, rfl⟩
            rw [← eσ_26] at hW
            refine lv_aload_n hx hb dX5_post_109 rfl (lv_at hl 1 rfl) ?_
            refine rr_geta hx hb hts hinX5 hown hK hW 12 (by decide) rfl rfl (hts (.fieldLink RX5 40 "SeaPostModel" "stateOf" "[I") (by decide +kernel)) dX5_post_110 ?_
            refine lv_iload hx hb dX5_post_113 (lv_at hl 0 rfl) ?_
            refine lv_bipush (v := nI 8) hx hb dX5_post_115 (by decide) ?_
            refine rr_ast (j := σ 8 0) (v := 8) hx hb hK hW 12 rfl rfl (show σ 8 0 < 40 by omega) dX5_post_117 (fun H locs hW => ?_)
            obtain ⟨σ_27, eσ_27⟩ : ∃ z : Sg, z = st σ_26 12 (σ 8 0) 8 := ⟨_, rfl⟩
            rw [← eσ_27] at hW
            obtain ⟨z9, ez9⟩ : ∃ z : Sg, z = st σ 25 0 0 := ⟨_, rfl⟩
            have hI9 : IV z9 := by rw [ez9]; exact hI.x25
            have h8z : z9 8 0 = σ 8 0 := by rw [ez9, st_f (by decide)]
            have hpN : σ_27 = poN z9 q u h9 := by rw [ez9]; subst eσ_21; subst eσ_22; subst eσ_23; subst eσ_24; subst eσ_25; subst eσ_26; subst eσ_27; rfl
            rw [hpN] at hW
            have h18 : poN z9 q u h9 18 (σ 8 0) = 0 := by rw [← h8z, poN_f (by decide)]; exact (hI9.2.2.2.2.1 _ (Nat.le_refl _)).1
            obtain ⟨b1, b2, b3, b4, b5⟩ := poW_ok (σ := z9) (p := q) (s := u) (h := h9) hI9 (by omega) (by omega) (by rw [ez9, st_f (by decide)]; omega) (by omega)
            rw [h8z] at b2 b5
            have hle1 := hI.2.1.le
            have hle2 := hI.2.2.1.le
            refine lv_aload_n hx hb dX5_post_118 rfl (lv_at hl 1 rfl) ?_
            refine lv_iload hx hb dX5_post_119 (lv_at hl 0 rfl) ?_
            refine lv_bipush (v := nI 65) hx hb dX5_post_121 (by decide) ?_
            refine lv_iload_n hx hb dX5_post_123 rfl (lv_at hl 2 rfl) ?_
            refine lv_iadd hx hb dX5_post_124 (lv_tope (nI_add 65 q) ?_)
            refine rk_Vv (As := [.int (nI (σ 8 0)), .int (nI (65 + q))]) (nL := 5) ⟨hx, hb, hml, hown, hts⟩ (c5_writes l G ad (poN z9 q u h9) (σ 8 0) (65 + q) (by omega) (by omega)) (cwV 2 hts gX5_post_X5_writes rfl rfl rfl (by decide +kernel) ⟨(Nat.le_of_ble_eq_true rfl), (Nat.le_of_ble_eq_true rfl)⟩) hK hE hW hA rfl hl.1 rfl (Nat.le_of_ble_eq_true rfl) dX5_post_125 (Nat.zero_le _) (Nat.zero_le _) (fun σ9 H locs hp_28 hW => ?_)
            rw [hp_28] at hW
            refine lv_aload_n hx hb dX5_post_128 rfl (lv_at hl 1 rfl) ?_
            refine lv_iload hx hb dX5_post_129 (lv_at hl 0 rfl) ?_
            refine rk_Vv (As := [.int (nI (σ 8 0))]) (nL := 5) ⟨hx, hb, hml, hown, hts⟩ (c5_writesDay l G ad (wr (poN z9 q u h9) (σ 8 0) (65 + q)) (σ 8 0) (by omega) (by rw [wr_18]; omega) (by rw [wr_f (by decide), poN_f (by decide), ez9]; exact hd)) (cwV 1 hts gX5_post_X5_writesDay rfl rfl rfl (by decide +kernel) ⟨(Nat.le_of_ble_eq_true rfl), (Nat.le_of_ble_eq_true rfl)⟩) hK hE hW hA rfl hl.1 rfl (Nat.le_of_ble_eq_true rfl) dX5_post_131 (Nat.zero_le _) (Nat.zero_le _) (fun σ9 H locs hp_29 hW => ?_)
            rw [hp_29, show wDay (wr (poN z9 q u h9) (σ 8 0) (65 + q)) (σ 8 0) = poW z9 q u h9 by unfold poW; rw [h8z]] at hW
            refine lv_aload_n hx hb dX5_post_134 rfl (lv_at hl 1 rfl) ?_
            refine lv_iload hx hb dX5_post_135 (lv_at hl 0 rfl) ?_
            refine rk_Vv (As := [.int (nI (σ 8 0))]) (nL := 5) ⟨hx, hb, hml, hown, hts⟩ (c5_handles l G ad (poW z9 q u h9) (σ 8 0) (by omega) b1.b (by omega) b2.2.2.2.2.2.1.lp (by rw [b4 20 0 (by decide), poN_f (by decide), ez9]; show σ 20 0 < 40; omega) (by rw [b4 22 0 (by decide), poN_f (by decide), ez9]; show σ 22 0 < 40; omega)) (cwV 1 hts gX5_post_X5_handles rfl rfl rfl (by decide +kernel) ⟨(Nat.le_of_ble_eq_true rfl), (Nat.le_of_ble_eq_true rfl)⟩) hK hE hW hA rfl hl.1 rfl (Nat.le_of_ble_eq_true rfl) dX5_post_137 (Nat.zero_le _) (Nat.zero_le _) (fun σ9 H locs hp_30 hW => ?_)
            rw [hp_30] at hW
            refine lv_iload hx hb dX5_post_140 (lv_at hl 0 rfl) ?_
            exact rr_iret hx hb hr hlk (Nat.le_refl 0) (Nat.le_refl 0) hW (rP_0 (show thP σ q u h9 = 0 from by unfold thP; (repeat' split) <;> first | rfl | omega) rfl (by rw [← h8z]; subst ez9; rfl)) dX5_post_142
          · skip
            refine lv_iconst (v := nI 2) hx hb dX5_post_41 (by decide) ?_
            refine lv_goto (tgt := 46) hx hb dX5_post_42 (by decide) ?_
            refine rr_puti (v := 2) hx hb hts hinX5 hown hK hW 25 (by decide) rfl rfl (hts (.fieldLink RX5 70 "SeaPostModel" "thrown" "I") (by decide +kernel)) rfl (by decide +kernel) dX5_post_46 (fun H locs hW => ?_)
            obtain ⟨σ_31, eσ_31⟩ : ∃ z : Sg, z = st σ 25 0 2 := ⟨_, rfl⟩
            rw [← eσ_31] at hW
            refine lv_aload_n hx hb dX5_post_49 rfl (lv_at hl 0 rfl) ?_
            refine rr_geti hx hb hts hinX5 hown hK hW 25 (by decide) rfl rfl (hts (.fieldLink RX5 70 "SeaPostModel" "thrown" "I") (by decide +kernel)) dX5_post_50 ?_
            refine lv_tope (congrArg nI (show σ_31 25 0 = 2 by rw [eσ_31, st_s])) ?_
            refine lv_if_eq (tgt := 58) hx hb dX5_post_53 (by decide) (fun z => absurd z (by decide)) (fun _ => ?_)
            refine lv_iconst (v := nI 0) hx hb dX5_post_56 (by decide) ?_
            exact rr_iret hx hb hr hlk (Nat.le_refl 0) (Nat.le_refl 0) hW (rP_x (show thP σ q u h9 = 2 from by unfold thP; (repeat' split) <;> first | rfl | omega) (by decide) (by subst eσ_31; first | rfl | (rw [st_st]; done))) dX5_post_57
        · skip
          refine lv_iconst (v := nI 1) hx hb dX5_post_28 (by decide) ?_
          refine lv_goto (tgt := 46) hx hb dX5_post_29 (by decide) ?_
          refine rr_puti (v := 1) hx hb hts hinX5 hown hK hW 25 (by decide) rfl rfl (hts (.fieldLink RX5 70 "SeaPostModel" "thrown" "I") (by decide +kernel)) rfl (by decide +kernel) dX5_post_46 (fun H locs hW => ?_)
          obtain ⟨σ_32, eσ_32⟩ : ∃ z : Sg, z = st σ 25 0 1 := ⟨_, rfl⟩
          rw [← eσ_32] at hW
          refine lv_aload_n hx hb dX5_post_49 rfl (lv_at hl 0 rfl) ?_
          refine rr_geti hx hb hts hinX5 hown hK hW 25 (by decide) rfl rfl (hts (.fieldLink RX5 70 "SeaPostModel" "thrown" "I") (by decide +kernel)) dX5_post_50 ?_
          refine lv_tope (congrArg nI (show σ_32 25 0 = 1 by rw [eσ_32, st_s])) ?_
          refine lv_if_eq (tgt := 58) hx hb dX5_post_53 (by decide) (fun z => absurd z (by decide)) (fun _ => ?_)
          refine lv_iconst (v := nI 0) hx hb dX5_post_56 (by decide) ?_
          exact rr_iret hx hb hr hlk (Nat.le_refl 0) (Nat.le_refl 0) hW (rP_x (show thP σ q u h9 = 1 from by unfold thP; (repeat' split) <;> first | rfl | omega) (by decide) (by subst eσ_32; first | rfl | (rw [st_st]; done))) dX5_post_57
