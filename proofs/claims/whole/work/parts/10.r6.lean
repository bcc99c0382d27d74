/-! THE REFERENCE'S METHODS, SIXTH PART (rows laid by my program gen/ref6.py) -/
theorem daA_f {σ : Sg} {i g j : Nat} (h : g ≠ 17 ∧ g ≠ 18) : daA σ i g j = σ g j := by
  unfold daA
  split
  · exact wDay_f h
  · rfl
theorem hp_wDay {σ : Sg} {i : Nat} (h : hasP σ i) : lpS (wDay σ i) i < wDay σ i 18 i := h.xwDay.lp

set_option maxHeartbeats 4000000 in
set_option maxRecDepth 100000 in
theorem c5_dawns (l : Launch) (G : mG) (ad : Nat → Nat) (σ : Sg) (i : Nat) (hM : IM σ i) (hi8 : i < σ 8 0) : cRv l yX5_dawns wsX5_dawns 4 G ad σ [.int (nI i)] (fun σ9 => σ9 = da σ i) := by
  intro M sz hR
  refine m_start cX5_dawns 4 none (by decide) rfl (Nat.le_of_ble_eq_true rfl) ?_
  intro p e s m below meth c ls hx hb hr hml hown hlk hnm hts hK hsz hE hW hl
  have hA := mA_A (M := M) hsz
  have hl : lv_has ls 4 [(0, .ref (ad 0)), (1, .int (nI i))] := hl
  have hW := rW_start hR hW
  have hinX5 : ∀ w ∈ u_ws RX5 TX5 26, w ∈ wsX5_dawns := (fun _ h => List.mem_cons_of_mem _ (List.mem_append_right _ h))
  have hB := hM.1.b
  obtain ⟨⟨h0, h8, hd⟩, h7, h3, h12, h45, h17, hl9, h23, h1921⟩ := id hB
  obtain ⟨hm, hact, hhp⟩ := da_pre hM hi8
  have hi9 := hl9 i
  have h23p := h23 (σ 13 i)
  have hi : i < 40 := by omega
  have hpo := (hM.2.2.2.2.1 i (Nat.le_refl i) hi8).2.1
  refine lv_aload_n hx hb dX5_dawns_0 rfl (lv_at hl 0 rfl) ?_
  refine rr_geta hx hb hts hinX5 hown hK hW 12 (by decide) rfl rfl (hts (.fieldLink RX5 40 "SeaPostModel" "stateOf" "[I") (by decide +kernel)) dX5_dawns_1 ?_
  refine lv_iload_n hx hb dX5_dawns_4 rfl (lv_at hl 1 rfl) ?_
  refine rr_ald (j := i) hx hb hK hW 12 rfl rfl (show i < 40 by omega) dX5_dawns_5 ?_
  refine lv_iconst (v := nI 3) hx hb dX5_dawns_6 (by decide) ?_
  refine m_joinI (g' := F0 m 41 ls [.int (nI (if cmes σ i then 1 else 0))]) (fun H locs => rW G ad (mA M sz) s.heap M σ H locs) (fun H locs hW => ?_) (fun J => ?_)
  · skip
    refine lv_istore_n (lv' := [(2, .int (nI (if cmes σ i then 1 else 0))), (0, .ref (ad 0)), (1, .int (nI i))]) hx hb dX5_dawns_41 rfl hl (by decide) rfl (fun ls hl => ?_)
    refine lv_aload_n hx hb dX5_dawns_42 rfl (lv_at hl 1 rfl) ?_
    refine rr_geta hx hb hts hinX5 hown hK hW 12 (by decide) rfl rfl (hts (.fieldLink RX5 40 "SeaPostModel" "stateOf" "[I") (by decide +kernel)) dX5_dawns_43 ?_
    refine lv_iload_n hx hb dX5_dawns_46 rfl (lv_at hl 2 rfl) ?_
    refine rr_ald (j := i) hx hb hK hW 12 rfl rfl (show i < 40 by omega) dX5_dawns_47 ?_
    refine m_joinI (g' := F0 m 76 ls [.int (nI (if lies σ i then 1 else 0))]) (fun H locs => rW G ad (mA M sz) s.heap M σ H locs) (fun H locs hW => ?_) (fun J => ?_)
    · skip
      refine lv_istore_n (lv' := [(3, .int (nI (if lies σ i then 1 else 0))), (2, .int (nI (if cmes σ i then 1 else 0))), (0, .ref (ad 0)), (1, .int (nI i))]) hx hb dX5_dawns_76 rfl hl (by decide) rfl (fun ls hl => ?_)
      refine lv_iload_n hx hb dX5_dawns_77 rfl (lv_at hl 1 rfl) ?_
      refine nb_if_eq (tgt := 86) hx hb dX5_dawns_78 (by decide) (fun c_1 => ?_) (fun c_1 => ?_)
      · skip
        refine lv_iload_n hx hb dX5_dawns_86 rfl (lv_at hl 1 rfl) ?_
        refine nb_if_ne (tgt := 94) hx hb dX5_dawns_87 (by decide) (fun c_2 => ?_) (fun c_2 => ?_)
        · skip
          refine lv_aload_n hx hb dX5_dawns_94 rfl (lv_at hl 2 rfl) ?_
          refine rr_geti hx hb hts hinX5 hown hK hW 24 (by decide) rfl rfl (hts (.fieldLink RX5 92 "SeaPostModel" "today" "I") (by decide +kernel)) dX5_dawns_95 ?_
          refine lv_aload_n hx hb dX5_dawns_98 rfl (lv_at hl 2 rfl) ?_
          refine rr_geta hx hb hts hinX5 hown hK hW 11 (by decide) rfl rfl (hts (.fieldLink RX5 37 "SeaPostModel" "postedOn" "[I") (by decide +kernel)) dX5_dawns_99 ?_
          refine lv_iload_n hx hb dX5_dawns_102 rfl (lv_at hl 3 rfl) ?_
          refine rr_ald (j := i) hx hb hK hW 11 rfl rfl (show i < 40 by omega) dX5_dawns_103 ?_
          refine lv_isub hx hb dX5_dawns_104 (lv_tope (pk_sub (a := σ 24 0) (b := σ 11 i) (by omega)) ?_)
          refine lv_bipush (v := nI 60) hx hb dX5_dawns_105 (by decide) ?_
          refine nv_icmp_lt (u := σ 24 0 - (σ 11 i)) (v := 60) (tgt := 118) hx hb dX5_dawns_107 (by decide) (by omega) (by omega) (fun c_3 => ?_) (fun c_3 => ?_)
          · skip
            refine lv_iload_n hx hb dX5_dawns_118 rfl (lv_at hl 1 rfl) ?_
            refine nb_if_ne (tgt := 126) hx hb dX5_dawns_119 (by decide) (fun c_4 => ?_) (fun c_4 => ?_)
            · skip
              refine lv_aload_n hx hb dX5_dawns_126 rfl (lv_at hl 2 rfl) ?_
              refine lv_iload_n hx hb dX5_dawns_127 rfl (lv_at hl 3 rfl) ?_
              refine rk_Vv (As := [.int (nI i)]) (nL := 4) ⟨hx, hb, hml, hown, hts⟩ (c5_handles l G ad σ i hi (by first | exact hB | exact hM.1.xwDay.b) (by first | omega | (have := wDay_18 (σ := σ) (i := i); omega)) (by first | exact hhp.lp | exact hp_wDay hhp) (by first | exact (hact (by first | exact Or.inl (by assumption) | exact Or.inr (by assumption))).1 | (rw [wDay_f (by decide)]; exact (hact (by first | exact Or.inl (by assumption) | exact Or.inr (by assumption))).1)) (by first | exact (hact (by first | exact Or.inl (by assumption) | exact Or.inr (by assumption))).2 | (rw [wDay_f (by decide)]; exact (hact (by first | exact Or.inl (by assumption) | exact Or.inr (by assumption))).2))) (cwV 1 hts gX5_dawns_X5_handles rfl rfl rfl (by decide +kernel) ⟨(Nat.le_of_ble_eq_true rfl), (Nat.le_of_ble_eq_true rfl)⟩) hK hE hW hA rfl hl.1 rfl (Nat.le_of_ble_eq_true rfl) dX5_dawns_128 (Nat.zero_le _) (Nat.zero_le _) (fun σ9 H locs hp_5 hW => ?_)
              obtain ⟨σ_6, eσ_6⟩ : ∃ z : Sg, z = σ9 := ⟨_, rfl⟩
              rw [← eσ_6] at hW
              rw [hp_5] at eσ_6
              clear hp_5
              exact rr_vret hx hb hr hlk (Nat.le_refl 0) (Nat.le_refl 0) hW (by subst eσ_6; unfold da; rw [if_neg (fun z => by have := z.2; omega), if_pos (by first | exact Or.inl (by assumption) | exact Or.inr (by assumption))]; rw [show daA σ i = σ from if_neg (by assumption)]) dX5_dawns_131
            · skip
              refine lv_iload_n hx hb dX5_dawns_122 rfl (lv_at hl 0 rfl) ?_
              refine nb_if_eq (tgt := 131) hx hb dX5_dawns_123 (by decide) (fun c_7 => ?_) (fun c_7 => ?_)
              · skip
                exact rr_vret hx hb hr hlk (Nat.le_refl 0) (Nat.le_refl 0) hW (by unfold da; rw [if_neg (fun z => by rcases z.1 with z | z; exact absurd z (by assumption); exact absurd z (by assumption)), if_neg (fun z => by rcases z with z | z; exact absurd z (by assumption); exact absurd z (by assumption))]; rw [show daA σ i = σ from if_neg (by assumption)]) dX5_dawns_131
              · skip
                refine lv_aload_n hx hb dX5_dawns_126 rfl (lv_at hl 2 rfl) ?_
                refine lv_iload_n hx hb dX5_dawns_127 rfl (lv_at hl 3 rfl) ?_
                refine rk_Vv (As := [.int (nI i)]) (nL := 4) ⟨hx, hb, hml, hown, hts⟩ (c5_handles l G ad σ i hi (by first | exact hB | exact hM.1.xwDay.b) (by first | omega | (have := wDay_18 (σ := σ) (i := i); omega)) (by first | exact hhp.lp | exact hp_wDay hhp) (by first | exact (hact (by first | exact Or.inl (by assumption) | exact Or.inr (by assumption))).1 | (rw [wDay_f (by decide)]; exact (hact (by first | exact Or.inl (by assumption) | exact Or.inr (by assumption))).1)) (by first | exact (hact (by first | exact Or.inl (by assumption) | exact Or.inr (by assumption))).2 | (rw [wDay_f (by decide)]; exact (hact (by first | exact Or.inl (by assumption) | exact Or.inr (by assumption))).2))) (cwV 1 hts gX5_dawns_X5_handles rfl rfl rfl (by decide +kernel) ⟨(Nat.le_of_ble_eq_true rfl), (Nat.le_of_ble_eq_true rfl)⟩) hK hE hW hA rfl hl.1 rfl (Nat.le_of_ble_eq_true rfl) dX5_dawns_128 (Nat.zero_le _) (Nat.zero_le _) (fun σ9 H locs hp_8 hW => ?_)
                obtain ⟨σ_9, eσ_9⟩ : ∃ z : Sg, z = σ9 := ⟨_, rfl⟩
                rw [← eσ_9] at hW
                rw [hp_8] at eσ_9
                clear hp_8
                exact rr_vret hx hb hr hlk (Nat.le_refl 0) (Nat.le_refl 0) hW (by subst eσ_9; unfold da; rw [if_neg (fun z => by have := z.2; omega), if_pos (by first | exact Or.inl (by assumption) | exact Or.inr (by assumption))]; rw [show daA σ i = σ from if_neg (by assumption)]) dX5_dawns_131
          · skip
            refine lv_aload_n hx hb dX5_dawns_110 rfl (lv_at hl 2 rfl) ?_
            refine lv_iload_n hx hb dX5_dawns_111 rfl (lv_at hl 3 rfl) ?_
            refine rk_Vv (As := [.int (nI i)]) (nL := 4) ⟨hx, hb, hml, hown, hts⟩ (c5_dies l G ad σ i hi (by first | omega | (have := wDay_18 (σ := σ) (i := i); omega)) (by first | exact (hact (by first | exact Or.inl (by assumption) | exact Or.inr (by assumption))).1 | (rw [wDay_f (by decide)]; exact (hact (by first | exact Or.inl (by assumption) | exact Or.inr (by assumption))).1))) (cwV 1 hts gX5_dawns_X5_dies rfl rfl rfl (by decide +kernel) ⟨(Nat.le_of_ble_eq_true rfl), (Nat.le_of_ble_eq_true rfl)⟩) hK hE hW hA rfl hl.1 rfl (Nat.le_of_ble_eq_true rfl) dX5_dawns_112 (Nat.zero_le _) (Nat.zero_le _) (fun σ9 H locs hp_10 hW => ?_)
            obtain ⟨σ_11, eσ_11⟩ : ∃ z : Sg, z = σ9 := ⟨_, rfl⟩
            rw [← eσ_11] at hW
            rw [hp_10] at eσ_11
            clear hp_10
            refine lv_goto (tgt := 131) hx hb dX5_dawns_115 (by decide) ?_
            exact rr_vret hx hb hr hlk (Nat.le_refl 0) (Nat.le_refl 0) hW (by subst eσ_11; unfold da; rw [if_pos ⟨(by first | exact Or.inl (by assumption) | exact Or.inr (by assumption)), by omega⟩]; rw [show daA σ i = σ from if_neg (by assumption)]) dX5_dawns_131
        · skip
          refine lv_iload_n hx hb dX5_dawns_90 rfl (lv_at hl 0 rfl) ?_
          refine nb_if_eq (tgt := 118) hx hb dX5_dawns_91 (by decide) (fun c_12 => ?_) (fun c_12 => ?_)
          · skip
            refine lv_iload_n hx hb dX5_dawns_118 rfl (lv_at hl 1 rfl) ?_
            refine nb_if_ne (tgt := 126) hx hb dX5_dawns_119 (by decide) (fun c_13 => ?_) (fun c_13 => ?_)
            · skip
              refine lv_aload_n hx hb dX5_dawns_126 rfl (lv_at hl 2 rfl) ?_
              refine lv_iload_n hx hb dX5_dawns_127 rfl (lv_at hl 3 rfl) ?_
              refine rk_Vv (As := [.int (nI i)]) (nL := 4) ⟨hx, hb, hml, hown, hts⟩ (c5_handles l G ad σ i hi (by first | exact hB | exact hM.1.xwDay.b) (by first | omega | (have := wDay_18 (σ := σ) (i := i); omega)) (by first | exact hhp.lp | exact hp_wDay hhp) (by first | exact (hact (by first | exact Or.inl (by assumption) | exact Or.inr (by assumption))).1 | (rw [wDay_f (by decide)]; exact (hact (by first | exact Or.inl (by assumption) | exact Or.inr (by assumption))).1)) (by first | exact (hact (by first | exact Or.inl (by assumption) | exact Or.inr (by assumption))).2 | (rw [wDay_f (by decide)]; exact (hact (by first | exact Or.inl (by assumption) | exact Or.inr (by assumption))).2))) (cwV 1 hts gX5_dawns_X5_handles rfl rfl rfl (by decide +kernel) ⟨(Nat.le_of_ble_eq_true rfl), (Nat.le_of_ble_eq_true rfl)⟩) hK hE hW hA rfl hl.1 rfl (Nat.le_of_ble_eq_true rfl) dX5_dawns_128 (Nat.zero_le _) (Nat.zero_le _) (fun σ9 H locs hp_14 hW => ?_)
              obtain ⟨σ_15, eσ_15⟩ : ∃ z : Sg, z = σ9 := ⟨_, rfl⟩
              rw [← eσ_15] at hW
              rw [hp_14] at eσ_15
              clear hp_14
              exact rr_vret hx hb hr hlk (Nat.le_refl 0) (Nat.le_refl 0) hW (by subst eσ_15; unfold da; rw [if_neg (fun z => by have := z.2; omega), if_pos (by first | exact Or.inl (by assumption) | exact Or.inr (by assumption))]; rw [show daA σ i = σ from if_neg (by assumption)]) dX5_dawns_131
            · skip
              refine lv_iload_n hx hb dX5_dawns_122 rfl (lv_at hl 0 rfl) ?_
              refine nb_if_eq (tgt := 131) hx hb dX5_dawns_123 (by decide) (fun c_16 => ?_) (fun c_16 => ?_)
              · skip
                exact rr_vret hx hb hr hlk (Nat.le_refl 0) (Nat.le_refl 0) hW (by unfold da; rw [if_neg (fun z => by rcases z.1 with z | z; exact absurd z (by assumption); exact absurd z (by assumption)), if_neg (fun z => by rcases z with z | z; exact absurd z (by assumption); exact absurd z (by assumption))]; rw [show daA σ i = σ from if_neg (by assumption)]) dX5_dawns_131
              · skip
                refine lv_aload_n hx hb dX5_dawns_126 rfl (lv_at hl 2 rfl) ?_
                refine lv_iload_n hx hb dX5_dawns_127 rfl (lv_at hl 3 rfl) ?_
                refine rk_Vv (As := [.int (nI i)]) (nL := 4) ⟨hx, hb, hml, hown, hts⟩ (c5_handles l G ad σ i hi (by first | exact hB | exact hM.1.xwDay.b) (by first | omega | (have := wDay_18 (σ := σ) (i := i); omega)) (by first | exact hhp.lp | exact hp_wDay hhp) (by first | exact (hact (by first | exact Or.inl (by assumption) | exact Or.inr (by assumption))).1 | (rw [wDay_f (by decide)]; exact (hact (by first | exact Or.inl (by assumption) | exact Or.inr (by assumption))).1)) (by first | exact (hact (by first | exact Or.inl (by assumption) | exact Or.inr (by assumption))).2 | (rw [wDay_f (by decide)]; exact (hact (by first | exact Or.inl (by assumption) | exact Or.inr (by assumption))).2))) (cwV 1 hts gX5_dawns_X5_handles rfl rfl rfl (by decide +kernel) ⟨(Nat.le_of_ble_eq_true rfl), (Nat.le_of_ble_eq_true rfl)⟩) hK hE hW hA rfl hl.1 rfl (Nat.le_of_ble_eq_true rfl) dX5_dawns_128 (Nat.zero_le _) (Nat.zero_le _) (fun σ9 H locs hp_17 hW => ?_)
                obtain ⟨σ_18, eσ_18⟩ : ∃ z : Sg, z = σ9 := ⟨_, rfl⟩
                rw [← eσ_18] at hW
                rw [hp_17] at eσ_18
                clear hp_17
                exact rr_vret hx hb hr hlk (Nat.le_refl 0) (Nat.le_refl 0) hW (by subst eσ_18; unfold da; rw [if_neg (fun z => by have := z.2; omega), if_pos (by first | exact Or.inl (by assumption) | exact Or.inr (by assumption))]; rw [show daA σ i = σ from if_neg (by assumption)]) dX5_dawns_131
          · skip
            refine lv_aload_n hx hb dX5_dawns_94 rfl (lv_at hl 2 rfl) ?_
            refine rr_geti hx hb hts hinX5 hown hK hW 24 (by decide) rfl rfl (hts (.fieldLink RX5 92 "SeaPostModel" "today" "I") (by decide +kernel)) dX5_dawns_95 ?_
            refine lv_aload_n hx hb dX5_dawns_98 rfl (lv_at hl 2 rfl) ?_
            refine rr_geta hx hb hts hinX5 hown hK hW 11 (by decide) rfl rfl (hts (.fieldLink RX5 37 "SeaPostModel" "postedOn" "[I") (by decide +kernel)) dX5_dawns_99 ?_
            refine lv_iload_n hx hb dX5_dawns_102 rfl (lv_at hl 3 rfl) ?_
            refine rr_ald (j := i) hx hb hK hW 11 rfl rfl (show i < 40 by omega) dX5_dawns_103 ?_
            refine lv_isub hx hb dX5_dawns_104 (lv_tope (pk_sub (a := σ 24 0) (b := σ 11 i) (by omega)) ?_)
            refine lv_bipush (v := nI 60) hx hb dX5_dawns_105 (by decide) ?_
            refine nv_icmp_lt (u := σ 24 0 - (σ 11 i)) (v := 60) (tgt := 118) hx hb dX5_dawns_107 (by decide) (by omega) (by omega) (fun c_19 => ?_) (fun c_19 => ?_)
            · skip
              refine lv_iload_n hx hb dX5_dawns_118 rfl (lv_at hl 1 rfl) ?_
              refine nb_if_ne (tgt := 126) hx hb dX5_dawns_119 (by decide) (fun c_20 => ?_) (fun c_20 => ?_)
              · skip
                refine lv_aload_n hx hb dX5_dawns_126 rfl (lv_at hl 2 rfl) ?_
                refine lv_iload_n hx hb dX5_dawns_127 rfl (lv_at hl 3 rfl) ?_
                refine rk_Vv (As := [.int (nI i)]) (nL := 4) ⟨hx, hb, hml, hown, hts⟩ (c5_handles l G ad σ i hi (by first | exact hB | exact hM.1.xwDay.b) (by first | omega | (have := wDay_18 (σ := σ) (i := i); omega)) (by first | exact hhp.lp | exact hp_wDay hhp) (by first | exact (hact (by first | exact Or.inl (by assumption) | exact Or.inr (by assumption))).1 | (rw [wDay_f (by decide)]; exact (hact (by first | exact Or.inl (by assumption) | exact Or.inr (by assumption))).1)) (by first | exact (hact (by first | exact Or.inl (by assumption) | exact Or.inr (by assumption))).2 | (rw [wDay_f (by decide)]; exact (hact (by first | exact Or.inl (by assumption) | exact Or.inr (by assumption))).2))) (cwV 1 hts gX5_dawns_X5_handles rfl rfl rfl (by decide +kernel) ⟨(Nat.le_of_ble_eq_true rfl), (Nat.le_of_ble_eq_true rfl)⟩) hK hE hW hA rfl hl.1 rfl (Nat.le_of_ble_eq_true rfl) dX5_dawns_128 (Nat.zero_le _) (Nat.zero_le _) (fun σ9 H locs hp_21 hW => ?_)
                obtain ⟨σ_22, eσ_22⟩ : ∃ z : Sg, z = σ9 := ⟨_, rfl⟩
                rw [← eσ_22] at hW
                rw [hp_21] at eσ_22
                clear hp_21
                exact rr_vret hx hb hr hlk (Nat.le_refl 0) (Nat.le_refl 0) hW (by subst eσ_22; unfold da; rw [if_neg (fun z => by have := z.2; omega), if_pos (by first | exact Or.inl (by assumption) | exact Or.inr (by assumption))]; rw [show daA σ i = σ from if_neg (by assumption)]) dX5_dawns_131
              · skip
                refine lv_iload_n hx hb dX5_dawns_122 rfl (lv_at hl 0 rfl) ?_
                refine nb_if_eq (tgt := 131) hx hb dX5_dawns_123 (by decide) (fun c_23 => ?_) (fun c_23 => ?_)
                · skip
                  exact rr_vret hx hb hr hlk (Nat.le_refl 0) (Nat.le_refl 0) hW (by unfold da; rw [if_neg (fun z => by rcases z.1 with z | z; exact absurd z (by assumption); exact absurd z (by assumption)), if_neg (fun z => by rcases z with z | z; exact absurd z (by assumption); exact absurd z (by assumption))]; rw [show daA σ i = σ from if_neg (by assumption)]) dX5_dawns_131
                · skip
                  refine lv_aload_n hx hb dX5_dawns_126 rfl (lv_at hl 2 rfl) ?_
                  refine lv_iload_n hx hb dX5_dawns_127 rfl (lv_at hl 3 rfl) ?_
                  refine rk_Vv (As := [.int (nI i)]) (nL := 4) ⟨hx, hb, hml, hown, hts⟩ (c5_handles l G ad σ i hi (by first | exact hB | exact hM.1.xwDay.b) (by first | omega | (have := wDay_18 (σ := σ) (i := i); omega)) (by first | exact hhp.lp | exact hp_wDay hhp) (by first | exact (hact (by first | exact Or.inl (by assumption) | exact Or.inr (by assumption))).1 | (rw [wDay_f (by decide)]; exact (hact (by first | exact Or.inl (by assumption) | exact Or.inr (by assumption))).1)) (by first | exact (hact (by first | exact Or.inl (by assumption) | exact Or.inr (by assumption))).2 | (rw [wDay_f (by decide)]; exact (hact (by first | exact Or.inl (by assumption) | exact Or.inr (by assumption))).2))) (cwV 1 hts gX5_dawns_X5_handles rfl rfl rfl (by decide +kernel) ⟨(Nat.le_of_ble_eq_true rfl), (Nat.le_of_ble_eq_true rfl)⟩) hK hE hW hA rfl hl.1 rfl (Nat.le_of_ble_eq_true rfl) dX5_dawns_128 (Nat.zero_le _) (Nat.zero_le _) (fun σ9 H locs hp_24 hW => ?_)
                  obtain ⟨σ_25, eσ_25⟩ : ∃ z : Sg, z = σ9 := ⟨_, rfl⟩
                  rw [← eσ_25] at hW
                  rw [hp_24] at eσ_25
                  clear hp_24
                  exact rr_vret hx hb hr hlk (Nat.le_refl 0) (Nat.le_refl 0) hW (by subst eσ_25; unfold da; rw [if_neg (fun z => by have := z.2; omega), if_pos (by first | exact Or.inl (by assumption) | exact Or.inr (by assumption))]; rw [show daA σ i = σ from if_neg (by assumption)]) dX5_dawns_131
            · skip
              refine lv_aload_n hx hb dX5_dawns_110 rfl (lv_at hl 2 rfl) ?_
              refine lv_iload_n hx hb dX5_dawns_111 rfl (lv_at hl 3 rfl) ?_
              refine rk_Vv (As := [.int (nI i)]) (nL := 4) ⟨hx, hb, hml, hown, hts⟩ (c5_dies l G ad σ i hi (by first | omega | (have := wDay_18 (σ := σ) (i := i); omega)) (by first | exact (hact (by first | exact Or.inl (by assumption) | exact Or.inr (by assumption))).1 | (rw [wDay_f (by decide)]; exact (hact (by first | exact Or.inl (by assumption) | exact Or.inr (by assumption))).1))) (cwV 1 hts gX5_dawns_X5_dies rfl rfl rfl (by decide +kernel) ⟨(Nat.le_of_ble_eq_true rfl), (Nat.le_of_ble_eq_true rfl)⟩) hK hE hW hA rfl hl.1 rfl (Nat.le_of_ble_eq_true rfl) dX5_dawns_112 (Nat.zero_le _) (Nat.zero_le _) (fun σ9 H locs hp_26 hW => ?_)
              obtain ⟨σ_27, eσ_27⟩ : ∃ z : Sg, z = σ9 := ⟨_, rfl⟩
              rw [← eσ_27] at hW
              rw [hp_26] at eσ_27
              clear hp_26
              refine lv_goto (tgt := 131) hx hb dX5_dawns_115 (by decide) ?_
              exact rr_vret hx hb hr hlk (Nat.le_refl 0) (Nat.le_refl 0) hW (by subst eσ_27; unfold da; rw [if_pos ⟨(by first | exact Or.inl (by assumption) | exact Or.inr (by assumption)), by omega⟩]; rw [show daA σ i = σ from if_neg (by assumption)]) dX5_dawns_131
      · skip
        refine lv_aload_n hx hb dX5_dawns_81 rfl (lv_at hl 2 rfl) ?_
        refine lv_iload_n hx hb dX5_dawns_82 rfl (lv_at hl 3 rfl) ?_
        refine rk_Vv (As := [.int (nI i)]) (nL := 4) ⟨hx, hb, hml, hown, hts⟩ (c5_writesDay l G ad σ i hi (by omega) hd) (cwV 1 hts gX5_dawns_X5_writesDay rfl rfl rfl (by decide +kernel) ⟨(Nat.le_of_ble_eq_true rfl), (Nat.le_of_ble_eq_true rfl)⟩) hK hE hW hA rfl hl.1 rfl (Nat.le_of_ble_eq_true rfl) dX5_dawns_83 (Nat.zero_le _) (Nat.zero_le _) (fun σ9 H locs hp_28 hW => ?_)
        obtain ⟨σ_29, eσ_29⟩ : ∃ z : Sg, z = σ9 := ⟨_, rfl⟩
        rw [← eσ_29] at hW
        rw [hp_28] at eσ_29
        clear hp_28
        refine lv_iload_n hx hb dX5_dawns_86 rfl (lv_at hl 1 rfl) ?_
        refine nb_if_ne (tgt := 94) hx hb dX5_dawns_87 (by decide) (fun c_30 => ?_) (fun c_30 => ?_)
        · skip
          refine lv_aload_n hx hb dX5_dawns_94 rfl (lv_at hl 2 rfl) ?_
          refine rr_geti hx hb hts hinX5 hown hK hW 24 (by decide) rfl rfl (hts (.fieldLink RX5 92 "SeaPostModel" "today" "I") (by decide +kernel)) dX5_dawns_95 ?_
          refine lv_tope (congrArg nI (show σ_29 24 0 = σ 24 0 by rw [eσ_29, wDay_f (by decide)])) ?_
          refine lv_aload_n hx hb dX5_dawns_98 rfl (lv_at hl 2 rfl) ?_
          refine rr_geta hx hb hts hinX5 hown hK hW 11 (by decide) rfl rfl (hts (.fieldLink RX5 37 "SeaPostModel" "postedOn" "[I") (by decide +kernel)) dX5_dawns_99 ?_
          refine lv_iload_n hx hb dX5_dawns_102 rfl (lv_at hl 3 rfl) ?_
          refine rr_ald (j := i) hx hb hK hW 11 rfl rfl (show i < 40 by omega) dX5_dawns_103 ?_
          refine lv_tope (congrArg nI (show σ_29 11 i = σ 11 i by rw [eσ_29, wDay_f (by decide)])) ?_
          refine lv_isub hx hb dX5_dawns_104 (lv_tope (pk_sub (a := σ 24 0) (b := σ 11 i) (by omega)) ?_)
          refine lv_bipush (v := nI 60) hx hb dX5_dawns_105 (by decide) ?_
          refine nv_icmp_lt (u := σ 24 0 - (σ 11 i)) (v := 60) (tgt := 118) hx hb dX5_dawns_107 (by decide) (by omega) (by omega) (fun c_31 => ?_) (fun c_31 => ?_)
          · skip
            refine lv_iload_n hx hb dX5_dawns_118 rfl (lv_at hl 1 rfl) ?_
            refine nb_if_ne (tgt := 126) hx hb dX5_dawns_119 (by decide) (fun c_32 => ?_) (fun c_32 => ?_)
            · skip
              refine lv_aload_n hx hb dX5_dawns_126 rfl (lv_at hl 2 rfl) ?_
              refine lv_iload_n hx hb dX5_dawns_127 rfl (lv_at hl 3 rfl) ?_
              refine rk_Vv (As := [.int (nI i)]) (nL := 4) ⟨hx, hb, hml, hown, hts⟩ (c5_handles l G ad σ_29 i hi (by subst eσ_29; first | exact hB | exact hM.1.xwDay.b) (by subst eσ_29; first | omega | (have := wDay_18 (σ := σ) (i := i); omega)) (by subst eσ_29; first | exact hhp.lp | exact hp_wDay hhp) (by subst eσ_29; first | exact (hact (by first | exact Or.inl (by assumption) | exact Or.inr (by assumption))).1 | (rw [wDay_f (by decide)]; exact (hact (by first | exact Or.inl (by assumption) | exact Or.inr (by assumption))).1)) (by subst eσ_29; first | exact (hact (by first | exact Or.inl (by assumption) | exact Or.inr (by assumption))).2 | (rw [wDay_f (by decide)]; exact (hact (by first | exact Or.inl (by assumption) | exact Or.inr (by assumption))).2))) (cwV 1 hts gX5_dawns_X5_handles rfl rfl rfl (by decide +kernel) ⟨(Nat.le_of_ble_eq_true rfl), (Nat.le_of_ble_eq_true rfl)⟩) hK hE hW hA rfl hl.1 rfl (Nat.le_of_ble_eq_true rfl) dX5_dawns_128 (Nat.zero_le _) (Nat.zero_le _) (fun σ9 H locs hp_33 hW => ?_)
              obtain ⟨σ_34, eσ_34⟩ : ∃ z : Sg, z = σ9 := ⟨_, rfl⟩
              rw [← eσ_34] at hW
              rw [hp_33] at eσ_34
              clear hp_33
              exact rr_vret hx hb hr hlk (Nat.le_refl 0) (Nat.le_refl 0) hW (by subst eσ_29; subst eσ_34; unfold da; rw [if_neg (fun z => by have := z.2; omega), if_pos (by first | exact Or.inl (by assumption) | exact Or.inr (by assumption))]; rw [show daA σ i = wDay σ i from if_pos (by assumption)]) dX5_dawns_131
            · skip
              refine lv_iload_n hx hb dX5_dawns_122 rfl (lv_at hl 0 rfl) ?_
              refine nb_if_eq (tgt := 131) hx hb dX5_dawns_123 (by decide) (fun c_35 => ?_) (fun c_35 => ?_)
              · skip
                exact rr_vret hx hb hr hlk (Nat.le_refl 0) (Nat.le_refl 0) hW (by subst eσ_29; unfold da; rw [if_neg (fun z => by rcases z.1 with z | z; exact absurd z (by assumption); exact absurd z (by assumption)), if_neg (fun z => by rcases z with z | z; exact absurd z (by assumption); exact absurd z (by assumption))]; rw [show daA σ i = wDay σ i from if_pos (by assumption)]) dX5_dawns_131
              · skip
                refine lv_aload_n hx hb dX5_dawns_126 rfl (lv_at hl 2 rfl) ?_
                refine lv_iload_n hx hb dX5_dawns_127 rfl (lv_at hl 3 rfl) ?_
                refine rk_Vv (As := [.int (nI i)]) (nL := 4) ⟨hx, hb, hml, hown, hts⟩ (c5_handles l G ad σ_29 i hi (by subst eσ_29; first | exact hB | exact hM.1.xwDay.b) (by subst eσ_29; first | omega | (have := wDay_18 (σ := σ) (i := i); omega)) (by subst eσ_29; first | exact hhp.lp | exact hp_wDay hhp) (by subst eσ_29; first | exact (hact (by first | exact Or.inl (by assumption) | exact Or.inr (by assumption))).1 | (rw [wDay_f (by decide)]; exact (hact (by first | exact Or.inl (by assumption) | exact Or.inr (by assumption))).1)) (by subst eσ_29; first | exact (hact (by first | exact Or.inl (by assumption) | exact Or.inr (by assumption))).2 | (rw [wDay_f (by decide)]; exact (hact (by first | exact Or.inl (by assumption) | exact Or.inr (by assumption))).2))) (cwV 1 hts gX5_dawns_X5_handles rfl rfl rfl (by decide +kernel) ⟨(Nat.le_of_ble_eq_true rfl), (Nat.le_of_ble_eq_true rfl)⟩) hK hE hW hA rfl hl.1 rfl (Nat.le_of_ble_eq_true rfl) dX5_dawns_128 (Nat.zero_le _) (Nat.zero_le _) (fun σ9 H locs hp_36 hW => ?_)
                obtain ⟨σ_37, eσ_37⟩ : ∃ z : Sg, z = σ9 := ⟨_, rfl⟩
                rw [← eσ_37] at hW
                rw [hp_36] at eσ_37
                clear hp_36
                exact rr_vret hx hb hr hlk (Nat.le_refl 0) (Nat.le_refl 0) hW (by subst eσ_29; subst eσ_37; unfold da; rw [if_neg (fun z => by have := z.2; omega), if_pos (by first | exact Or.inl (by assumption) | exact Or.inr (by assumption))]; rw [show daA σ i = wDay σ i from if_pos (by assumption)]) dX5_dawns_131
          · skip
            refine lv_aload_n hx hb dX5_dawns_110 rfl (lv_at hl 2 rfl) ?_
            refine lv_iload_n hx hb dX5_dawns_111 rfl (lv_at hl 3 rfl) ?_
            refine rk_Vv (As := [.int (nI i)]) (nL := 4) ⟨hx, hb, hml, hown, hts⟩ (c5_dies l G ad σ_29 i hi (by subst eσ_29; first | omega | (have := wDay_18 (σ := σ) (i := i); omega)) (by subst eσ_29; first | exact (hact (by first | exact Or.inl (by assumption) | exact Or.inr (by assumption))).1 | (rw [wDay_f (by decide)]; exact (hact (by first | exact Or.inl (by assumption) | exact Or.inr (by assumption))).1))) (cwV 1 hts gX5_dawns_X5_dies rfl rfl rfl (by decide +kernel) ⟨(Nat.le_of_ble_eq_true rfl), (Nat.le_of_ble_eq_true rfl)⟩) hK hE hW hA rfl hl.1 rfl (Nat.le_of_ble_eq_true rfl) dX5_dawns_112 (Nat.zero_le _) (Nat.zero_le _) (fun σ9 H locs hp_38 hW => ?_)
            obtain ⟨σ_39, eσ_39⟩ : ∃ z : Sg, z = σ9 := ⟨_, rfl⟩
            rw [← eσ_39] at hW
            rw [hp_38] at eσ_39
            clear hp_38
            refine lv_goto (tgt := 131) hx hb dX5_dawns_115 (by decide) ?_
            exact rr_vret hx hb hr hlk (Nat.le_refl 0) (Nat.le_refl 0) hW (by subst eσ_29; subst eσ_39; unfold da; rw [if_pos ⟨(by first | exact Or.inl (by assumption) | exact Or.inr (by assumption)), by omega⟩]; rw [show daA σ i = wDay σ i from if_pos (by assumption)]) dX5_dawns_131
        · skip
          refine lv_iload_n hx hb dX5_dawns_90 rfl (lv_at hl 0 rfl) ?_
          refine nb_if_eq (tgt := 118) hx hb dX5_dawns_91 (by decide) (fun c_40 => ?_) (fun c_40 => ?_)
          · skip
            refine lv_iload_n hx hb dX5_dawns_118 rfl (lv_at hl 1 rfl) ?_
            refine nb_if_ne (tgt := 126) hx hb dX5_dawns_119 (by decide) (fun c_41 => ?_) (fun c_41 => ?_)
            · skip
              refine lv_aload_n hx hb dX5_dawns_126 rfl (lv_at hl 2 rfl) ?_
              refine lv_iload_n hx hb dX5_dawns_127 rfl (lv_at hl 3 rfl) ?_
              refine rk_Vv (As := [.int (nI i)]) (nL := 4) ⟨hx, hb, hml, hown, hts⟩ (c5_handles l G ad σ_29 i hi (by subst eσ_29; first | exact hB | exact hM.1.xwDay.b) (by subst eσ_29; first | omega | (have := wDay_18 (σ := σ) (i := i); omega)) (by subst eσ_29; first | exact hhp.lp | exact hp_wDay hhp) (by subst eσ_29; first | exact (hact (by first | exact Or.inl (by assumption) | exact Or.inr (by assumption))).1 | (rw [wDay_f (by decide)]; exact (hact (by first | exact Or.inl (by assumption) | exact Or.inr (by assumption))).1)) (by subst eσ_29; first | exact (hact (by first | exact Or.inl (by assumption) | exact Or.inr (by assumption))).2 | (rw [wDay_f (by decide)]; exact (hact (by first | exact Or.inl (by assumption) | exact Or.inr (by assumption))).2))) (cwV 1 hts gX5_dawns_X5_handles rfl rfl rfl (by decide +kernel) ⟨(Nat.le_of_ble_eq_true rfl), (Nat.le_of_ble_eq_true rfl)⟩) hK hE hW hA rfl hl.1 rfl (Nat.le_of_ble_eq_true rfl) dX5_dawns_128 (Nat.zero_le _) (Nat.zero_le _) (fun σ9 H locs hp_42 hW => ?_)
              obtain ⟨σ_43, eσ_43⟩ : ∃ z : Sg, z = σ9 := ⟨_, rfl⟩
              rw [← eσ_43] at hW
              rw [hp_42] at eσ_43
              clear hp_42
              exact rr_vret hx hb hr hlk (Nat.le_refl 0) (Nat.le_refl 0) hW (by subst eσ_29; subst eσ_43; unfold da; rw [if_neg (fun z => by have := z.2; omega), if_pos (by first | exact Or.inl (by assumption) | exact Or.inr (by assumption))]; rw [show daA σ i = wDay σ i from if_pos (by assumption)]) dX5_dawns_131
            · skip
              refine lv_iload_n hx hb dX5_dawns_122 rfl (lv_at hl 0 rfl) ?_
              refine nb_if_eq (tgt := 131) hx hb dX5_dawns_123 (by decide) (fun c_44 => ?_) (fun c_44 => ?_)
              · skip
                exact rr_vret hx hb hr hlk (Nat.le_refl 0) (Nat.le_refl 0) hW (by subst eσ_29; unfold da; rw [if_neg (fun z => by rcases z.1 with z | z; exact absurd z (by assumption); exact absurd z (by assumption)), if_neg (fun z => by rcases z with z | z; exact absurd z (by assumption); exact absurd z (by assumption))]; rw [show daA σ i = wDay σ i from if_pos (by assumption)]) dX5_dawns_131
              · skip
                refine lv_aload_n hx hb dX5_dawns_126 rfl (lv_at hl 2 rfl) ?_
                refine lv_iload_n hx hb dX5_dawns_127 rfl (lv_at hl 3 rfl) ?_
                refine rk_Vv (As := [.int (nI i)]) (nL := 4) ⟨hx, hb, hml, hown, hts⟩ (c5_handles l G ad σ_29 i hi (by subst eσ_29; first | exact hB | exact hM.1.xwDay.b) (by subst eσ_29; first | omega | (have := wDay_18 (σ := σ) (i := i); omega)) (by subst eσ_29; first | exact hhp.lp | exact hp_wDay hhp) (by subst eσ_29; first | exact (hact (by first | exact Or.inl (by assumption) | exact Or.inr (by assumption))).1 | (rw [wDay_f (by decide)]; exact (hact (by first | exact Or.inl (by assumption) | exact Or.inr (by assumption))).1)) (by subst eσ_29; first | exact (hact (by first | exact Or.inl (by assumption) | exact Or.inr (by assumption))).2 | (rw [wDay_f (by decide)]; exact (hact (by first | exact Or.inl (by assumption) | exact Or.inr (by assumption))).2))) (cwV 1 hts gX5_dawns_X5_handles rfl rfl rfl (by decide +kernel) ⟨(Nat.le_of_ble_eq_true rfl), (Nat.le_of_ble_eq_true rfl)⟩) hK hE hW hA rfl hl.1 rfl (Nat.le_of_ble_eq_true rfl) dX5_dawns_128 (Nat.zero_le _) (Nat.zero_le _) (fun σ9 H locs hp_45 hW => ?_)
                obtain ⟨σ_46, eσ_46⟩ : ∃ z : Sg, z = σ9 := ⟨_, rfl⟩
                rw [← eσ_46] at hW
                rw [hp_45] at eσ_46
                clear hp_45
                exact rr_vret hx hb hr hlk (Nat.le_refl 0) (Nat.le_refl 0) hW (by subst eσ_29; subst eσ_46; unfold da; rw [if_neg (fun z => by have := z.2; omega), if_pos (by first | exact Or.inl (by assumption) | exact Or.inr (by assumption))]; rw [show daA σ i = wDay σ i from if_pos (by assumption)]) dX5_dawns_131
          · skip
            refine lv_aload_n hx hb dX5_dawns_94 rfl (lv_at hl 2 rfl) ?_
            refine rr_geti hx hb hts hinX5 hown hK hW 24 (by decide) rfl rfl (hts (.fieldLink RX5 92 "SeaPostModel" "today" "I") (by decide +kernel)) dX5_dawns_95 ?_
            refine lv_tope (congrArg nI (show σ_29 24 0 = σ 24 0 by rw [eσ_29, wDay_f (by decide)])) ?_
            refine lv_aload_n hx hb dX5_dawns_98 rfl (lv_at hl 2 rfl) ?_
            refine rr_geta hx hb hts hinX5 hown hK hW 11 (by decide) rfl rfl (hts (.fieldLink RX5 37 "SeaPostModel" "postedOn" "[I") (by decide +kernel)) dX5_dawns_99 ?_
            refine lv_iload_n hx hb dX5_dawns_102 rfl (lv_at hl 3 rfl) ?_
            refine rr_ald (j := i) hx hb hK hW 11 rfl rfl (show i < 40 by omega) dX5_dawns_103 ?_
            refine lv_tope (congrArg nI (show σ_29 11 i = σ 11 i by rw [eσ_29, wDay_f (by decide)])) ?_
            refine lv_isub hx hb dX5_dawns_104 (lv_tope (pk_sub (a := σ 24 0) (b := σ 11 i) (by omega)) ?_)
            refine lv_bipush (v := nI 60) hx hb dX5_dawns_105 (by decide) ?_
            refine nv_icmp_lt (u := σ 24 0 - (σ 11 i)) (v := 60) (tgt := 118) hx hb dX5_dawns_107 (by decide) (by omega) (by omega) (fun c_47 => ?_) (fun c_47 => ?_)
            · skip
              refine lv_iload_n hx hb dX5_dawns_118 rfl (lv_at hl 1 rfl) ?_
              refine nb_if_ne (tgt := 126) hx hb dX5_dawns_119 (by decide) (fun c_48 => ?_) (fun c_48 => ?_)
              · skip
                refine lv_aload_n hx hb dX5_dawns_126 rfl (lv_at hl 2 rfl) ?_
                refine lv_iload_n hx hb dX5_dawns_127 rfl (lv_at hl 3 rfl) ?_
                refine rk_Vv (As := [.int (nI i)]) (nL := 4) ⟨hx, hb, hml, hown, hts⟩ (c5_handles l G ad σ_29 i hi (by subst eσ_29; first | exact hB | exact hM.1.xwDay.b) (by subst eσ_29; first | omega | (have := wDay_18 (σ := σ) (i := i); omega)) (by subst eσ_29; first | exact hhp.lp | exact hp_wDay hhp) (by subst eσ_29; first | exact (hact (by first | exact Or.inl (by assumption) | exact Or.inr (by assumption))).1 | (rw [wDay_f (by decide)]; exact (hact (by first | exact Or.inl (by assumption) | exact Or.inr (by assumption))).1)) (by subst eσ_29; first | exact (hact (by first | exact Or.inl (by assumption) | exact Or.inr (by assumption))).2 | (rw [wDay_f (by decide)]; exact (hact (by first | exact Or.inl (by assumption) | exact Or.inr (by assumption))).2))) (cwV 1 hts gX5_dawns_X5_handles rfl rfl rfl (by decide +kernel) ⟨(Nat.le_of_ble_eq_true rfl), (Nat.le_of_ble_eq_true rfl)⟩) hK hE hW hA rfl hl.1 rfl (Nat.le_of_ble_eq_true rfl) dX5_dawns_128 (Nat.zero_le _) (Nat.zero_le _) (fun σ9 H locs hp_49 hW => ?_)
                obtain ⟨σ_50, eσ_50⟩ : ∃ z : Sg, z = σ9 := ⟨_, rfl⟩
                rw [← eσ_50] at hW
                rw [hp_49] at eσ_50
                clear hp_49
                exact rr_vret hx hb hr hlk (Nat.le_refl 0) (Nat.le_refl 0) hW (by subst eσ_29; subst eσ_50; unfold da; rw [if_neg (fun z => by have := z.2; omega), if_pos (by first | exact Or.inl (by assumption) | exact Or.inr (by assumption))]; rw [show daA σ i = wDay σ i from if_pos (by assumption)]) dX5_dawns_131
              · skip
                refine lv_iload_n hx hb dX5_dawns_122 rfl (lv_at hl 0 rfl) ?_
                refine nb_if_eq (tgt := 131) hx hb dX5_dawns_123 (by decide) (fun c_51 => ?_) (fun c_51 => ?_)
                · skip
                  exact rr_vret hx hb hr hlk (Nat.le_refl 0) (Nat.le_refl 0) hW (by subst eσ_29; unfold da; rw [if_neg (fun z => by rcases z.1 with z | z; exact absurd z (by assumption); exact absurd z (by assumption)), if_neg (fun z => by rcases z with z | z; exact absurd z (by assumption); exact absurd z (by assumption))]; rw [show daA σ i = wDay σ i from if_pos (by assumption)]) dX5_dawns_131
                · skip
                  refine lv_aload_n hx hb dX5_dawns_126 rfl (lv_at hl 2 rfl) ?_
                  refine lv_iload_n hx hb dX5_dawns_127 rfl (lv_at hl 3 rfl) ?_
                  refine rk_Vv (As := [.int (nI i)]) (nL := 4) ⟨hx, hb, hml, hown, hts⟩ (c5_handles l G ad σ_29 i hi (by subst eσ_29; first | exact hB | exact hM.1.xwDay.b) (by subst eσ_29; first | omega | (have := wDay_18 (σ := σ) (i := i); omega)) (by subst eσ_29; first | exact hhp.lp | exact hp_wDay hhp) (by subst eσ_29; first | exact (hact (by first | exact Or.inl (by assumption) | exact Or.inr (by assumption))).1 | (rw [wDay_f (by decide)]; exact (hact (by first | exact Or.inl (by assumption) | exact Or.inr (by assumption))).1)) (by subst eσ_29; first | exact (hact (by first | exact Or.inl (by assumption) | exact Or.inr (by assumption))).2 | (rw [wDay_f (by decide)]; exact (hact (by first | exact Or.inl (by assumption) | exact Or.inr (by assumption))).2))) (cwV 1 hts gX5_dawns_X5_handles rfl rfl rfl (by decide +kernel) ⟨(Nat.le_of_ble_eq_true rfl), (Nat.le_of_ble_eq_true rfl)⟩) hK hE hW hA rfl hl.1 rfl (Nat.le_of_ble_eq_true rfl) dX5_dawns_128 (Nat.zero_le _) (Nat.zero_le _) (fun σ9 H locs hp_52 hW => ?_)
                  obtain ⟨σ_53, eσ_53⟩ : ∃ z : Sg, z = σ9 := ⟨_, rfl⟩
                  rw [← eσ_53] at hW
                  rw [hp_52] at eσ_53
                  clear hp_52
                  exact rr_vret hx hb hr hlk (Nat.le_refl 0) (Nat.le_refl 0) hW (by subst eσ_29; subst eσ_53; unfold da; rw [if_neg (fun z => by have := z.2; omega), if_pos (by first | exact Or.inl (by assumption) | exact Or.inr (by assumption))]; rw [show daA σ i = wDay σ i from if_pos (by assumption)]) dX5_dawns_131
            · skip
              refine lv_aload_n hx hb dX5_dawns_110 rfl (lv_at hl 2 rfl) ?_
              refine lv_iload_n hx hb dX5_dawns_111 rfl (lv_at hl 3 rfl) ?_
              refine rk_Vv (As := [.int (nI i)]) (nL := 4) ⟨hx, hb, hml, hown, hts⟩ (c5_dies l G ad σ_29 i hi (by subst eσ_29; first | omega | (have := wDay_18 (σ := σ) (i := i); omega)) (by subst eσ_29; first | exact (hact (by first | exact Or.inl (by assumption) | exact Or.inr (by assumption))).1 | (rw [wDay_f (by decide)]; exact (hact (by first | exact Or.inl (by assumption) | exact Or.inr (by assumption))).1))) (cwV 1 hts gX5_dawns_X5_dies rfl rfl rfl (by decide +kernel) ⟨(Nat.le_of_ble_eq_true rfl), (Nat.le_of_ble_eq_true rfl)⟩) hK hE hW hA rfl hl.1 rfl (Nat.le_of_ble_eq_true rfl) dX5_dawns_112 (Nat.zero_le _) (Nat.zero_le _) (fun σ9 H locs hp_54 hW => ?_)
              obtain ⟨σ_55, eσ_55⟩ : ∃ z : Sg, z = σ9 := ⟨_, rfl⟩
              rw [← eσ_55] at hW
              rw [hp_54] at eσ_55
              clear hp_54
              refine lv_goto (tgt := 131) hx hb dX5_dawns_115 (by decide) ?_
              exact rr_vret hx hb hr hlk (Nat.le_refl 0) (Nat.le_refl 0) hW (by subst eσ_29; subst eσ_55; unfold da; rw [if_pos ⟨(by first | exact Or.inl (by assumption) | exact Or.inr (by assumption)), by omega⟩]; rw [show daA σ i = wDay σ i from if_pos (by assumption)]) dX5_dawns_131
    · skip
      refine nv_if_eq (tgt := 71) hx hb dX5_dawns_48 (by decide) (by omega) (fun c_56 => ?_) (fun c_56 => ?_)
      · skip
        refine lv_iconst (v := nI 1) hx hb dX5_dawns_71 (by decide) ?_
        refine lv_goto (tgt := 76) hx hb dX5_dawns_72 (by decide) ?_
        exact lv_tope (congrArg nI (show 1 = (if lies σ i then 1 else 0) by first | (rw [if_pos (show lies σ i by unfold lies; omega)]) | (rw [if_neg (show ¬ lies σ i by unfold lies; omega)]))) (J _ _ hW)
      · skip
        refine lv_aload_n hx hb dX5_dawns_51 rfl (lv_at hl 1 rfl) ?_
        refine rr_geta hx hb hts hinX5 hown hK hW 12 (by decide) rfl rfl (hts (.fieldLink RX5 40 "SeaPostModel" "stateOf" "[I") (by decide +kernel)) dX5_dawns_52 ?_
        refine lv_iload_n hx hb dX5_dawns_55 rfl (lv_at hl 2 rfl) ?_
        refine rr_ald (j := i) hx hb hK hW 12 rfl rfl (show i < 40 by omega) dX5_dawns_56 ?_
        refine lv_iconst (v := nI 2) hx hb dX5_dawns_57 (by decide) ?_
        refine nv_icmp_eq (u := σ 12 i) (v := 2) (tgt := 71) hx hb dX5_dawns_58 (by decide) (by omega) (by omega) (fun c_57 => ?_) (fun c_57 => ?_)
        · skip
          refine lv_iconst (v := nI 1) hx hb dX5_dawns_71 (by decide) ?_
          refine lv_goto (tgt := 76) hx hb dX5_dawns_72 (by decide) ?_
          exact lv_tope (congrArg nI (show 1 = (if lies σ i then 1 else 0) by first | (rw [if_pos (show lies σ i by unfold lies; omega)]) | (rw [if_neg (show ¬ lies σ i by unfold lies; omega)]))) (J _ _ hW)
        · skip
          refine lv_aload_n hx hb dX5_dawns_61 rfl (lv_at hl 1 rfl) ?_
          refine rr_geta hx hb hts hinX5 hown hK hW 12 (by decide) rfl rfl (hts (.fieldLink RX5 40 "SeaPostModel" "stateOf" "[I") (by decide +kernel)) dX5_dawns_62 ?_
          refine lv_iload_n hx hb dX5_dawns_65 rfl (lv_at hl 2 rfl) ?_
          refine rr_ald (j := i) hx hb hK hW 12 rfl rfl (show i < 40 by omega) dX5_dawns_66 ?_
          refine lv_iconst (v := nI 4) hx hb dX5_dawns_67 (by decide) ?_
          refine nv_icmp_ne (u := σ 12 i) (v := 4) (tgt := 75) hx hb dX5_dawns_68 (by decide) (by omega) (by omega) (fun c_58 => ?_) (fun c_58 => ?_)
          · skip
            refine lv_iconst (v := nI 0) hx hb dX5_dawns_75 (by decide) ?_
            exact lv_tope (congrArg nI (show 0 = (if lies σ i then 1 else 0) by first | (rw [if_pos (show lies σ i by unfold lies; omega)]) | (rw [if_neg (show ¬ lies σ i by unfold lies; omega)]))) (J _ _ hW)
          · skip
            refine lv_iconst (v := nI 1) hx hb dX5_dawns_71 (by decide) ?_
            refine lv_goto (tgt := 76) hx hb dX5_dawns_72 (by decide) ?_
            exact lv_tope (congrArg nI (show 1 = (if lies σ i then 1 else 0) by first | (rw [if_pos (show lies σ i by unfold lies; omega)]) | (rw [if_neg (show ¬ lies σ i by unfold lies; omega)]))) (J _ _ hW)
  · skip
    refine nv_icmp_ne (u := σ 12 i) (v := 3) (tgt := 40) hx hb dX5_dawns_7 (by decide) (by omega) (by omega) (fun c_59 => ?_) (fun c_59 => ?_)
    · skip
      refine lv_iconst (v := nI 0) hx hb dX5_dawns_40 (by decide) ?_
      exact lv_tope (congrArg nI (show 0 = (if cmes σ i then 1 else 0) by first | (rw [if_pos (show cmes σ i from ⟨by omega, by omega, by assumption⟩)]) | (rw [if_neg (show ¬ cmes σ i from fun z => by obtain ⟨z1, z2, z3⟩ := z; first | omega | exact z3 (by assumption))]))) (J _ _ hW)
    · skip
      refine lv_aload_n hx hb dX5_dawns_10 rfl (lv_at hl 0 rfl) ?_
      refine rr_geta hx hb hts hinX5 hown hK hW 14 (by decide) rfl rfl (hts (.fieldLink RX5 46 "SeaPostModel" "comesOn" "[I") (by decide +kernel)) dX5_dawns_11 ?_
      refine lv_iload_n hx hb dX5_dawns_14 rfl (lv_at hl 1 rfl) ?_
      refine rr_ald (j := i) hx hb hK hW 14 rfl rfl (show i < 40 by omega) dX5_dawns_15 ?_
      refine lv_aload_n hx hb dX5_dawns_16 rfl (lv_at hl 0 rfl) ?_
      refine rr_geti hx hb hts hinX5 hown hK hW 24 (by decide) rfl rfl (hts (.fieldLink RX5 92 "SeaPostModel" "today" "I") (by decide +kernel)) dX5_dawns_17 ?_
      refine nv_icmp_gt (u := σ 14 i) (v := σ 24 0) (tgt := 40) hx hb dX5_dawns_20 (by decide) (by omega) (by omega) (fun c_60 => ?_) (fun c_60 => ?_)
      · skip
        refine lv_iconst (v := nI 0) hx hb dX5_dawns_40 (by decide) ?_
        exact lv_tope (congrArg nI (show 0 = (if cmes σ i then 1 else 0) by first | (rw [if_pos (show cmes σ i from ⟨by omega, by omega, by assumption⟩)]) | (rw [if_neg (show ¬ cmes σ i from fun z => by obtain ⟨z1, z2, z3⟩ := z; first | omega | exact z3 (by assumption))]))) (J _ _ hW)
      · skip
        refine lv_aload_n hx hb dX5_dawns_23 rfl (lv_at hl 0 rfl) ?_
        refine lv_aload_n hx hb dX5_dawns_24 rfl (lv_at hl 0 rfl) ?_
        refine rr_geta hx hb hts hinX5 hown hK hW 13 (by decide) rfl rfl (hts (.fieldLink RX5 43 "SeaPostModel" "portOf" "[I") (by decide +kernel)) dX5_dawns_25 ?_
        refine lv_iload_n hx hb dX5_dawns_28 rfl (lv_at hl 1 rfl) ?_
        refine rr_ald (j := i) hx hb hK hW 13 rfl rfl (show i < 40 by omega) dX5_dawns_29 ?_
        refine rk_Vi (As := [.int (nI (σ 13 i))]) (nL := 4) ⟨hx, hb, hml, hown, hts⟩ (c5_isShut l G ad σ (σ 13 i) (by omega) (by have := h23 (σ 13 i); omega) (by omega)) (cwV 1 hts gX5_dawns_X5_isShut rfl rfl rfl (by decide +kernel) ⟨(Nat.le_of_ble_eq_true rfl), (Nat.le_of_ble_eq_true rfl)⟩) hK hE hW hA rfl hl.1 rfl (Nat.le_of_ble_eq_true rfl) dX5_dawns_30 (Nat.zero_le _) (Nat.zero_le _) (fun r9 σ9 H locs hp_61 hW => ?_)
        obtain ⟨e91, e92⟩ := hp_61
        subst e91
        rw [e92] at hW
        clear e92
        refine nb_if_ne (tgt := 40) hx hb dX5_dawns_33 (by decide) (fun c_62 => ?_) (fun c_62 => ?_)
        · skip
          refine lv_iconst (v := nI 0) hx hb dX5_dawns_40 (by decide) ?_
          exact lv_tope (congrArg nI (show 0 = (if cmes σ i then 1 else 0) by first | (rw [if_pos (show cmes σ i from ⟨by omega, by omega, by assumption⟩)]) | (rw [if_neg (show ¬ cmes σ i from fun z => by obtain ⟨z1, z2, z3⟩ := z; first | omega | exact z3 (by assumption))]))) (J _ _ hW)
        · skip
          refine lv_iconst (v := nI 1) hx hb dX5_dawns_36 (by decide) ?_
          refine lv_goto (tgt := 41) hx hb dX5_dawns_37 (by decide) ?_
          exact lv_tope (congrArg nI (show 1 = (if cmes σ i then 1 else 0) by first | (rw [if_pos (show cmes σ i from ⟨by omega, by omega, by assumption⟩)]) | (rw [if_neg (show ¬ cmes σ i from fun z => by obtain ⟨z1, z2, z3⟩ := z; first | omega | exact z3 (by assumption))]))) (J _ _ hW)

theorem nI_subw {a b : Nat} (hb : b ≤ 4294967296) : nI a - nI b = nI (a + 4294967296 - b) := by
  have h : nI (a + 4294967296 - b) + nI b = nI a := by
    rw [nI_add, show a + 4294967296 - b + b = a + 4294967296 by omega]
    apply Int32.toBitVec_inj.mp
    show (Int32.ofNat _).toBitVec = (Int32.ofNat _).toBitVec
    rw [Int32.toBitVec_ofNat', Int32.toBitVec_ofNat']
    apply BitVec.eq_of_toNat_eq
    rw [BitVec.toNat_ofNat, BitVec.toNat_ofNat]
    omega
  rw [← h, Int32.add_sub_cancel]
theorem IV.x25 {σ : Sg} {v : Nat} (h : IV σ) : IV (st σ 25 0 v) := by
  obtain ⟨h1, h2, h3, h4, h5, h6⟩ := h
  exact ⟨h1.xst (f := 25) trivial, h2, h3, h4, h5, h6.of (fun g j hg => st_f (by omega))⟩
theorem LX.le {f n v : Nat} {σ : Sg} (h : LX f n v σ) : σ n 0 ≤ σ 8 0 := by
  have h1 := h (fun _ => true)
  rw [cnt_true] at h1
  rw [h1]
  exact cnt_le _
/-- what the office needs -/
def OFP (σ : Sg) : Prop := RV σ ∧ LX 19 20 5 σ ∧ ∀ i, i < σ 8 0 → σ 12 i = 5 → σ 18 i ≤ 120 ∧ hasP σ i
theorem OFP.of {σ : Sg} (h : IV σ) : OFP σ := ⟨h.1, h.2.1, fun i hi h5 => by obtain ⟨_, _, c, _, _, f⟩ := h.2.2.2.1 i hi; exact ⟨f.2.2.2.1 h5, c⟩⟩
theorem OFP.at {σ : Sg} (h : OFP σ) {n : Nat} (hn : n < σ 20 0) : opN σ n 20 0 = σ 20 0 ∧ opN σ n 19 n < 40 ∧ opN σ n 18 (opN σ n 19 n) ≤ 120 ∧ (opN σ n 10 (opN σ n 19 n) ≤ 9 ∨ opN σ n 10 (opN σ n 19 n) = 4294967295) := by
  obtain ⟨a1, a2, a3, a4⟩ := opN_ok h.1 h.2.1 h.2.2 n (by omega)
  have e19 : opN σ n 19 n = σ 19 n := a2 19 n (by decide) (by decide) (by decide)
  obtain ⟨m1, m2⟩ := h.2.1.mem hn
  obtain ⟨b1, b2, b3⟩ := a3 (σ 19 n) (fun j hj => h.2.1.inj hj hn)
  have h8 : σ 8 0 ≤ 40 := h.1 8 0
  refine ⟨a2 20 0 (by decide) (by decide) (by decide), by rw [e19]; omega, by rw [e19, b2]; exact (h.2.2 _ m1 m2).1, a1 10 _⟩
theorem OFP.at20 {σ : Sg} (h : OFP σ) {n : Nat} (hn : n ≤ σ 20 0) : opN σ n 20 0 = σ 20 0 := (opN_ok h.1 h.2.1 h.2.2 n hn).2.1 20 0 (by decide) (by decide) (by decide)

set_option maxHeartbeats 4000000 in
set_option maxRecDepth 100000 in
theorem c5_office (l : Launch) (G : mG) (ad : Nat → Nat) (σ : Sg)  (hO : OFP σ) : cRv l yX5_office wsX5_office 2 G ad σ [] (fun σ9 => σ9 = off σ) := by
  intro M sz hR
  refine m_start cX5_office 3 none (by decide) rfl (Nat.le_of_ble_eq_true rfl) ?_
  intro p e s m below meth c ls hx hb hr hml hown hlk hnm hts hK hsz hE hW hl
  have hA := mA_A (M := M) hsz
  have hl : lv_has ls 3 [(0, .ref (ad 0))] := hl
  have hW := rW_start hR hW
  have hinX5 : ∀ w ∈ u_ws RX5 TX5 26, w ∈ wsX5_office := (fun _ h => List.mem_cons_of_mem _ (List.mem_append_right _ h))
  have hL9 := hO.2.1.le
  have h89 : σ 8 0 ≤ 40 := hO.1 8 0
  refine lv_iconst (v := nI 0) hx hb dX5_office_0 (by decide) ?_
  refine lv_istore_n (lv' := [(1, .int (nI 0)), (0, .ref (ad 0))]) hx hb dX5_office_1 rfl hl (by decide) rfl (fun ls hl => ?_)
  refine m_loop (σ 20 0) (fun n H locs ls => rW G ad (mA M sz) s.heap M (opN σ n) H locs ∧ lv_has ls 3 [(1, .int (nI n)), (0, .ref (ad 0))]) 0 (Nat.zero_le _) ⟨hW, lv_sub hl [0, 1] rfl⟩ (fun n H locs ls hn hI ih => ?_)
  obtain ⟨hW, hl⟩ := hI
  have h20 := hO.at20 hn
  have hat := fun h => hO.at (n := n) h
  obtain ⟨τ, eτ⟩ : ∃ z : Sg, z = opN σ n := ⟨_, rfl⟩
  rw [← eτ] at hW h20 hat
  refine lv_iload_n hx hb dX5_office_2 rfl (lv_at hl 0 rfl) ?_
  refine lv_aload_n hx hb dX5_office_3 rfl (lv_at hl 1 rfl) ?_
  refine rr_geti hx hb hts hinX5 hown hK hW 20 (by decide) rfl rfl (hts (.fieldLink RX5 112 "SeaPostModel" "deadMany" "I") (by decide +kernel)) dX5_office_4 ?_
  refine nv_icmp_ge (u := n) (v := τ 20 0) (tgt := 80) hx hb dX5_office_7 (by decide) (by omega) (by omega) (fun c_1 => ?_) (fun c_1 => ?_)
  · skip
    refine lv_aload_n hx hb dX5_office_80 rfl (lv_at hl 1 rfl) ?_
    refine lv_iconst (v := nI 0) hx hb dX5_office_81 (by decide) ?_
    refine rr_puti (v := 0) hx hb hts hinX5 hown hK hW 20 (by decide) rfl rfl (hts (.fieldLink RX5 112 "SeaPostModel" "deadMany" "I") (by decide +kernel)) rfl (by decide +kernel) dX5_office_82 (fun H locs hW => ?_)
    obtain ⟨σ_2, eσ_2⟩ : ∃ z : Sg, z = st τ 20 0 0 := ⟨_, rfl⟩
    rw [← eσ_2] at hW
    have hn9 : n = σ 20 0 := by omega
    exact rr_vret hx hb hr hlk (Nat.le_refl 0) (Nat.le_refl 0) hW (by subst eσ_2; subst eτ; unfold off; rw [hn9]) dX5_office_85
  · skip
    refine lv_aload_n hx hb dX5_office_10 rfl (lv_at hl 1 rfl) ?_
    refine rr_geta hx hb hts hinX5 hown hK hW 19 (by decide) rfl rfl (hts (.fieldLink RX5 61 "SeaPostModel" "died" "[I") (by decide +kernel)) dX5_office_11 ?_
    refine lv_iload_n hx hb dX5_office_14 rfl (lv_at hl 0 rfl) ?_
    refine rr_ald (j := n) hx hb hK hW 19 rfl rfl (show n < 40 by omega) dX5_office_15 ?_
    obtain ⟨hq1, hq2, hq3, hq4⟩ := hat (by omega)
    refine lv_istore_n (lv' := [(2, .int (nI (τ 19 n))), (1, .int (nI n)), (0, .ref (ad 0))]) hx hb dX5_office_16 rfl hl (by decide) rfl (fun ls hl => ?_)
    refine lv_aload_n hx hb dX5_office_17 rfl (lv_at hl 2 rfl) ?_
    refine rr_geta hx hb hts hinX5 hown hK hW 10 (by decide) rfl rfl (hts (.fieldLink RX5 34 "SeaPostModel" "homeOf" "[I") (by decide +kernel)) dX5_office_18 ?_
    refine lv_iload_n hx hb dX5_office_21 rfl (lv_at hl 0 rfl) ?_
    refine rr_ald (j := τ 19 n) hx hb hK hW 10 rfl rfl (show τ 19 n < 40 by omega) dX5_office_22 ?_
    refine lv_iconst (v := nI 4294967295) hx hb dX5_office_23 (by decide) ?_
    refine nv_icmp_ne (u := τ 10 (τ 19 n)) (v := 4294967295) (tgt := 45) hx hb dX5_office_24 (by decide) (by omega) (by omega) (fun c_3 => ?_) (fun c_3 => ?_)
    · skip
      refine lv_aload_n hx hb dX5_office_45 rfl (lv_at hl 2 rfl) ?_
      refine rr_geta hx hb hts hinX5 hown hK hW 12 (by decide) rfl rfl (hts (.fieldLink RX5 40 "SeaPostModel" "stateOf" "[I") (by decide +kernel)) dX5_office_46 ?_
      refine lv_iload_n hx hb dX5_office_49 rfl (lv_at hl 0 rfl) ?_
      refine lv_bipush (v := nI 6) hx hb dX5_office_50 (by decide) ?_
      refine rr_ast (j := τ 19 n) (v := 6) hx hb hK hW 12 rfl rfl (show τ 19 n < 40 by omega) dX5_office_52 (fun H locs hW => ?_)
      obtain ⟨σ_4, eσ_4⟩ : ∃ z : Sg, z = st τ 12 (τ 19 n) 6 := ⟨_, rfl⟩
      rw [← eσ_4] at hW
      refine lv_aload_n hx hb dX5_office_53 rfl (lv_at hl 2 rfl) ?_
      refine lv_iload_n hx hb dX5_office_54 rfl (lv_at hl 0 rfl) ?_
      refine lv_bipush (v := nI 60) hx hb dX5_office_55 (by decide) ?_
      refine rk_Vv (As := [.int (nI (τ 19 n)), .int (nI 60)]) (nL := 3) ⟨hx, hb, hml, hown, hts⟩ (c5_writes l G ad σ_4 (τ 19 n) 60 (by omega) (by have := (hat (by omega)).2.2.1; subst eσ_4; first | (rw [st_f (by decide)]; omega) | (rw [wr_18, st_f (by decide)]; omega))) (cwV 2 hts gX5_office_X5_writes rfl rfl rfl (by decide +kernel) ⟨(Nat.le_of_ble_eq_true rfl), (Nat.le_of_ble_eq_true rfl)⟩) hK hE hW hA rfl hl.1 rfl (Nat.le_of_ble_eq_true rfl) dX5_office_57 (Nat.zero_le _) (Nat.zero_le _) (fun σ9 H locs hp_5 hW => ?_)
      obtain ⟨σ_6, eσ_6⟩ : ∃ z : Sg, z = σ9 := ⟨_, rfl⟩
      rw [← eσ_6] at hW
      rw [hp_5] at eσ_6
      clear hp_5
      refine lv_aload_n hx hb dX5_office_60 rfl (lv_at hl 2 rfl) ?_
      refine lv_iload_n hx hb dX5_office_61 rfl (lv_at hl 0 rfl) ?_
      refine lv_bipush (v := nI 65) hx hb dX5_office_62 (by decide) ?_
      refine lv_aload_n hx hb dX5_office_64 rfl (lv_at hl 2 rfl) ?_
      refine rr_geta hx hb hts hinX5 hown hK hW 10 (by decide) rfl rfl (hts (.fieldLink RX5 34 "SeaPostModel" "homeOf" "[I") (by decide +kernel)) dX5_office_65 ?_
      refine lv_iload_n hx hb dX5_office_68 rfl (lv_at hl 0 rfl) ?_
      refine rr_ald (j := τ 19 n) hx hb hK hW 10 rfl rfl (show τ 19 n < 40 by omega) dX5_office_69 ?_
      refine lv_tope (congrArg nI (show σ_6 10 (τ 19 n) = τ 10 (τ 19 n) by rw [eσ_6, wr_f (by decide), eσ_4, st_f (by decide)])) ?_
      refine lv_iadd hx hb dX5_office_70 (lv_tope (nI_add 65 (τ 10 (τ 19 n))) ?_)
      refine rk_Vv (As := [.int (nI (τ 19 n)), .int (nI (65 + (τ 10 (τ 19 n))))]) (nL := 3) ⟨hx, hb, hml, hown, hts⟩ (c5_writes l G ad σ_6 (τ 19 n) (65 + (τ 10 (τ 19 n))) (by omega) (by have := (hat (by omega)).2.2.1; subst eσ_4; subst eσ_6; first | (rw [st_f (by decide)]; omega) | (rw [wr_18, st_f (by decide)]; omega))) (cwV 2 hts gX5_office_X5_writes rfl rfl rfl (by decide +kernel) ⟨(Nat.le_of_ble_eq_true rfl), (Nat.le_of_ble_eq_true rfl)⟩) hK hE hW hA rfl hl.1 rfl (Nat.le_of_ble_eq_true rfl) dX5_office_71 (Nat.zero_le _) (Nat.zero_le _) (fun σ9 H locs hp_7 hW => ?_)
      obtain ⟨σ_8, eσ_8⟩ : ∃ z : Sg, z = σ9 := ⟨_, rfl⟩
      rw [← eσ_8] at hW
      rw [hp_7] at eσ_8
      clear hp_7
      refine lv_iinc (v := nI (n + 1)) (lv' := [(1, .int (nI (n + 1))), (2, .int (nI (τ 19 n))), (0, .ref (ad 0))]) hx hb dX5_office_74 hl (k := 1) rfl (by rw [show (Int32.ofInt 1) = nI 1 by decide, nI_add]) (by decide) rfl (fun ls hl => ?_)
      refine lv_goto (tgt := 2) hx hb dX5_office_77 (by decide) ?_
      have hst : σ_8 = opN σ (n + 1) := by subst eσ_4; subst eσ_6; subst eσ_8; subst eτ; show _ = (if _ then _ else _ : Sg); first | (rw [if_pos (by omega)]; done) | (rw [if_neg (by omega)]; done)
      exact ih _ _ _ (by omega) ⟨by rw [← hst]; exact hW, lv_sub hl [0, 2] rfl⟩
    · skip
      refine lv_aload_n hx hb dX5_office_27 rfl (lv_at hl 2 rfl) ?_
      refine rr_geta hx hb hts hinX5 hown hK hW 12 (by decide) rfl rfl (hts (.fieldLink RX5 40 "SeaPostModel" "stateOf" "[I") (by decide +kernel)) dX5_office_28 ?_
      refine lv_iload_n hx hb dX5_office_31 rfl (lv_at hl 0 rfl) ?_
      refine lv_bipush (v := nI 7) hx hb dX5_office_32 (by decide) ?_
      refine rr_ast (j := τ 19 n) (v := 7) hx hb hK hW 12 rfl rfl (show τ 19 n < 40 by omega) dX5_office_34 (fun H locs hW => ?_)
      obtain ⟨σ_9, eσ_9⟩ : ∃ z : Sg, z = st τ 12 (τ 19 n) 7 := ⟨_, rfl⟩
      rw [← eσ_9] at hW
      refine lv_aload_n hx hb dX5_office_35 rfl (lv_at hl 2 rfl) ?_
      refine lv_iload_n hx hb dX5_office_36 rfl (lv_at hl 0 rfl) ?_
      refine lv_bipush (v := nI 42) hx hb dX5_office_37 (by decide) ?_
      refine rk_Vv (As := [.int (nI (τ 19 n)), .int (nI 42)]) (nL := 3) ⟨hx, hb, hml, hown, hts⟩ (c5_writes l G ad σ_9 (τ 19 n) 42 (by omega) (by have := (hat (by omega)).2.2.1; subst eσ_9; first | (rw [st_f (by decide)]; omega) | (rw [wr_18, st_f (by decide)]; omega))) (cwV 2 hts gX5_office_X5_writes rfl rfl rfl (by decide +kernel) ⟨(Nat.le_of_ble_eq_true rfl), (Nat.le_of_ble_eq_true rfl)⟩) hK hE hW hA rfl hl.1 rfl (Nat.le_of_ble_eq_true rfl) dX5_office_39 (Nat.zero_le _) (Nat.zero_le _) (fun σ9 H locs hp_10 hW => ?_)
      obtain ⟨σ_11, eσ_11⟩ : ∃ z : Sg, z = σ9 := ⟨_, rfl⟩
      rw [← eσ_11] at hW
      rw [hp_10] at eσ_11
      clear hp_10
      refine lv_goto (tgt := 74) hx hb dX5_office_42 (by decide) ?_
      refine lv_iinc (v := nI (n + 1)) (lv' := [(1, .int (nI (n + 1))), (2, .int (nI (τ 19 n))), (0, .ref (ad 0))]) hx hb dX5_office_74 hl (k := 1) rfl (by rw [show (Int32.ofInt 1) = nI 1 by decide, nI_add]) (by decide) rfl (fun ls hl => ?_)
      refine lv_goto (tgt := 2) hx hb dX5_office_77 (by decide) ?_
      have hst : σ_11 = opN σ (n + 1) := by subst eσ_9; subst eσ_11; subst eτ; show _ = (if _ then _ else _ : Sg); first | (rw [if_pos (by omega)]; done) | (rw [if_neg (by omega)]; done)
      exact ih _ _ _ (by omega) ⟨by rw [← hst]; exact hW, lv_sub hl [0, 2] rfl⟩
