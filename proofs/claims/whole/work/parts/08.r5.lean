/-! THE REFERENCE'S METHODS, FIFTH PART (rows laid by my program gen/ref5.py) -/
theorem ha_1 {σ : Sg} {i : Nat} (h : shut σ (σ 13 i)) : ha σ i = hld σ i := if_pos h
theorem ha_2 {σ : Sg} {i : Nat} (h : ¬ shut σ (σ 13 i)) (h2 : plS σ (σ 9 i) = σ 13 i) : ha σ i = dlv σ i := by
  unfold ha
  rw [if_neg h, if_pos h2]
theorem ha_3 {σ : Sg} {i : Nat} (h : ¬ shut σ (σ 13 i)) (h2 : ¬ plS σ (σ 9 i) = σ 13 i) (h3 : ¬ woS σ (σ 13 i) (σ 9 i) = 4294967295) (h4 : chF σ (6 * roW σ i) (σ 13 i) (σ 3 (roW σ i)) = true) : ha σ i = st σ 12 i 2 := by
  unfold ha
  rw [if_neg h, if_neg h2, if_pos ⟨h3, h4⟩]
theorem ha_4 {σ : Sg} {i : Nat} (h : ¬ shut σ (σ 13 i)) (h2 : ¬ plS σ (σ 9 i) = σ 13 i) (h3 : ¬ woS σ (σ 13 i) (σ 9 i) = 4294967295) (h4 : ¬ chF σ (6 * roW σ i) (σ 13 i) (σ 3 (roW σ i)) = true) (h5 : ¬ meS σ i = 4294967295) : ha σ i = go σ i (σ 4 (meS σ i)) := by
  unfold ha
  rw [if_neg h, if_neg h2, if_neg (fun z => h4 z.2), if_pos ⟨h3, h5⟩]
theorem ha_5 {σ : Sg} {i : Nat} (h : ¬ shut σ (σ 13 i)) (h2 : ¬ plS σ (σ 9 i) = σ 13 i) (h3 : woS σ (σ 13 i) (σ 9 i) = 4294967295 ∨ (¬ chF σ (6 * roW σ i) (σ 13 i) (σ 3 (roW σ i)) = true ∧ meS σ i = 4294967295)) : ha σ i = st σ 12 i 4 := by
  unfold ha
  rw [if_neg h, if_neg h2, if_neg (fun z => by rcases h3 with h3 | h3; exact z.1 h3; exact h3.1 z.2), if_neg (fun z => by rcases h3 with h3 | h3; exact z.1 h3; exact z.2 h3.2)]
theorem hldA_f {σ : Sg} {i g j : Nat} (h : g ≠ 17 ∧ g ≠ 18) : (if σ 12 i = 0 then σ else wr (wr σ i 55357) i 57003) g j = σ g j := by
  split
  · rfl
  · rw [wr_f h, wr_f h]

set_option maxHeartbeats 4000000 in
set_option maxRecDepth 100000 in
theorem c5_handles (l : Launch) (G : mG) (ad : Nat → Nat) (σ : Sg) (i : Nat) (hi : i < 40) (hB : RB σ) (hm : σ 18 i < 170) (hp : lpS σ i < σ 18 i) (h20 : σ 20 0 < 40) (h22 : σ 22 0 < 40) : cRv l yX5_handles wsX5_handles 3 G ad σ [.int (nI i)] (fun σ9 => σ9 = ha σ i) := by
  intro M sz hR
  refine m_start cX5_handles 6 none (by decide) rfl (Nat.le_of_ble_eq_true rfl) ?_
  intro p e s m below meth c ls hx hb hr hml hown hlk hnm hts hK hsz hE hW hl
  have hA := mA_A (M := M) hsz
  have hl : lv_has ls 6 [(0, .ref (ad 0)), (1, .int (nI i))] := hl
  have hW := rW_start hR hW
  have hinX5 : ∀ w ∈ u_ws RX5 TX5 26, w ∈ wsX5_handles := (fun _ h => List.mem_cons_of_mem _ (List.mem_append_right _ h))
  obtain ⟨⟨h0, h8, hd⟩, h7, h3, h12, h45, h17, hl9, h23, h1921⟩ := id hB
  have hi9 := hl9 i
  have h7s := h7 (σ 9 i)
  refine lv_aload_n hx hb dX5_handles_0 rfl (lv_at hl 0 rfl) ?_
  refine rr_geta hx hb hts hinX5 hown hK hW 13 (by decide) rfl rfl (hts (.fieldLink RX5 43 "SeaPostModel" "portOf" "[I") (by decide +kernel)) dX5_handles_1 ?_
  refine lv_iload_n hx hb dX5_handles_4 rfl (lv_at hl 1 rfl) ?_
  refine rr_ald (j := i) hx hb hK hW 13 rfl rfl (show i < 40 by omega) dX5_handles_5 ?_
  refine lv_istore_n (lv' := [(2, .int (nI (σ 13 i))), (0, .ref (ad 0)), (1, .int (nI i))]) hx hb dX5_handles_6 rfl hl (by decide) rfl (fun ls hl => ?_)
  refine lv_aload_n hx hb dX5_handles_7 rfl (lv_at hl 1 rfl) ?_
  refine rr_geta hx hb hts hinX5 hown hK hW 9 (by decide) rfl rfl (hts (.fieldLink RX5 31 "SeaPostModel" "its" "[I") (by decide +kernel)) dX5_handles_8 ?_
  refine lv_iload_n hx hb dX5_handles_11 rfl (lv_at hl 2 rfl) ?_
  refine rr_ald (j := i) hx hb hK hW 9 rfl rfl (show i < 40 by omega) dX5_handles_12 ?_
  refine lv_istore_n (lv' := [(3, .int (nI (σ 9 i))), (2, .int (nI (σ 13 i))), (0, .ref (ad 0)), (1, .int (nI i))]) hx hb dX5_handles_13 rfl hl (by decide) rfl (fun ls hl => ?_)
  refine lv_aload_n hx hb dX5_handles_14 rfl (lv_at hl 2 rfl) ?_
  refine lv_iload_n hx hb dX5_handles_15 rfl (lv_at hl 1 rfl) ?_
  refine lv_iload_n hx hb dX5_handles_16 rfl (lv_at hl 0 rfl) ?_
  refine rk_Vi (As := [.int (nI (σ 13 i)), .int (nI (σ 9 i))]) (nL := 6) ⟨hx, hb, hml, hown, hts⟩ (c5_wordOf l G ad σ (σ 13 i) (σ 9 i) (by omega) (by omega) (fun z _ => h7 z) (fun z _ => h12 z) hd) (cwV 2 hts gX5_handles_X5_wordOf rfl rfl rfl (by decide +kernel) ⟨(Nat.le_of_ble_eq_true rfl), (Nat.le_of_ble_eq_true rfl)⟩) hK hE hW hA rfl hl.1 rfl (Nat.le_of_ble_eq_true rfl) dX5_handles_17 (Nat.zero_le _) (Nat.zero_le _) (fun r9 σ9 H locs hp_1 hW => ?_)
  obtain ⟨e91, e92⟩ := hp_1
  subst e91
  rw [e92] at hW
  clear e92
  refine lv_istore (lv' := [(4, .int (nI (woS σ (σ 13 i) (σ 9 i)))), (3, .int (nI (σ 9 i))), (2, .int (nI (σ 13 i))), (0, .ref (ad 0)), (1, .int (nI i))]) hx hb dX5_handles_20 hl (by decide) rfl (fun ls hl => ?_)
  refine lv_iload_n hx hb dX5_handles_22 rfl (lv_at hl 1 rfl) ?_
  refine lv_iload hx hb dX5_handles_23 (lv_at hl 0 rfl) ?_
  refine lv_iconst (v := nI 4294967295) hx hb dX5_handles_25 (by decide) ?_
  have hwb := woS_b (σ := σ) (p := σ 13 i) (s := σ 9 i) h7s
  refine m_joinI (g' := F0 m 35 ls [.int (nI (if woS σ (σ 13 i) (σ 9 i) = 4294967295 then 0 else woS σ (σ 13 i) (σ 9 i))), .int (nI (σ 9 i))]) (fun H locs => rW G ad (mA M sz) s.heap M σ H locs) (fun H locs hW => ?_) (fun J => ?_)
  · skip
    refine rk_S (As := [.int (nI (σ 9 i)), .int (nI (if woS σ (σ 13 i) (σ 9 i) = 4294967295 then 0 else woS σ (σ 13 i) (σ 9 i)))]) (nL := 6) ⟨hx, hb, hml, hown, hts⟩ (c5_rowOf l (σ 9 i) (if woS σ (σ 13 i) (σ 9 i) = 4294967295 then 0 else woS σ (σ 13 i) (σ 9 i))) (va_cwS 2 hts gX5_handles_X5_rowOf rfl rfl rfl (by decide +kernel) ⟨(Nat.le_of_ble_eq_true rfl), (Nat.le_of_ble_eq_true rfl)⟩) hK hE hW hA rfl hl.1 rfl (Nat.le_of_ble_eq_true rfl) dX5_handles_35 (Nat.zero_le _) (Nat.zero_le _) (fun H locs hW => ?_)
    have hrow : (21 * σ 9 i + (if woS σ (σ 13 i) (σ 9 i) = 4294967295 then 0 else woS σ (σ 13 i) (σ 9 i))) < 168 := by split <;> omega
    refine lv_istore (lv' := [(5, .int (nI (21 * (σ 9 i) + (if woS σ (σ 13 i) (σ 9 i) = 4294967295 then 0 else woS σ (σ 13 i) (σ 9 i))))), (4, .int (nI (woS σ (σ 13 i) (σ 9 i)))), (3, .int (nI (σ 9 i))), (2, .int (nI (σ 13 i))), (0, .ref (ad 0)), (1, .int (nI i))]) hx hb dX5_handles_38 hl (by decide) rfl (fun ls hl => ?_)
    refine lv_aload_n hx hb dX5_handles_40 rfl (lv_at hl 4 rfl) ?_
    refine lv_iload_n hx hb dX5_handles_41 rfl (lv_at hl 3 rfl) ?_
    refine rk_Vi (As := [.int (nI (σ 13 i))]) (nL := 6) ⟨hx, hb, hml, hown, hts⟩ (c5_isShut l G ad σ (σ 13 i) (by omega) (by have := h23 (σ 13 i); omega) (by omega)) (cwV 1 hts gX5_handles_X5_isShut rfl rfl rfl (by decide +kernel) ⟨(Nat.le_of_ble_eq_true rfl), (Nat.le_of_ble_eq_true rfl)⟩) hK hE hW hA rfl hl.1 rfl (Nat.le_of_ble_eq_true rfl) dX5_handles_42 (Nat.zero_le _) (Nat.zero_le _) (fun r9 σ9 H locs hp_2 hW => ?_)
    obtain ⟨e91, e92⟩ := hp_2
    subst e91
    rw [e92] at hW
    clear e92
    refine nb_if_eq (tgt := 81) hx hb dX5_handles_45 (by decide) (fun c_3 => ?_) (fun c_3 => ?_)
    · skip
      refine lv_aload_n hx hb dX5_handles_81 rfl (lv_at hl 4 rfl) ?_
      refine lv_iload_n hx hb dX5_handles_82 rfl (lv_at hl 2 rfl) ?_
      refine rk_Vi (As := [.int (nI (σ 9 i))]) (nL := 6) ⟨hx, hb, hml, hown, hts⟩ (c5_placeOf l G ad σ (σ 9 i) (by omega) (h7 _) (fun z _ => h3 z) (fun z _ => h45 z) hd) (cwV 1 hts gX5_handles_X5_placeOf rfl rfl rfl (by decide +kernel) ⟨(Nat.le_of_ble_eq_true rfl), (Nat.le_of_ble_eq_true rfl)⟩) hK hE hW hA rfl hl.1 rfl (Nat.le_of_ble_eq_true rfl) dX5_handles_83 (Nat.zero_le _) (Nat.zero_le _) (fun r9 σ9 H locs hp_4 hW => ?_)
      obtain ⟨e91, e92⟩ := hp_4
      subst e91
      rw [e92] at hW
      clear e92
      have hpb := plS_b (σ := σ) (s := σ 9 i) (fun z => (h45 z).1)
      refine lv_iload_n hx hb dX5_handles_86 rfl (lv_at hl 3 rfl) ?_
      refine nv_icmp_ne (u := plS σ (σ 9 i)) (v := σ 13 i) (tgt := 137) hx hb dX5_handles_87 (by decide) (by omega) (by omega) (fun c_5 => ?_) (fun c_5 => ?_)
      · skip
        refine lv_iload hx hb dX5_handles_137 (lv_at hl 1 rfl) ?_
        refine lv_iconst (v := nI 4294967295) hx hb dX5_handles_139 (by decide) ?_
        refine nv_icmp_eq (u := woS σ (σ 13 i) (σ 9 i)) (v := 4294967295) (tgt := 163) hx hb dX5_handles_140 (by decide) (by omega) (by omega) (fun c_6 => ?_) (fun c_6 => ?_)
        · skip
          refine lv_iload hx hb dX5_handles_163 (lv_at hl 1 rfl) ?_
          refine lv_iconst (v := nI 4294967295) hx hb dX5_handles_165 (by decide) ?_
          refine nv_icmp_eq (u := woS σ (σ 13 i) (σ 9 i)) (v := 4294967295) (tgt := 200) hx hb dX5_handles_166 (by decide) (by omega) (by omega) (fun c_7 => ?_) (fun c_7 => ?_)
          · skip
            refine lv_aload_n hx hb dX5_handles_200 rfl (lv_at hl 4 rfl) ?_
            refine rr_geta hx hb hts hinX5 hown hK hW 12 (by decide) rfl rfl (hts (.fieldLink RX5 40 "SeaPostModel" "stateOf" "[I") (by decide +kernel)) dX5_handles_201 ?_
            refine lv_iload_n hx hb dX5_handles_204 rfl (lv_at hl 5 rfl) ?_
            refine lv_iconst (v := nI 4) hx hb dX5_handles_205 (by decide) ?_
            refine rr_ast (j := i) (v := 4) hx hb hK hW 12 rfl rfl (show i < 40 by omega) dX5_handles_206 (fun H locs hW => ?_)
            obtain ⟨σ_8, eσ_8⟩ : ∃ z : Sg, z = st σ 12 i 4 := ⟨_, rfl⟩
            rw [← eσ_8] at hW
            exact rr_vret hx hb hr hlk (Nat.le_refl 0) (Nat.le_refl 0) hW (by subst eσ_8; rw [ha_5 (by first | assumption | omega) (by first | assumption | omega) (by first | (exact Or.inl (by omega)) | (exact Or.inr ⟨by assumption, by assumption⟩))]) dX5_handles_207
          · skip
            refine lv_aload_n hx hb dX5_handles_169 rfl (lv_at hl 4 rfl) ?_
            refine lv_iload hx hb dX5_handles_170 (lv_at hl 0 rfl) ?_
            refine lv_iload_n hx hb dX5_handles_172 rfl (lv_at hl 3 rfl) ?_
            refine rk_Vi (As := [.int (nI (21 * (σ 9 i) + (if woS σ (σ 13 i) (σ 9 i) = 4294967295 then 0 else woS σ (σ 13 i) (σ 9 i)))), .int (nI (σ 13 i))]) (nL := 6) ⟨hx, hb, hml, hown, hts⟩ (c5_meets l G ad σ (21 * (σ 9 i) + (if woS σ (σ 13 i) (σ 9 i) = 4294967295 then 0 else woS σ (σ 13 i) (σ 9 i))) (σ 13 i) (by omega) (by omega) (fun z _ => h3 z) (fun z _ => h45 z) hd (fun z => (h45 z).1) (fun z => (h45 z).2.1)) (cwV 2 hts gX5_handles_X5_meets rfl rfl rfl (by decide +kernel) ⟨(Nat.le_of_ble_eq_true rfl), (Nat.le_of_ble_eq_true rfl)⟩) hK hE hW hA rfl hl.1 rfl (Nat.le_of_ble_eq_true rfl) dX5_handles_173 (Nat.zero_le _) (Nat.zero_le _) (fun r9 σ9 H locs hp_9 hW => ?_)
            obtain ⟨e91, e92⟩ := hp_9
            subst e91
            rw [e92] at hW
            clear e92
            have hmb := mtF_b (σ := σ) (b := 6 * (21 * σ 9 i + (if woS σ (σ 13 i) (σ 9 i) = 4294967295 then 0 else woS σ (σ 13 i) (σ 9 i)))) (p := σ 13 i) (σ 3 (21 * σ 9 i + (if woS σ (σ 13 i) (σ 9 i) = 4294967295 then 0 else woS σ (σ 13 i) (σ 9 i))))
            have h3r := h3 (21 * σ 9 i + (if woS σ (σ 13 i) (σ 9 i) = 4294967295 then 0 else woS σ (σ 13 i) (σ 9 i)))
            refine lv_iconst (v := nI 4294967295) hx hb dX5_handles_176 (by decide) ?_
            refine nv_icmp_eq (u := (mtF σ (6 * (21 * (σ 9 i) + (if woS σ (σ 13 i) (σ 9 i) = 4294967295 then 0 else woS σ (σ 13 i) (σ 9 i)))) (σ 13 i) (σ 3 (21 * (σ 9 i) + (if woS σ (σ 13 i) (σ 9 i) = 4294967295 then 0 else woS σ (σ 13 i) (σ 9 i))))).1) (v := 4294967295) (tgt := 200) hx hb dX5_handles_177 (by decide) (by omega) (by omega) (fun c_10 => ?_) (fun c_10 => ?_)
            · skip
              refine lv_aload_n hx hb dX5_handles_200 rfl (lv_at hl 4 rfl) ?_
              refine rr_geta hx hb hts hinX5 hown hK hW 12 (by decide) rfl rfl (hts (.fieldLink RX5 40 "SeaPostModel" "stateOf" "[I") (by decide +kernel)) dX5_handles_201 ?_
              refine lv_iload_n hx hb dX5_handles_204 rfl (lv_at hl 5 rfl) ?_
              refine lv_iconst (v := nI 4) hx hb dX5_handles_205 (by decide) ?_
              refine rr_ast (j := i) (v := 4) hx hb hK hW 12 rfl rfl (show i < 40 by omega) dX5_handles_206 (fun H locs hW => ?_)
              obtain ⟨σ_11, eσ_11⟩ : ∃ z : Sg, z = st σ 12 i 4 := ⟨_, rfl⟩
              rw [← eσ_11] at hW
              exact rr_vret hx hb hr hlk (Nat.le_refl 0) (Nat.le_refl 0) hW (by subst eσ_11; rw [ha_5 (by first | assumption | omega) (by first | assumption | omega) (by first | (exact Or.inl (by omega)) | (exact Or.inr ⟨by assumption, by assumption⟩))]) dX5_handles_207
            · skip
              refine lv_aload_n hx hb dX5_handles_180 rfl (lv_at hl 4 rfl) ?_
              refine lv_iload_n hx hb dX5_handles_181 rfl (lv_at hl 5 rfl) ?_
              refine lv_aload_n hx hb dX5_handles_182 rfl (lv_at hl 4 rfl) ?_
              refine rr_geta hx hb hts hinX5 hown hK hW 4 (by decide) rfl rfl (hts (.fieldLink RX5 19 "SeaPostModel" "callPort" "[I") (by decide +kernel)) dX5_handles_183 ?_
              refine lv_aload_n hx hb dX5_handles_186 rfl (lv_at hl 4 rfl) ?_
              refine lv_iload hx hb dX5_handles_187 (lv_at hl 0 rfl) ?_
              refine lv_iload_n hx hb dX5_handles_189 rfl (lv_at hl 3 rfl) ?_
              refine rk_Vi (As := [.int (nI (21 * (σ 9 i) + (if woS σ (σ 13 i) (σ 9 i) = 4294967295 then 0 else woS σ (σ 13 i) (σ 9 i)))), .int (nI (σ 13 i))]) (nL := 6) ⟨hx, hb, hml, hown, hts⟩ (c5_meets l G ad σ (21 * (σ 9 i) + (if woS σ (σ 13 i) (σ 9 i) = 4294967295 then 0 else woS σ (σ 13 i) (σ 9 i))) (σ 13 i) (by omega) (by omega) (fun z _ => h3 z) (fun z _ => h45 z) hd (fun z => (h45 z).1) (fun z => (h45 z).2.1)) (cwV 2 hts gX5_handles_X5_meets rfl rfl rfl (by decide +kernel) ⟨(Nat.le_of_ble_eq_true rfl), (Nat.le_of_ble_eq_true rfl)⟩) hK hE hW hA rfl hl.1 rfl (Nat.le_of_ble_eq_true rfl) dX5_handles_190 (Nat.zero_le _) (Nat.zero_le _) (fun r9 σ9 H locs hp_12 hW => ?_)
              obtain ⟨e91, e92⟩ := hp_12
              subst e91
              rw [e92] at hW
              clear e92
              have hmb := mtF_b (σ := σ) (b := 6 * (21 * σ 9 i + (if woS σ (σ 13 i) (σ 9 i) = 4294967295 then 0 else woS σ (σ 13 i) (σ 9 i)))) (p := σ 13 i) (σ 3 (21 * σ 9 i + (if woS σ (σ 13 i) (σ 9 i) = 4294967295 then 0 else woS σ (σ 13 i) (σ 9 i))))
              refine rr_ald (j := (mtF σ (6 * (21 * (σ 9 i) + (if woS σ (σ 13 i) (σ 9 i) = 4294967295 then 0 else woS σ (σ 13 i) (σ 9 i)))) (σ 13 i) (σ 3 (21 * (σ 9 i) + (if woS σ (σ 13 i) (σ 9 i) = 4294967295 then 0 else woS σ (σ 13 i) (σ 9 i))))).1) hx hb hK hW 4 rfl rfl (show (mtF σ (6 * (21 * (σ 9 i) + (if woS σ (σ 13 i) (σ 9 i) = 4294967295 then 0 else woS σ (σ 13 i) (σ 9 i)))) (σ 13 i) (σ 3 (21 * (σ 9 i) + (if woS σ (σ 13 i) (σ 9 i) = 4294967295 then 0 else woS σ (σ 13 i) (σ 9 i))))).1 < 1008 by omega) dX5_handles_193 ?_
              refine rk_Vv (As := [.int (nI i), .int (nI (σ 4 ((mtF σ (6 * (21 * (σ 9 i) + (if woS σ (σ 13 i) (σ 9 i) = 4294967295 then 0 else woS σ (σ 13 i) (σ 9 i)))) (σ 13 i) (σ 3 (21 * (σ 9 i) + (if woS σ (σ 13 i) (σ 9 i) = 4294967295 then 0 else woS σ (σ 13 i) (σ 9 i))))).1)))]) (nL := 6) ⟨hx, hb, hml, hown, hts⟩ (c5_goesOn l G ad σ i (σ 4 ((mtF σ (6 * (21 * (σ 9 i) + (if woS σ (σ 13 i) (σ 9 i) = 4294967295 then 0 else woS σ (σ 13 i) (σ 9 i)))) (σ 13 i) (σ 3 (21 * (σ 9 i) + (if woS σ (σ 13 i) (σ 9 i) = 4294967295 then 0 else woS σ (σ 13 i) (σ 9 i))))).1)) hi (by have := (h45 (mtF σ (6 * (21 * σ 9 i + (if woS σ (σ 13 i) (σ 9 i) = 4294967295 then 0 else woS σ (σ 13 i) (σ 9 i)))) (σ 13 i) (σ 3 (21 * σ 9 i + (if woS σ (σ 13 i) (σ 9 i) = 4294967295 then 0 else woS σ (σ 13 i) (σ 9 i))))).1).1; omega) (by omega) hp (fun z _ => h17 z) h20 (by omega) (by omega) hd) (cwV 2 hts gX5_handles_X5_goesOn rfl rfl rfl (by decide +kernel) ⟨(Nat.le_of_ble_eq_true rfl), (Nat.le_of_ble_eq_true rfl)⟩) hK hE hW hA rfl hl.1 rfl (Nat.le_of_ble_eq_true rfl) dX5_handles_194 (Nat.zero_le _) (Nat.zero_le _) (fun σ9 H locs hp_13 hW => ?_)
              obtain ⟨σ_14, eσ_14⟩ : ∃ z : Sg, z = σ9 := ⟨_, rfl⟩
              rw [← eσ_14] at hW
              rw [hp_13] at eσ_14
              clear hp_13
              refine lv_goto (tgt := 207) hx hb dX5_handles_197 (by decide) ?_
              exact rr_vret hx hb hr hlk (Nat.le_refl 0) (Nat.le_refl 0) hW (by subst eσ_14; rw [ha_4 (by first | assumption | omega) (by first | assumption | omega) (by first | assumption | omega) (by first | assumption | omega) (by first | assumption | omega)]) dX5_handles_207
        · skip
          refine lv_aload_n hx hb dX5_handles_143 rfl (lv_at hl 4 rfl) ?_
          refine lv_iload hx hb dX5_handles_144 (lv_at hl 0 rfl) ?_
          refine lv_iload_n hx hb dX5_handles_146 rfl (lv_at hl 3 rfl) ?_
          refine rk_Vi (As := [.int (nI (21 * (σ 9 i) + (if woS σ (σ 13 i) (σ 9 i) = 4294967295 then 0 else woS σ (σ 13 i) (σ 9 i)))), .int (nI (σ 13 i))]) (nL := 6) ⟨hx, hb, hml, hown, hts⟩ (c5_isCallHere l G ad σ (21 * (σ 9 i) + (if woS σ (σ 13 i) (σ 9 i) = 4294967295 then 0 else woS σ (σ 13 i) (σ 9 i))) (σ 13 i) (by omega) (by omega) (fun z _ => h3 z) (fun z _ => h45 z) hd) (cwV 2 hts gX5_handles_X5_isCallHere rfl rfl rfl (by decide +kernel) ⟨(Nat.le_of_ble_eq_true rfl), (Nat.le_of_ble_eq_true rfl)⟩) hK hE hW hA rfl hl.1 rfl (Nat.le_of_ble_eq_true rfl) dX5_handles_147 (Nat.zero_le _) (Nat.zero_le _) (fun r9 σ9 H locs hp_15 hW => ?_)
          obtain ⟨e91, e92⟩ := hp_15
          subst e91
          rw [e92] at hW
          clear e92
          refine nb_if_eq (tgt := 163) hx hb dX5_handles_150 (by decide) (fun c_16 => ?_) (fun c_16 => ?_)
          · skip
            refine lv_iload hx hb dX5_handles_163 (lv_at hl 1 rfl) ?_
            refine lv_iconst (v := nI 4294967295) hx hb dX5_handles_165 (by decide) ?_
            refine nv_icmp_eq (u := woS σ (σ 13 i) (σ 9 i)) (v := 4294967295) (tgt := 200) hx hb dX5_handles_166 (by decide) (by omega) (by omega) (fun c_17 => ?_) (fun c_17 => ?_)
            · skip
              refine lv_aload_n hx hb dX5_handles_200 rfl (lv_at hl 4 rfl) ?_
              refine rr_geta hx hb hts hinX5 hown hK hW 12 (by decide) rfl rfl (hts (.fieldLink RX5 40 "SeaPostModel" "stateOf" "[I") (by decide +kernel)) dX5_handles_201 ?_
              refine lv_iload_n hx hb dX5_handles_204 rfl (lv_at hl 5 rfl) ?_
              refine lv_iconst (v := nI 4) hx hb dX5_handles_205 (by decide) ?_
              refine rr_ast (j := i) (v := 4) hx hb hK hW 12 rfl rfl (show i < 40 by omega) dX5_handles_206 (fun H locs hW => ?_)
              obtain ⟨σ_18, eσ_18⟩ : ∃ z : Sg, z = st σ 12 i 4 := ⟨_, rfl⟩
              rw [← eσ_18] at hW
              exact rr_vret hx hb hr hlk (Nat.le_refl 0) (Nat.le_refl 0) hW (by subst eσ_18; rw [ha_5 (by first | assumption | omega) (by first | assumption | omega) (by first | (exact Or.inl (by omega)) | (exact Or.inr ⟨by assumption, by assumption⟩))]) dX5_handles_207
            · skip
              refine lv_aload_n hx hb dX5_handles_169 rfl (lv_at hl 4 rfl) ?_
              refine lv_iload hx hb dX5_handles_170 (lv_at hl 0 rfl) ?_
              refine lv_iload_n hx hb dX5_handles_172 rfl (lv_at hl 3 rfl) ?_
              refine rk_Vi (As := [.int (nI (21 * (σ 9 i) + (if woS σ (σ 13 i) (σ 9 i) = 4294967295 then 0 else woS σ (σ 13 i) (σ 9 i)))), .int (nI (σ 13 i))]) (nL := 6) ⟨hx, hb, hml, hown, hts⟩ (c5_meets l G ad σ (21 * (σ 9 i) + (if woS σ (σ 13 i) (σ 9 i) = 4294967295 then 0 else woS σ (σ 13 i) (σ 9 i))) (σ 13 i) (by omega) (by omega) (fun z _ => h3 z) (fun z _ => h45 z) hd (fun z => (h45 z).1) (fun z => (h45 z).2.1)) (cwV 2 hts gX5_handles_X5_meets rfl rfl rfl (by decide +kernel) ⟨(Nat.le_of_ble_eq_true rfl), (Nat.le_of_ble_eq_true rfl)⟩) hK hE hW hA rfl hl.1 rfl (Nat.le_of_ble_eq_true rfl) dX5_handles_173 (Nat.zero_le _) (Nat.zero_le _) (fun r9 σ9 H locs hp_19 hW => ?_)
              obtain ⟨e91, e92⟩ := hp_19
              subst e91
              rw [e92] at hW
              clear e92
              have hmb := mtF_b (σ := σ) (b := 6 * (21 * σ 9 i + (if woS σ (σ 13 i) (σ 9 i) = 4294967295 then 0 else woS σ (σ 13 i) (σ 9 i)))) (p := σ 13 i) (σ 3 (21 * σ 9 i + (if woS σ (σ 13 i) (σ 9 i) = 4294967295 then 0 else woS σ (σ 13 i) (σ 9 i))))
              have h3r := h3 (21 * σ 9 i + (if woS σ (σ 13 i) (σ 9 i) = 4294967295 then 0 else woS σ (σ 13 i) (σ 9 i)))
              refine lv_iconst (v := nI 4294967295) hx hb dX5_handles_176 (by decide) ?_
              refine nv_icmp_eq (u := (mtF σ (6 * (21 * (σ 9 i) + (if woS σ (σ 13 i) (σ 9 i) = 4294967295 then 0 else woS σ (σ 13 i) (σ 9 i)))) (σ 13 i) (σ 3 (21 * (σ 9 i) + (if woS σ (σ 13 i) (σ 9 i) = 4294967295 then 0 else woS σ (σ 13 i) (σ 9 i))))).1) (v := 4294967295) (tgt := 200) hx hb dX5_handles_177 (by decide) (by omega) (by omega) (fun c_20 => ?_) (fun c_20 => ?_)
              · skip
                refine lv_aload_n hx hb dX5_handles_200 rfl (lv_at hl 4 rfl) ?_
                refine rr_geta hx hb hts hinX5 hown hK hW 12 (by decide) rfl rfl (hts (.fieldLink RX5 40 "SeaPostModel" "stateOf" "[I") (by decide +kernel)) dX5_handles_201 ?_
                refine lv_iload_n hx hb dX5_handles_204 rfl (lv_at hl 5 rfl) ?_
                refine lv_iconst (v := nI 4) hx hb dX5_handles_205 (by decide) ?_
                refine rr_ast (j := i) (v := 4) hx hb hK hW 12 rfl rfl (show i < 40 by omega) dX5_handles_206 (fun H locs hW => ?_)
                obtain ⟨σ_21, eσ_21⟩ : ∃ z : Sg, z = st σ 12 i 4 := ⟨_, rfl⟩
                rw [← eσ_21] at hW
                exact rr_vret hx hb hr hlk (Nat.le_refl 0) (Nat.le_refl 0) hW (by subst eσ_21; rw [ha_5 (by first | assumption | omega) (by first | assumption | omega) (by first | (exact Or.inl (by omega)) | (exact Or.inr ⟨by assumption, by assumption⟩))]) dX5_handles_207
              · skip
                refine lv_aload_n hx hb dX5_handles_180 rfl (lv_at hl 4 rfl) ?_
                refine lv_iload_n hx hb dX5_handles_181 rfl (lv_at hl 5 rfl) ?_
                refine lv_aload_n hx hb dX5_handles_182 rfl (lv_at hl 4 rfl) ?_
                refine rr_geta hx hb hts hinX5 hown hK hW 4 (by decide) rfl rfl (hts (.fieldLink RX5 19 "SeaPostModel" "callPort" "[I") (by decide +kernel)) dX5_handles_183 ?_
                refine lv_aload_n hx hb dX5_handles_186 rfl (lv_at hl 4 rfl) ?_
                refine lv_iload hx hb dX5_handles_187 (lv_at hl 0 rfl) ?_
                refine lv_iload_n hx hb dX5_handles_189 rfl (lv_at hl 3 rfl) ?_
                refine rk_Vi (As := [.int (nI (21 * (σ 9 i) + (if woS σ (σ 13 i) (σ 9 i) = 4294967295 then 0 else woS σ (σ 13 i) (σ 9 i)))), .int (nI (σ 13 i))]) (nL := 6) ⟨hx, hb, hml, hown, hts⟩ (c5_meets l G ad σ (21 * (σ 9 i) + (if woS σ (σ 13 i) (σ 9 i) = 4294967295 then 0 else woS σ (σ 13 i) (σ 9 i))) (σ 13 i) (by omega) (by omega) (fun z _ => h3 z) (fun z _ => h45 z) hd (fun z => (h45 z).1) (fun z => (h45 z).2.1)) (cwV 2 hts gX5_handles_X5_meets rfl rfl rfl (by decide +kernel) ⟨(Nat.le_of_ble_eq_true rfl), (Nat.le_of_ble_eq_true rfl)⟩) hK hE hW hA rfl hl.1 rfl (Nat.le_of_ble_eq_true rfl) dX5_handles_190 (Nat.zero_le _) (Nat.zero_le _) (fun r9 σ9 H locs hp_22 hW => ?_)
                obtain ⟨e91, e92⟩ := hp_22
                subst e91
                rw [e92] at hW
                clear e92
                have hmb := mtF_b (σ := σ) (b := 6 * (21 * σ 9 i + (if woS σ (σ 13 i) (σ 9 i) = 4294967295 then 0 else woS σ (σ 13 i) (σ 9 i)))) (p := σ 13 i) (σ 3 (21 * σ 9 i + (if woS σ (σ 13 i) (σ 9 i) = 4294967295 then 0 else woS σ (σ 13 i) (σ 9 i))))
                refine rr_ald (j := (mtF σ (6 * (21 * (σ 9 i) + (if woS σ (σ 13 i) (σ 9 i) = 4294967295 then 0 else woS σ (σ 13 i) (σ 9 i)))) (σ 13 i) (σ 3 (21 * (σ 9 i) + (if woS σ (σ 13 i) (σ 9 i) = 4294967295 then 0 else woS σ (σ 13 i) (σ 9 i))))).1) hx hb hK hW 4 rfl rfl (show (mtF σ (6 * (21 * (σ 9 i) + (if woS σ (σ 13 i) (σ 9 i) = 4294967295 then 0 else woS σ (σ 13 i) (σ 9 i)))) (σ 13 i) (σ 3 (21 * (σ 9 i) + (if woS σ (σ 13 i) (σ 9 i) = 4294967295 then 0 else woS σ (σ 13 i) (σ 9 i))))).1 < 1008 by omega) dX5_handles_193 ?_
                refine rk_Vv (As := [.int (nI i), .int (nI (σ 4 ((mtF σ (6 * (21 * (σ 9 i) + (if woS σ (σ 13 i) (σ 9 i) = 4294967295 then 0 else woS σ (σ 13 i) (σ 9 i)))) (σ 13 i) (σ 3 (21 * (σ 9 i) + (if woS σ (σ 13 i) (σ 9 i) = 4294967295 then 0 else woS σ (σ 13 i) (σ 9 i))))).1)))]) (nL := 6) ⟨hx, hb, hml, hown, hts⟩ (c5_goesOn l G ad σ i (σ 4 ((mtF σ (6 * (21 * (σ 9 i) + (if woS σ (σ 13 i) (σ 9 i) = 4294967295 then 0 else woS σ (σ 13 i) (σ 9 i)))) (σ 13 i) (σ 3 (21 * (σ 9 i) + (if woS σ (σ 13 i) (σ 9 i) = 4294967295 then 0 else woS σ (σ 13 i) (σ 9 i))))).1)) hi (by have := (h45 (mtF σ (6 * (21 * σ 9 i + (if woS σ (σ 13 i) (σ 9 i) = 4294967295 then 0 else woS σ (σ 13 i) (σ 9 i)))) (σ 13 i) (σ 3 (21 * σ 9 i + (if woS σ (σ 13 i) (σ 9 i) = 4294967295 then 0 else woS σ (σ 13 i) (σ 9 i))))).1).1; omega) (by omega) hp (fun z _ => h17 z) h20 (by omega) (by omega) hd) (cwV 2 hts gX5_handles_X5_goesOn rfl rfl rfl (by decide +kernel) ⟨(Nat.le_of_ble_eq_true rfl), (Nat.le_of_ble_eq_true rfl)⟩) hK hE hW hA rfl hl.1 rfl (Nat.le_of_ble_eq_true rfl) dX5_handles_194 (Nat.zero_le _) (Nat.zero_le _) (fun σ9 H locs hp_23 hW => ?_)
                obtain ⟨σ_24, eσ_24⟩ : ∃ z : Sg, z = σ9 := ⟨_, rfl⟩
                rw [← eσ_24] at hW
                rw [hp_23] at eσ_24
                clear hp_23
                refine lv_goto (tgt := 207) hx hb dX5_handles_197 (by decide) ?_
                exact rr_vret hx hb hr hlk (Nat.le_refl 0) (Nat.le_refl 0) hW (by subst eσ_24; rw [ha_4 (by first | assumption | omega) (by first | assumption | omega) (by first | assumption | omega) (by first | assumption | omega) (by first | assumption | omega)]) dX5_handles_207
          · skip
            refine lv_aload_n hx hb dX5_handles_153 rfl (lv_at hl 4 rfl) ?_
            refine rr_geta hx hb hts hinX5 hown hK hW 12 (by decide) rfl rfl (hts (.fieldLink RX5 40 "SeaPostModel" "stateOf" "[I") (by decide +kernel)) dX5_handles_154 ?_
            refine lv_iload_n hx hb dX5_handles_157 rfl (lv_at hl 5 rfl) ?_
            refine lv_iconst (v := nI 2) hx hb dX5_handles_158 (by decide) ?_
            refine rr_ast (j := i) (v := 2) hx hb hK hW 12 rfl rfl (show i < 40 by omega) dX5_handles_159 (fun H locs hW => ?_)
            obtain ⟨σ_25, eσ_25⟩ : ∃ z : Sg, z = st σ 12 i 2 := ⟨_, rfl⟩
            rw [← eσ_25] at hW
            refine lv_goto (tgt := 207) hx hb dX5_handles_160 (by decide) ?_
            exact rr_vret hx hb hr hlk (Nat.le_refl 0) (Nat.le_refl 0) hW (by subst eσ_25; rw [ha_3 (by first | assumption | omega) (by first | assumption | omega) (by first | assumption | omega) (by first | assumption | omega)]) dX5_handles_207
      · skip
        refine lv_aload_n hx hb dX5_handles_90 rfl (lv_at hl 4 rfl) ?_
        refine rr_geta hx hb hts hinX5 hown hK hW 12 (by decide) rfl rfl (hts (.fieldLink RX5 40 "SeaPostModel" "stateOf" "[I") (by decide +kernel)) dX5_handles_91 ?_
        refine lv_iload_n hx hb dX5_handles_94 rfl (lv_at hl 5 rfl) ?_
        refine lv_iconst (v := nI 1) hx hb dX5_handles_95 (by decide) ?_
        refine rr_ast (j := i) (v := 1) hx hb hK hW 12 rfl rfl (show i < 40 by omega) dX5_handles_96 (fun H locs hW => ?_)
        obtain ⟨σ_26, eσ_26⟩ : ∃ z : Sg, z = st σ 12 i 1 := ⟨_, rfl⟩
        rw [← eσ_26] at hW
        refine lv_aload_n hx hb dX5_handles_97 rfl (lv_at hl 4 rfl) ?_
        refine lv_iload_n hx hb dX5_handles_98 rfl (lv_at hl 5 rfl) ?_
        refine lv_bipush (v := nI 33) hx hb dX5_handles_99 (by decide) ?_
        refine rk_Vv (As := [.int (nI i), .int (nI 33)]) (nL := 6) ⟨hx, hb, hml, hown, hts⟩ (c5_writes l G ad σ_26 i 33 (by omega) (by subst eσ_26; first | omega | (rw [st_f (by decide)]; omega) | (rw [wr_18, st_f (by decide)]; omega) | (rw [wr_18]; omega) | (rw [wr_18, wr_18]; omega))) (cwV 2 hts gX5_handles_X5_writes rfl rfl rfl (by decide +kernel) ⟨(Nat.le_of_ble_eq_true rfl), (Nat.le_of_ble_eq_true rfl)⟩) hK hE hW hA rfl hl.1 rfl (Nat.le_of_ble_eq_true rfl) dX5_handles_101 (Nat.zero_le _) (Nat.zero_le _) (fun σ9 H locs hp_27 hW => ?_)
        obtain ⟨σ_28, eσ_28⟩ : ∃ z : Sg, z = σ9 := ⟨_, rfl⟩
        rw [← eσ_28] at hW
        rw [hp_27] at eσ_28
        clear hp_27
        refine lv_aload_n hx hb dX5_handles_104 rfl (lv_at hl 4 rfl) ?_
        refine rr_geta hx hb hts hinX5 hown hK hW 16 (by decide) rfl rfl (hts (.fieldLink RX5 52 "SeaPostModel" "deliveredOn" "[I") (by decide +kernel)) dX5_handles_105 ?_
        refine lv_iload_n hx hb dX5_handles_108 rfl (lv_at hl 5 rfl) ?_
        refine lv_aload_n hx hb dX5_handles_109 rfl (lv_at hl 4 rfl) ?_
        refine rr_geti hx hb hts hinX5 hown hK hW 24 (by decide) rfl rfl (hts (.fieldLink RX5 92 "SeaPostModel" "today" "I") (by decide +kernel)) dX5_handles_110 ?_
        refine lv_tope (congrArg nI (show σ_28 24 0 = σ 24 0 by rw [eσ_28, wr_f (by decide), eσ_26, st_f (by decide)])) ?_
        refine rr_ast (j := i) (v := σ 24 0) hx hb hK hW 16 rfl rfl (show i < 40 by omega) dX5_handles_113 (fun H locs hW => ?_)
        obtain ⟨σ_29, eσ_29⟩ : ∃ z : Sg, z = st σ_28 16 i (σ 24 0) := ⟨_, rfl⟩
        rw [← eσ_29] at hW
        refine lv_aload_n hx hb dX5_handles_114 rfl (lv_at hl 4 rfl) ?_
        refine rr_geta hx hb hts hinX5 hown hK hW 21 (by decide) rfl rfl (hts (.fieldLink RX5 64 "SeaPostModel" "handed" "[I") (by decide +kernel)) dX5_handles_115 ?_
        refine lv_aload_n hx hb dX5_handles_118 rfl (lv_at hl 4 rfl) ?_
        refine rr_geti hx hb hts hinX5 hown hK hW 22 (by decide) rfl rfl (hts (.fieldLink RX5 127 "SeaPostModel" "handedMany" "I") (by decide +kernel)) dX5_handles_119 ?_
        refine lv_tope (congrArg nI (show σ_29 22 0 = σ 22 0 by rw [eσ_29, st_f (by decide), eσ_28, wr_f (by decide), eσ_26, st_f (by decide)])) ?_
        refine lv_iload_n hx hb dX5_handles_122 rfl (lv_at hl 5 rfl) ?_
        refine rr_ast (j := σ 22 0) (v := i) hx hb hK hW 21 rfl rfl (show σ 22 0 < 40 by omega) dX5_handles_123 (fun H locs hW => ?_)
        obtain ⟨σ_30, eσ_30⟩ : ∃ z : Sg, z = st σ_29 21 (σ 22 0) i := ⟨_, rfl⟩
        rw [← eσ_30] at hW
        refine lv_aload_n hx hb dX5_handles_124 rfl (lv_at hl 4 rfl) ?_
        refine lv_dup hx hb dX5_handles_125 rfl ?_
        refine rr_geti hx hb hts hinX5 hown hK hW 22 (by decide) rfl rfl (hts (.fieldLink RX5 127 "SeaPostModel" "handedMany" "I") (by decide +kernel)) dX5_handles_126 ?_
        refine lv_tope (congrArg nI (show σ_30 22 0 = σ 22 0 by rw [eσ_30, st_f (by decide), eσ_29, st_f (by decide), eσ_28, wr_f (by decide), eσ_26, st_f (by decide)])) ?_
        refine lv_iconst (v := nI 1) hx hb dX5_handles_129 (by decide) ?_
        refine lv_iadd hx hb dX5_handles_130 (lv_tope (nI_add (σ 22 0) 1) ?_)
        refine rr_puti (v := σ 22 0 + 1) hx hb hts hinX5 hown hK hW 22 (by decide) rfl rfl (hts (.fieldLink RX5 127 "SeaPostModel" "handedMany" "I") (by decide +kernel)) rfl (by decide +kernel) dX5_handles_131 (fun H locs hW => ?_)
        obtain ⟨σ_31, eσ_31⟩ : ∃ z : Sg, z = st σ_30 22 0 (σ 22 0 + 1) := ⟨_, rfl⟩
        rw [← eσ_31] at hW
        refine lv_goto (tgt := 207) hx hb dX5_handles_134 (by decide) ?_
        exact rr_vret hx hb hr hlk (Nat.le_refl 0) (Nat.le_refl 0) hW (by subst eσ_26; subst eσ_28; subst eσ_29; subst eσ_30; subst eσ_31; rw [ha_2 (by first | assumption | omega) (by first | assumption | omega)]; rfl) dX5_handles_207
    · skip
      refine lv_aload_n hx hb dX5_handles_48 rfl (lv_at hl 4 rfl) ?_
      refine rr_geta hx hb hts hinX5 hown hK hW 12 (by decide) rfl rfl (hts (.fieldLink RX5 40 "SeaPostModel" "stateOf" "[I") (by decide +kernel)) dX5_handles_49 ?_
      refine lv_iload_n hx hb dX5_handles_52 rfl (lv_at hl 5 rfl) ?_
      refine rr_ald (j := i) hx hb hK hW 12 rfl rfl (show i < 40 by omega) dX5_handles_53 ?_
      refine nv_if_eq (tgt := 71) hx hb dX5_handles_54 (by decide) (by omega) (fun c_32 => ?_) (fun c_32 => ?_)
      · skip
        refine lv_aload_n hx hb dX5_handles_71 rfl (lv_at hl 4 rfl) ?_
        refine rr_geta hx hb hts hinX5 hown hK hW 12 (by decide) rfl rfl (hts (.fieldLink RX5 40 "SeaPostModel" "stateOf" "[I") (by decide +kernel)) dX5_handles_72 ?_
        refine lv_iload_n hx hb dX5_handles_75 rfl (lv_at hl 5 rfl) ?_
        refine lv_iconst (v := nI 0) hx hb dX5_handles_76 (by decide) ?_
        refine rr_ast (j := i) (v := 0) hx hb hK hW 12 rfl rfl (show i < 40 by omega) dX5_handles_77 (fun H locs hW => ?_)
        obtain ⟨σ_33, eσ_33⟩ : ∃ z : Sg, z = st σ 12 i 0 := ⟨_, rfl⟩
        rw [← eσ_33] at hW
        refine lv_goto (tgt := 207) hx hb dX5_handles_78 (by decide) ?_
        exact rr_vret hx hb hr hlk (Nat.le_refl 0) (Nat.le_refl 0) hW (by subst eσ_33; rw [ha_1 (by first | assumption | omega)]; unfold hld; first | (rw [if_pos (by omega)]; done) | (rw [if_neg (by omega)]; done)) dX5_handles_207
      · skip
        refine lv_aload_n hx hb dX5_handles_57 rfl (lv_at hl 4 rfl) ?_
        refine lv_iload_n hx hb dX5_handles_58 rfl (lv_at hl 5 rfl) ?_
        refine lv_ldc (v := nI 55357) hx hb hown (hts (.constant RX5 125 (55357)) (by decide +kernel)) dX5_handles_59 ?_
        refine rk_Vv (As := [.int (nI i), .int (nI 55357)]) (nL := 6) ⟨hx, hb, hml, hown, hts⟩ (c5_writes l G ad σ i 55357 (by omega) (by first | omega | (rw [st_f (by decide)]; omega) | (rw [wr_18, st_f (by decide)]; omega) | (rw [wr_18]; omega) | (rw [wr_18, wr_18]; omega))) (cwV 2 hts gX5_handles_X5_writes rfl rfl rfl (by decide +kernel) ⟨(Nat.le_of_ble_eq_true rfl), (Nat.le_of_ble_eq_true rfl)⟩) hK hE hW hA rfl hl.1 rfl (Nat.le_of_ble_eq_true rfl) dX5_handles_61 (Nat.zero_le _) (Nat.zero_le _) (fun σ9 H locs hp_34 hW => ?_)
        obtain ⟨σ_35, eσ_35⟩ : ∃ z : Sg, z = σ9 := ⟨_, rfl⟩
        rw [← eσ_35] at hW
        rw [hp_34] at eσ_35
        clear hp_34
        refine lv_aload_n hx hb dX5_handles_64 rfl (lv_at hl 4 rfl) ?_
        refine lv_iload_n hx hb dX5_handles_65 rfl (lv_at hl 5 rfl) ?_
        refine lv_ldc (v := nI 57003) hx hb hown (hts (.constant RX5 126 (57003)) (by decide +kernel)) dX5_handles_66 ?_
        refine rk_Vv (As := [.int (nI i), .int (nI 57003)]) (nL := 6) ⟨hx, hb, hml, hown, hts⟩ (c5_writes l G ad σ_35 i 57003 (by omega) (by subst eσ_35; first | omega | (rw [st_f (by decide)]; omega) | (rw [wr_18, st_f (by decide)]; omega) | (rw [wr_18]; omega) | (rw [wr_18, wr_18]; omega))) (cwV 2 hts gX5_handles_X5_writes rfl rfl rfl (by decide +kernel) ⟨(Nat.le_of_ble_eq_true rfl), (Nat.le_of_ble_eq_true rfl)⟩) hK hE hW hA rfl hl.1 rfl (Nat.le_of_ble_eq_true rfl) dX5_handles_68 (Nat.zero_le _) (Nat.zero_le _) (fun σ9 H locs hp_36 hW => ?_)
        obtain ⟨σ_37, eσ_37⟩ : ∃ z : Sg, z = σ9 := ⟨_, rfl⟩
        rw [← eσ_37] at hW
        rw [hp_36] at eσ_37
        clear hp_36
        refine lv_aload_n hx hb dX5_handles_71 rfl (lv_at hl 4 rfl) ?_
        refine rr_geta hx hb hts hinX5 hown hK hW 12 (by decide) rfl rfl (hts (.fieldLink RX5 40 "SeaPostModel" "stateOf" "[I") (by decide +kernel)) dX5_handles_72 ?_
        refine lv_iload_n hx hb dX5_handles_75 rfl (lv_at hl 5 rfl) ?_
        refine lv_iconst (v := nI 0) hx hb dX5_handles_76 (by decide) ?_
        refine rr_ast (j := i) (v := 0) hx hb hK hW 12 rfl rfl (show i < 40 by omega) dX5_handles_77 (fun H locs hW => ?_)
        obtain ⟨σ_38, eσ_38⟩ : ∃ z : Sg, z = st σ_37 12 i 0 := ⟨_, rfl⟩
        rw [← eσ_38] at hW
        refine lv_goto (tgt := 207) hx hb dX5_handles_78 (by decide) ?_
        exact rr_vret hx hb hr hlk (Nat.le_refl 0) (Nat.le_refl 0) hW (by subst eσ_35; subst eσ_37; subst eσ_38; rw [ha_1 (by first | assumption | omega)]; unfold hld; first | (rw [if_pos (by omega)]; done) | (rw [if_neg (by omega)]; done)) dX5_handles_207
  · skip
    refine nv_icmp_ne (u := woS σ (σ 13 i) (σ 9 i)) (v := 4294967295) (tgt := 33) hx hb dX5_handles_26 (by decide) (by omega) (by omega) (fun c_39 => ?_) (fun c_39 => ?_)
    · skip
      refine lv_iload hx hb dX5_handles_33 (lv_at hl 0 rfl) ?_
      exact lv_tope (congrArg nI (show woS σ (σ 13 i) (σ 9 i) = (if woS σ (σ 13 i) (σ 9 i) = 4294967295 then 0 else woS σ (σ 13 i) (σ 9 i)) by first | (rw [if_pos (by omega)]) | (rw [if_neg (by omega)]) | rfl)) (J _ _ hW)
    · skip
      refine lv_iconst (v := nI 0) hx hb dX5_handles_29 (by decide) ?_
      refine lv_goto (tgt := 35) hx hb dX5_handles_30 (by decide) ?_
      exact lv_tope (congrArg nI (show 0 = (if woS σ (σ 13 i) (σ 9 i) = 4294967295 then 0 else woS σ (σ 13 i) (σ 9 i)) by first | (rw [if_pos (by omega)]) | (rw [if_neg (by omega)]) | rfl)) (J _ _ hW)

set_option maxHeartbeats 4000000 in
set_option maxRecDepth 100000 in
theorem c5_call (l : Launch) (G : mG) (ad : Nat → Nat) (σ : Sg) (u : Nat) (q : Nat) (a9 : Nat) (d9 : Nat) (hu : u < 4294967296) (hq : q < 4294967296) (ha : a9 < 4294967296) (hd9 : d9 < 4294967296) (hB : RB σ) : cRi l yX5_call wsX5_call 2 G ad σ [.int (nI u), .int (nI q), .int (nI a9), .int (nI d9)] (rPost (thC σ u q a9 d9) (σ 3 (21 * u + 20) + 1) (nxC (st σ 25 0 0) u q a9 d9) σ) := by
  intro M sz hR
  refine m_start cX5_call 8 (some .int) (by decide) rfl (Nat.le_of_ble_eq_true rfl) ?_
  intro p e s m below meth c ls hx hb hr hml hown hlk hnm hts hK hsz hE hW hl
  have hA := mA_A (M := M) hsz
  have hl : lv_has ls 8 [(0, .ref (ad 0)), (1, .int (nI u)), (2, .int (nI q)), (3, .int (nI a9)), (4, .int (nI d9))] := hl
  have hW := rW_start hR hW
  have hinX5 : ∀ w ∈ u_ws RX5 TX5 26, w ∈ wsX5_call := (fun _ h => List.mem_cons_of_mem _ (List.mem_append_right _ h))
  obtain ⟨⟨h0, h8, hd⟩, h7, h3, h12, h45, h17, hl9, h23, h1921⟩ := id hB
  refine lv_aload_n hx hb dX5_call_0 rfl (lv_at hl 0 rfl) ?_
  refine lv_aload_n hx hb dX5_call_1 rfl (lv_at hl 0 rfl) ?_
  refine lv_iload_n hx hb dX5_call_2 rfl (lv_at hl 1 rfl) ?_
  refine rk_Vi (As := [.int (nI u)]) (nL := 8) ⟨hx, hb, hml, hown, hts⟩ (c5_isShip l G ad σ u hu h0) (cwV 1 hts gX5_call_X5_isShip rfl rfl rfl (by decide +kernel) ⟨(Nat.le_of_ble_eq_true rfl), (Nat.le_of_ble_eq_true rfl)⟩) hK hE hW hA rfl hl.1 rfl (Nat.le_of_ble_eq_true rfl) dX5_call_3 (Nat.zero_le _) (Nat.zero_le _) (fun r9 σ9 H locs hp_1 hW => ?_)
  obtain ⟨e91, e92⟩ := hp_1
  subst e91
  rw [e92] at hW
  clear e92
  refine nb_if_eq (tgt := 16) hx hb dX5_call_6 (by decide) (fun c_2 => ?_) (fun c_2 => ?_)
  · skip
    refine lv_iconst (v := nI 1) hx hb dX5_call_16 (by decide) ?_
    refine lv_goto (tgt := 47) hx hb dX5_call_17 (by decide) ?_
    refine rr_puti (v := 1) hx hb hts hinX5 hown hK hW 25 (by decide) rfl rfl (hts (.fieldLink RX5 70 "SeaPostModel" "thrown" "I") (by decide +kernel)) rfl (by decide +kernel) dX5_call_47 (fun H locs hW => ?_)
    obtain ⟨σ_3, eσ_3⟩ : ∃ z : Sg, z = st σ 25 0 1 := ⟨_, rfl⟩
    rw [← eσ_3] at hW
    refine lv_aload_n hx hb dX5_call_50 rfl (lv_at hl 0 rfl) ?_
    refine rr_geti hx hb hts hinX5 hown hK hW 25 (by decide) rfl rfl (hts (.fieldLink RX5 70 "SeaPostModel" "thrown" "I") (by decide +kernel)) dX5_call_51 ?_
    refine lv_tope (congrArg nI (show σ_3 25 0 = 1 by rw [eσ_3, st_s])) ?_
    refine lv_if_eq (tgt := 59) hx hb dX5_call_54 (by decide) (fun z => absurd z (by decide)) (fun _ => ?_)
    refine lv_iconst (v := nI 0) hx hb dX5_call_57 (by decide) ?_
    exact rr_iret hx hb hr hlk (Nat.le_refl 0) (Nat.le_refl 0) hW (rP_x (show thC σ u q a9 d9 = 1 from by unfold thC; (repeat' split) <;> first | rfl | omega) (by decide) (by subst eσ_3; first | rfl | (rw [st_st]; done))) dX5_call_58
  · skip
    refine lv_iload_n hx hb dX5_call_9 rfl (lv_at hl 2 rfl) ?_
    refine rk_S (As := [.int (nI q)]) (nL := 8) ⟨hx, hb, hml, hown, hts⟩ (c5_isPort l q hq) (va_cwS 1 hts gX5_call_X5_isPort rfl rfl rfl (by decide +kernel) ⟨(Nat.le_of_ble_eq_true rfl), (Nat.le_of_ble_eq_true rfl)⟩) hK hE hW hA rfl hl.1 rfl (Nat.le_of_ble_eq_true rfl) dX5_call_10 (Nat.zero_le _) (Nat.zero_le _) (fun H locs hW => ?_)
    refine nb_if_ne (tgt := 20) hx hb dX5_call_13 (by decide) (fun c_4 => ?_) (fun c_4 => ?_)
    · skip
      refine lv_iload_n hx hb dX5_call_20 rfl (lv_at hl 3 rfl) ?_
      refine lv_iconst (v := nI 0) hx hb dX5_call_21 (by decide) ?_
      refine lv_sipush (v := nI 1000) hx hb dX5_call_22 (by decide) ?_
      refine lv_tope (show nI 1000 = nI 1001 - nI 1 by decide) ?_
      refine rk_S (As := [.int (nI a9), .int (nI 0), .int (nI 1001 - nI 1)]) (nL := 8) ⟨hx, hb, hml, hown, hts⟩ (c5_in l a9 0 1001 (by omega) (by omega) (by omega)) (va_cwS 3 hts gX5_call_X5_in rfl rfl rfl (by decide +kernel) ⟨(Nat.le_of_ble_eq_true rfl), (Nat.le_of_ble_eq_true rfl)⟩) hK hE hW hA rfl hl.1 rfl (Nat.le_of_ble_eq_true rfl) dX5_call_25 (Nat.zero_le _) (Nat.zero_le _) (fun H locs hW => ?_)
      refine nb_if_eq (tgt := 42) hx hb dX5_call_28 (by decide) (fun c_5 => ?_) (fun c_5 => ?_)
      · skip
        refine lv_iconst (v := nI 2) hx hb dX5_call_42 (by decide) ?_
        refine lv_goto (tgt := 47) hx hb dX5_call_43 (by decide) ?_
        refine rr_puti (v := 2) hx hb hts hinX5 hown hK hW 25 (by decide) rfl rfl (hts (.fieldLink RX5 70 "SeaPostModel" "thrown" "I") (by decide +kernel)) rfl (by decide +kernel) dX5_call_47 (fun H locs hW => ?_)
        obtain ⟨σ_6, eσ_6⟩ : ∃ z : Sg, z = st σ 25 0 2 := ⟨_, rfl⟩
        rw [← eσ_6] at hW
        refine lv_aload_n hx hb dX5_call_50 rfl (lv_at hl 0 rfl) ?_
        refine rr_geti hx hb hts hinX5 hown hK hW 25 (by decide) rfl rfl (hts (.fieldLink RX5 70 "SeaPostModel" "thrown" "I") (by decide +kernel)) dX5_call_51 ?_
        refine lv_tope (congrArg nI (show σ_6 25 0 = 2 by rw [eσ_6, st_s])) ?_
        refine lv_if_eq (tgt := 59) hx hb dX5_call_54 (by decide) (fun z => absurd z (by decide)) (fun _ => ?_)
        refine lv_iconst (v := nI 0) hx hb dX5_call_57 (by decide) ?_
        exact rr_iret hx hb hr hlk (Nat.le_refl 0) (Nat.le_refl 0) hW (rP_x (show thC σ u q a9 d9 = 2 from by unfold thC; (repeat' split) <;> first | rfl | omega) (by decide) (by subst eσ_6; first | rfl | (rw [st_st]; done))) dX5_call_58
      · skip
        refine lv_iload hx hb dX5_call_31 (lv_at hl 4 rfl) ?_
        refine lv_iconst (v := nI 0) hx hb dX5_call_33 (by decide) ?_
        refine lv_bipush (v := nI 30) hx hb dX5_call_34 (by decide) ?_
        refine lv_tope (show nI 30 = nI 31 - nI 1 by decide) ?_
        refine rk_S (As := [.int (nI d9), .int (nI 0), .int (nI 31 - nI 1)]) (nL := 8) ⟨hx, hb, hml, hown, hts⟩ (c5_in l d9 0 31 (by omega) (by omega) (by omega)) (va_cwS 3 hts gX5_call_X5_in rfl rfl rfl (by decide +kernel) ⟨(Nat.le_of_ble_eq_true rfl), (Nat.le_of_ble_eq_true rfl)⟩) hK hE hW hA rfl hl.1 rfl (Nat.le_of_ble_eq_true rfl) dX5_call_36 (Nat.zero_le _) (Nat.zero_le _) (fun H locs hW => ?_)
        refine nb_if_ne (tgt := 46) hx hb dX5_call_39 (by decide) (fun c_7 => ?_) (fun c_7 => ?_)
        · skip
          refine lv_iconst (v := nI 0) hx hb dX5_call_46 (by decide) ?_
          refine rr_puti (v := 0) hx hb hts hinX5 hown hK hW 25 (by decide) rfl rfl (hts (.fieldLink RX5 70 "SeaPostModel" "thrown" "I") (by decide +kernel)) rfl (by decide +kernel) dX5_call_47 (fun H locs hW => ?_)
          obtain ⟨σ_8, eσ_8⟩ : ∃ z : Sg, z = st σ 25 0 0 := ⟨_, rfl⟩
          rw [← eσ_8] at hW
          refine lv_aload_n hx hb dX5_call_50 rfl (lv_at hl 0 rfl) ?_
          refine rr_geti hx hb hts hinX5 hown hK hW 25 (by decide) rfl rfl (hts (.fieldLink RX5 70 "SeaPostModel" "thrown" "I") (by decide +kernel)) dX5_call_51 ?_
          refine lv_tope (congrArg nI (show σ_8 25 0 = 0 by rw [eσ_8, st_s])) ?_
          refine lv_if_eq (tgt := 59) hx hb dX5_call_54 (by decide) (fun _ => ?_) (fun z => absurd (by decide) z)
          refine lv_iload_n hx hb dX5_call_59 rfl (lv_at hl 1 rfl) ?_
          refine lv_bipush (v := nI 20) hx hb dX5_call_60 (by decide) ?_
          refine rk_S (As := [.int (nI u), .int (nI 20)]) (nL := 8) ⟨hx, hb, hml, hown, hts⟩ (c5_rowOf l u 20) (va_cwS 2 hts gX5_call_X5_rowOf rfl rfl rfl (by decide +kernel) ⟨(Nat.le_of_ble_eq_true rfl), (Nat.le_of_ble_eq_true rfl)⟩) hK hE hW hA rfl hl.1 rfl (Nat.le_of_ble_eq_true rfl) dX5_call_62 (Nat.zero_le _) (Nat.zero_le _) (fun H locs hW => ?_)
          refine lv_istore (lv' := [(5, .int (nI (21 * u + 20))), (0, .ref (ad 0)), (1, .int (nI u)), (2, .int (nI q)), (3, .int (nI a9)), (4, .int (nI d9))]) hx hb dX5_call_65 hl (by decide) rfl (fun ls hl => ?_)
          refine lv_aload_n hx hb dX5_call_67 rfl (lv_at hl 1 rfl) ?_
          refine rr_geta hx hb hts hinX5 hown hK hW 3 (by decide) rfl rfl (hts (.fieldLink RX5 16 "SeaPostModel" "callMany" "[I") (by decide +kernel)) dX5_call_68 ?_
          refine lv_iload hx hb dX5_call_71 (lv_at hl 0 rfl) ?_
          refine rr_ald (j := 21 * u + 20) hx hb hK hW 3 rfl rfl (show 21 * u + 20 < 168 by omega) dX5_call_73 ?_
          refine lv_tope (congrArg nI (show σ_8 3 (21 * u + 20) = σ 3 (21 * u + 20) by rw [eσ_8, st_f (by decide)])) ?_
          refine lv_istore (lv' := [(6, .int (nI (σ 3 (21 * u + 20)))), (5, .int (nI (21 * u + 20))), (0, .ref (ad 0)), (1, .int (nI u)), (2, .int (nI q)), (3, .int (nI a9)), (4, .int (nI d9))]) hx hb dX5_call_74 hl (by decide) rfl (fun ls hl => ?_)
          refine lv_iload hx hb dX5_call_76 (lv_at hl 0 rfl) ?_
          refine lv_bipush (v := nI 6) hx hb dX5_call_78 (by decide) ?_
          have h3k := h3 (21 * u + 20)
          have h6k := (h45 (6 * (21 * u + 20) + σ 3 (21 * u + 20) - 1)).2.2
          refine m_joinI (g' := F0 m 112 ls [.int (nI (if σ 3 (21 * u + 20) < 6 ∧ (σ 3 (21 * u + 20) = 0 ∨ σ 6 (6 * (21 * u + 20) + σ 3 (21 * u + 20) - 1) < a9) then 1 else 0))]) (fun H locs => rW G ad (mA M sz) s.heap M σ_8 H locs) (fun H locs hW => ?_) (fun J => ?_)
          · skip
            refine lv_istore (lv' := [(7, .int (nI (if σ 3 (21 * u + 20) < 6 ∧ (σ 3 (21 * u + 20) = 0 ∨ σ 6 (6 * (21 * u + 20) + σ 3 (21 * u + 20) - 1) < a9) then 1 else 0))), (6, .int (nI (σ 3 (21 * u + 20)))), (5, .int (nI (21 * u + 20))), (0, .ref (ad 0)), (1, .int (nI u)), (2, .int (nI q)), (3, .int (nI a9)), (4, .int (nI d9))]) hx hb dX5_call_112 hl (by decide) rfl (fun ls hl => ?_)
            refine lv_aload_n hx hb dX5_call_114 rfl (lv_at hl 3 rfl) ?_
            refine lv_iload hx hb dX5_call_115 (lv_at hl 0 rfl) ?_
            refine nb_if_eq (tgt := 124) hx hb dX5_call_117 (by decide) (fun c_9 => ?_) (fun c_9 => ?_)
            · skip
              refine lv_iconst (v := nI 3) hx hb dX5_call_124 (by decide) ?_
              refine rr_puti (v := 3) hx hb hts hinX5 hown hK hW 25 (by decide) rfl rfl (hts (.fieldLink RX5 70 "SeaPostModel" "thrown" "I") (by decide +kernel)) rfl (by decide +kernel) dX5_call_125 (fun H locs hW => ?_)
              obtain ⟨σ_10, eσ_10⟩ : ∃ z : Sg, z = st σ_8 25 0 3 := ⟨_, rfl⟩
              rw [← eσ_10] at hW
              refine lv_aload_n hx hb dX5_call_128 rfl (lv_at hl 3 rfl) ?_
              refine rr_geti hx hb hts hinX5 hown hK hW 25 (by decide) rfl rfl (hts (.fieldLink RX5 70 "SeaPostModel" "thrown" "I") (by decide +kernel)) dX5_call_129 ?_
              refine lv_tope (congrArg nI (show σ_10 25 0 = 3 by rw [eσ_10, st_s])) ?_
              refine lv_if_eq (tgt := 137) hx hb dX5_call_132 (by decide) (fun z => absurd z (by decide)) (fun _ => ?_)
              refine lv_iconst (v := nI 0) hx hb dX5_call_135 (by decide) ?_
              exact rr_iret hx hb hr hlk (Nat.le_refl 0) (Nat.le_refl 0) hW (rP_x (show thC σ u q a9 d9 = 3 from by unfold thC; (repeat' split) <;> first | rfl | omega) (by decide) (by subst eσ_8; subst eσ_10; first | rfl | (rw [st_st]; done))) dX5_call_136
            · skip
              refine lv_iconst (v := nI 0) hx hb dX5_call_120 (by decide) ?_
              refine lv_goto (tgt := 125) hx hb dX5_call_121 (by decide) ?_
              refine rr_puti (v := 0) hx hb hts hinX5 hown hK hW 25 (by decide) rfl rfl (hts (.fieldLink RX5 70 "SeaPostModel" "thrown" "I") (by decide +kernel)) rfl (by decide +kernel) dX5_call_125 (fun H locs hW => ?_)
              obtain ⟨σ_11, eσ_11⟩ : ∃ z : Sg, z = st σ_8 25 0 0 := ⟨_, rfl⟩
              rw [← eσ_11] at hW
              refine lv_aload_n hx hb dX5_call_128 rfl (lv_at hl 3 rfl) ?_
              refine rr_geti hx hb hts hinX5 hown hK hW 25 (by decide) rfl rfl (hts (.fieldLink RX5 70 "SeaPostModel" "thrown" "I") (by decide +kernel)) dX5_call_129 ?_
              refine lv_tope (congrArg nI (show σ_11 25 0 = 0 by rw [eσ_11, st_s])) ?_
              refine lv_if_eq (tgt := 137) hx hb dX5_call_132 (by decide) (fun _ => ?_) (fun z => absurd (by decide) z)
              have hlt : 6 * (21 * u + 20) + σ 3 (21 * u + 20) < 1008 := by omega
              refine lv_aload_n hx hb dX5_call_137 rfl (lv_at hl 3 rfl) ?_
              refine rr_geta hx hb hts hinX5 hown hK hW 4 (by decide) rfl rfl (hts (.fieldLink RX5 19 "SeaPostModel" "callPort" "[I") (by decide +kernel)) dX5_call_138 ?_
              refine lv_bipush (v := nI 6) hx hb dX5_call_141 (by decide) ?_
              refine lv_iload hx hb dX5_call_143 (lv_at hl 2 rfl) ?_
              refine lv_imul hx hb dX5_call_145 (lv_tope (pk_mul 6 (21 * u + 20)) ?_)
              refine lv_iload hx hb dX5_call_146 (lv_at hl 1 rfl) ?_
              refine lv_iadd hx hb dX5_call_148 (lv_tope (nI_add (6 * (21 * u + 20)) (σ 3 (21 * u + 20))) ?_)
              refine lv_iload_n hx hb dX5_call_149 rfl (lv_at hl 5 rfl) ?_
              refine rr_ast (j := 6 * (21 * u + 20) + (σ 3 (21 * u + 20))) (v := q) hx hb hK hW 4 rfl rfl (show 6 * (21 * u + 20) + (σ 3 (21 * u + 20)) < 1008 by omega) dX5_call_150 (fun H locs hW => ?_)
              obtain ⟨σ_12, eσ_12⟩ : ∃ z : Sg, z = st σ_11 4 (6 * (21 * u + 20) + (σ 3 (21 * u + 20))) q := ⟨_, rfl⟩
              rw [← eσ_12] at hW
              refine lv_aload_n hx hb dX5_call_151 rfl (lv_at hl 3 rfl) ?_
              refine rr_geta hx hb hts hinX5 hown hK hW 5 (by decide) rfl rfl (hts (.fieldLink RX5 22 "SeaPostModel" "arrival" "[I") (by decide +kernel)) dX5_call_152 ?_
              refine lv_bipush (v := nI 6) hx hb dX5_call_155 (by decide) ?_
              refine lv_iload hx hb dX5_call_157 (lv_at hl 2 rfl) ?_
              refine lv_imul hx hb dX5_call_159 (lv_tope (pk_mul 6 (21 * u + 20)) ?_)
              refine lv_iload hx hb dX5_call_160 (lv_at hl 1 rfl) ?_
              refine lv_iadd hx hb dX5_call_162 (lv_tope (nI_add (6 * (21 * u + 20)) (σ 3 (21 * u + 20))) ?_)
              refine lv_iload_n hx hb dX5_call_163 rfl (lv_at hl 6 rfl) ?_
              refine rr_ast (j := 6 * (21 * u + 20) + (σ 3 (21 * u + 20))) (v := a9) hx hb hK hW 5 rfl rfl (show 6 * (21 * u + 20) + (σ 3 (21 * u + 20)) < 1008 by omega) dX5_call_164 (fun H locs hW => ?_)
              obtain ⟨σ_13, eσ_13⟩ : ∃ z : Sg, z = st σ_12 5 (6 * (21 * u + 20) + (σ 3 (21 * u + 20))) a9 := ⟨_, rfl⟩
              rw [← eσ_13] at hW
              refine lv_aload_n hx hb dX5_call_165 rfl (lv_at hl 3 rfl) ?_
              refine rr_geta hx hb hts hinX5 hown hK hW 6 (by decide) rfl rfl (hts (.fieldLink RX5 25 "SeaPostModel" "leaving" "[I") (by decide +kernel)) dX5_call_166 ?_
              refine lv_bipush (v := nI 6) hx hb dX5_call_169 (by decide) ?_
              refine lv_iload hx hb dX5_call_171 (lv_at hl 2 rfl) ?_
              refine lv_imul hx hb dX5_call_173 (lv_tope (pk_mul 6 (21 * u + 20)) ?_)
              refine lv_iload hx hb dX5_call_174 (lv_at hl 1 rfl) ?_
              refine lv_iadd hx hb dX5_call_176 (lv_tope (nI_add (6 * (21 * u + 20)) (σ 3 (21 * u + 20))) ?_)
              refine lv_iload_n hx hb dX5_call_177 rfl (lv_at hl 6 rfl) ?_
              refine lv_iload hx hb dX5_call_178 (lv_at hl 7 rfl) ?_
              refine lv_iadd hx hb dX5_call_180 (lv_tope (nI_add a9 d9) ?_)
              refine rr_ast (j := 6 * (21 * u + 20) + (σ 3 (21 * u + 20))) (v := a9 + d9) hx hb hK hW 6 rfl rfl (show 6 * (21 * u + 20) + (σ 3 (21 * u + 20)) < 1008 by omega) dX5_call_181 (fun H locs hW => ?_)
              obtain ⟨σ_14, eσ_14⟩ : ∃ z : Sg, z = st σ_13 6 (6 * (21 * u + 20) + (σ 3 (21 * u + 20))) (a9 + d9) := ⟨_, rfl⟩
              rw [← eσ_14] at hW
              refine lv_aload_n hx hb dX5_call_182 rfl (lv_at hl 3 rfl) ?_
              refine rr_geta hx hb hts hinX5 hown hK hW 3 (by decide) rfl rfl (hts (.fieldLink RX5 16 "SeaPostModel" "callMany" "[I") (by decide +kernel)) dX5_call_183 ?_
              refine lv_iload hx hb dX5_call_186 (lv_at hl 2 rfl) ?_
              refine lv_dup2_11 hx hb dX5_call_188 rfl rfl ?_
              refine rr_ald (j := 21 * u + 20) hx hb hK hW 3 rfl rfl (show 21 * u + 20 < 168 by omega) dX5_call_189 ?_
              refine lv_tope (congrArg nI (show σ_14 3 (21 * u + 20) = σ 3 (21 * u + 20) by rw [eσ_14, st_f (by decide), eσ_13, st_f (by decide), eσ_12, st_f (by decide), eσ_11, st_f (by decide), eσ_8, st_f (by decide)])) ?_
              refine lv_iconst (v := nI 1) hx hb dX5_call_190 (by decide) ?_
              refine lv_iadd hx hb dX5_call_191 (lv_tope (nI_add (σ 3 (21 * u + 20)) 1) ?_)
              refine rr_ast (j := 21 * u + 20) (v := σ 3 (21 * u + 20) + 1) hx hb hK hW 3 rfl rfl (show 21 * u + 20 < 168 by omega) dX5_call_192 (fun H locs hW => ?_)
              obtain ⟨σ_15, eσ_15⟩ : ∃ z : Sg, z = st σ_14 3 (21 * u + 20) (σ 3 (21 * u + 20) + 1) := ⟨_, rfl⟩
              rw [← eσ_15] at hW
              refine lv_aload_n hx hb dX5_call_193 rfl (lv_at hl 3 rfl) ?_
              refine rr_geta hx hb hts hinX5 hown hK hW 3 (by decide) rfl rfl (hts (.fieldLink RX5 16 "SeaPostModel" "callMany" "[I") (by decide +kernel)) dX5_call_194 ?_
              refine lv_iload hx hb dX5_call_197 (lv_at hl 2 rfl) ?_
              refine rr_ald (j := 21 * u + 20) hx hb hK hW 3 rfl rfl (show 21 * u + 20 < 168 by omega) dX5_call_199 ?_
              refine lv_tope (congrArg nI (show σ_15 3 (21 * u + 20) = σ 3 (21 * u + 20) + 1 by rw [eσ_15, st_s])) ?_
              exact rr_iret hx hb hr hlk (Nat.le_refl 0) (Nat.le_refl 0) hW (rP_0 (show thC σ u q a9 d9 = 0 from by unfold thC; (repeat' split) <;> first | rfl | omega) (rfl) (by subst eσ_8; subst eσ_11; subst eσ_12; subst eσ_13; subst eσ_14; subst eσ_15; first | rfl | (rw [st_st]; rfl))) dX5_call_200
          · skip
            refine nv_icmp_ge (u := σ 3 (21 * u + 20)) (v := 6) (tgt := 111) hx hb dX5_call_80 (by decide) (by omega) (by omega) (fun c_16 => ?_) (fun c_16 => ?_)
            · skip
              refine lv_iconst (v := nI 0) hx hb dX5_call_111 (by decide) ?_
              exact lv_tope (congrArg nI (show 0 = (if σ 3 (21 * u + 20) < 6 ∧ (σ 3 (21 * u + 20) = 0 ∨ σ 6 (6 * (21 * u + 20) + σ 3 (21 * u + 20) - 1) < a9) then 1 else 0) by first | (rw [if_pos ⟨by omega, by omega⟩]) | (rw [if_neg (by omega)]))) (J _ _ hW)
            · skip
              refine lv_iload hx hb dX5_call_83 (lv_at hl 0 rfl) ?_
              refine nv_if_eq (tgt := 107) hx hb dX5_call_85 (by decide) (by omega) (fun c_17 => ?_) (fun c_17 => ?_)
              · skip
                refine lv_iconst (v := nI 1) hx hb dX5_call_107 (by decide) ?_
                refine lv_goto (tgt := 112) hx hb dX5_call_108 (by decide) ?_
                exact lv_tope (congrArg nI (show 1 = (if σ 3 (21 * u + 20) < 6 ∧ (σ 3 (21 * u + 20) = 0 ∨ σ 6 (6 * (21 * u + 20) + σ 3 (21 * u + 20) - 1) < a9) then 1 else 0) by first | (rw [if_pos ⟨by omega, by omega⟩]) | (rw [if_neg (by omega)]))) (J _ _ hW)
              · skip
                refine lv_iload_n hx hb dX5_call_88 rfl (lv_at hl 5 rfl) ?_
                refine lv_aload_n hx hb dX5_call_89 rfl (lv_at hl 2 rfl) ?_
                refine rr_geta hx hb hts hinX5 hown hK hW 6 (by decide) rfl rfl (hts (.fieldLink RX5 25 "SeaPostModel" "leaving" "[I") (by decide +kernel)) dX5_call_90 ?_
                refine lv_bipush (v := nI 6) hx hb dX5_call_93 (by decide) ?_
                refine lv_iload hx hb dX5_call_95 (lv_at hl 1 rfl) ?_
                refine lv_imul hx hb dX5_call_97 (lv_tope (pk_mul 6 (21 * u + 20)) ?_)
                refine lv_iload hx hb dX5_call_98 (lv_at hl 0 rfl) ?_
                refine lv_iadd hx hb dX5_call_100 (lv_tope (nI_add (6 * (21 * u + 20)) (σ 3 (21 * u + 20))) ?_)
                refine lv_iconst (v := nI 1) hx hb dX5_call_101 (by decide) ?_
                refine lv_isub hx hb dX5_call_102 (lv_tope (pk_sub (a := 6 * (21 * u + 20) + (σ 3 (21 * u + 20))) (b := 1) (by omega)) ?_)
                refine rr_ald (j := 6 * (21 * u + 20) + (σ 3 (21 * u + 20)) - 1) hx hb hK hW 6 rfl rfl (show 6 * (21 * u + 20) + (σ 3 (21 * u + 20)) - 1 < 1008 by omega) dX5_call_103 ?_
                refine lv_tope (congrArg nI (show σ_8 6 (6 * (21 * u + 20) + (σ 3 (21 * u + 20)) - 1) = σ 6 (6 * (21 * u + 20) + (σ 3 (21 * u + 20)) - 1) by rw [eσ_8, st_f (by decide)])) ?_
                refine nv_icmp_le (u := a9) (v := σ 6 (6 * (21 * u + 20) + (σ 3 (21 * u + 20)) - 1)) (tgt := 111) hx hb dX5_call_104 (by decide) (by omega) (by omega) (fun c_18 => ?_) (fun c_18 => ?_)
                · skip
                  refine lv_iconst (v := nI 0) hx hb dX5_call_111 (by decide) ?_
                  exact lv_tope (congrArg nI (show 0 = (if σ 3 (21 * u + 20) < 6 ∧ (σ 3 (21 * u + 20) = 0 ∨ σ 6 (6 * (21 * u + 20) + σ 3 (21 * u + 20) - 1) < a9) then 1 else 0) by first | (rw [if_pos ⟨by omega, by omega⟩]) | (rw [if_neg (by omega)]))) (J _ _ hW)
                · skip
                  refine lv_iconst (v := nI 1) hx hb dX5_call_107 (by decide) ?_
                  refine lv_goto (tgt := 112) hx hb dX5_call_108 (by decide) ?_
                  exact lv_tope (congrArg nI (show 1 = (if σ 3 (21 * u + 20) < 6 ∧ (σ 3 (21 * u + 20) = 0 ∨ σ 6 (6 * (21 * u + 20) + σ 3 (21 * u + 20) - 1) < a9) then 1 else 0) by first | (rw [if_pos ⟨by omega, by omega⟩]) | (rw [if_neg (by omega)]))) (J _ _ hW)
        · skip
          refine lv_iconst (v := nI 2) hx hb dX5_call_42 (by decide) ?_
          refine lv_goto (tgt := 47) hx hb dX5_call_43 (by decide) ?_
          refine rr_puti (v := 2) hx hb hts hinX5 hown hK hW 25 (by decide) rfl rfl (hts (.fieldLink RX5 70 "SeaPostModel" "thrown" "I") (by decide +kernel)) rfl (by decide +kernel) dX5_call_47 (fun H locs hW => ?_)
          obtain ⟨σ_19, eσ_19⟩ : ∃ z : Sg, z = st σ 25 0 2 := ⟨_, rfl⟩
          rw [← eσ_19] at hW
          refine lv_aload_n hx hb dX5_call_50 rfl (lv_at hl 0 rfl) ?_
          refine rr_geti hx hb hts hinX5 hown hK hW 25 (by decide) rfl rfl (hts (.fieldLink RX5 70 "SeaPostModel" "thrown" "I") (by decide +kernel)) dX5_call_51 ?_
          refine lv_tope (congrArg nI (show σ_19 25 0 = 2 by rw [eσ_19, st_s])) ?_
          refine lv_if_eq (tgt := 59) hx hb dX5_call_54 (by decide) (fun z => absurd z (by decide)) (fun _ => ?_)
          refine lv_iconst (v := nI 0) hx hb dX5_call_57 (by decide) ?_
          exact rr_iret hx hb hr hlk (Nat.le_refl 0) (Nat.le_refl 0) hW (rP_x (show thC σ u q a9 d9 = 2 from by unfold thC; (repeat' split) <;> first | rfl | omega) (by decide) (by subst eσ_19; first | rfl | (rw [st_st]; done))) dX5_call_58
    · skip
      refine lv_iconst (v := nI 1) hx hb dX5_call_16 (by decide) ?_
      refine lv_goto (tgt := 47) hx hb dX5_call_17 (by decide) ?_
      refine rr_puti (v := 1) hx hb hts hinX5 hown hK hW 25 (by decide) rfl rfl (hts (.fieldLink RX5 70 "SeaPostModel" "thrown" "I") (by decide +kernel)) rfl (by decide +kernel) dX5_call_47 (fun H locs hW => ?_)
      obtain ⟨σ_20, eσ_20⟩ : ∃ z : Sg, z = st σ 25 0 1 := ⟨_, rfl⟩
      rw [← eσ_20] at hW
      refine lv_aload_n hx hb dX5_call_50 rfl (lv_at hl 0 rfl) ?_
      refine rr_geti hx hb hts hinX5 hown hK hW 25 (by decide) rfl rfl (hts (.fieldLink RX5 70 "SeaPostModel" "thrown" "I") (by decide +kernel)) dX5_call_51 ?_
      refine lv_tope (congrArg nI (show σ_20 25 0 = 1 by rw [eσ_20, st_s])) ?_
      refine lv_if_eq (tgt := 59) hx hb dX5_call_54 (by decide) (fun z => absurd z (by decide)) (fun _ => ?_)
      refine lv_iconst (v := nI 0) hx hb dX5_call_57 (by decide) ?_
      exact rr_iret hx hb hr hlk (Nat.le_refl 0) (Nat.le_refl 0) hW (rP_x (show thC σ u q a9 d9 = 1 from by unfold thC; (repeat' split) <;> first | rfl | omega) (by decide) (by subst eσ_20; first | rfl | (rw [st_st]; done))) dX5_call_58

theorem cpN_f {σ : Sg} {b d g j : Nat} (h : g ≠ 4 ∧ g ≠ 5 ∧ g ≠ 6) : ∀ n, cpN σ b d n g j = σ g j
  | 0 => rfl
  | n + 1 => by
    unfold cpN
    rw [st_f h.2.2, st_f h.2.1, st_f h.1]
    exact cpN_f h n
theorem cpN_o {σ : Sg} {b d g j : Nat} : ∀ n, (∀ k, k < n → j ≠ b + k) → cpN σ b d n g j = σ g j
  | 0, _ => rfl
  | n + 1, h => by
    unfold cpN
    have h1 := h n (Nat.lt_succ_self n)
    rw [st_i h1, st_i h1, st_i h1]
    exact cpN_o n (fun k hk => h k (Nat.lt_succ_of_lt hk))

set_option maxHeartbeats 4000000 in
set_option maxRecDepth 100000 in
theorem c5_tell (l : Launch) (G : mG) (ad : Nat → Nat) (σ : Sg) (u : Nat) (q : Nat) (hu : u < 4294967296) (hq : q < 4294967296) (hB : RB σ) : cRi l yX5_tell wsX5_tell 2 G ad σ [.int (nI u), .int (nI q)] (rPost (thT σ u q) (σ 7 u) (nxT (st σ 25 0 0) u q) σ) := by
  intro M sz hR
  refine m_start cX5_tell 6 (some .int) (by decide) rfl (Nat.le_of_ble_eq_true rfl) ?_
  intro p e s m below meth c ls hx hb hr hml hown hlk hnm hts hK hsz hE hW hl
  have hA := mA_A (M := M) hsz
  have hl : lv_has ls 6 [(0, .ref (ad 0)), (1, .int (nI u)), (2, .int (nI q))] := hl
  have hW := rW_start hR hW
  have hinX5 : ∀ w ∈ u_ws RX5 TX5 26, w ∈ wsX5_tell := (fun _ h => List.mem_cons_of_mem _ (List.mem_append_right _ h))
  obtain ⟨⟨h0, h8, hd⟩, h7, h3, h12, h45, h17, hl9, h23, h1921⟩ := id hB
  have h7u := h7 u
  refine lv_aload_n hx hb dX5_tell_0 rfl (lv_at hl 0 rfl) ?_
  refine lv_aload_n hx hb dX5_tell_1 rfl (lv_at hl 0 rfl) ?_
  refine lv_iload_n hx hb dX5_tell_2 rfl (lv_at hl 1 rfl) ?_
  refine rk_Vi (As := [.int (nI u)]) (nL := 6) ⟨hx, hb, hml, hown, hts⟩ (c5_isShip l G ad σ u hu h0) (cwV 1 hts gX5_tell_X5_isShip rfl rfl rfl (by decide +kernel) ⟨(Nat.le_of_ble_eq_true rfl), (Nat.le_of_ble_eq_true rfl)⟩) hK hE hW hA rfl hl.1 rfl (Nat.le_of_ble_eq_true rfl) dX5_tell_3 (Nat.zero_le _) (Nat.zero_le _) (fun r9 σ9 H locs hp_1 hW => ?_)
  obtain ⟨e91, e92⟩ := hp_1
  subst e91
  rw [e92] at hW
  clear e92
  refine nb_if_eq (tgt := 16) hx hb dX5_tell_6 (by decide) (fun c_2 => ?_) (fun c_2 => ?_)
  · skip
    refine lv_iconst (v := nI 1) hx hb dX5_tell_16 (by decide) ?_
    refine lv_goto (tgt := 36) hx hb dX5_tell_17 (by decide) ?_
    refine rr_puti (v := 1) hx hb hts hinX5 hown hK hW 25 (by decide) rfl rfl (hts (.fieldLink RX5 70 "SeaPostModel" "thrown" "I") (by decide +kernel)) rfl (by decide +kernel) dX5_tell_36 (fun H locs hW => ?_)
    obtain ⟨σ_3, eσ_3⟩ : ∃ z : Sg, z = st σ 25 0 1 := ⟨_, rfl⟩
    rw [← eσ_3] at hW
    refine lv_aload_n hx hb dX5_tell_39 rfl (lv_at hl 0 rfl) ?_
    refine rr_geti hx hb hts hinX5 hown hK hW 25 (by decide) rfl rfl (hts (.fieldLink RX5 70 "SeaPostModel" "thrown" "I") (by decide +kernel)) dX5_tell_40 ?_
    refine lv_tope (congrArg nI (show σ_3 25 0 = 1 by rw [eσ_3, st_s])) ?_
    refine lv_if_eq (tgt := 48) hx hb dX5_tell_43 (by decide) (fun z => absurd z (by decide)) (fun _ => ?_)
    refine lv_iconst (v := nI 0) hx hb dX5_tell_46 (by decide) ?_
    exact rr_iret hx hb hr hlk (Nat.le_refl 0) (Nat.le_refl 0) hW (rP_x (show thT σ u q = 1 from by unfold thT; (repeat' split) <;> first | rfl | omega) (by decide) (by subst eσ_3; first | rfl | (rw [st_st]; done))) dX5_tell_47
  · skip
    refine lv_iload_n hx hb dX5_tell_9 rfl (lv_at hl 2 rfl) ?_
    refine rk_S (As := [.int (nI q)]) (nL := 6) ⟨hx, hb, hml, hown, hts⟩ (c5_isPort l q hq) (va_cwS 1 hts gX5_tell_X5_isPort rfl rfl rfl (by decide +kernel) ⟨(Nat.le_of_ble_eq_true rfl), (Nat.le_of_ble_eq_true rfl)⟩) hK hE hW hA rfl hl.1 rfl (Nat.le_of_ble_eq_true rfl) dX5_tell_10 (Nat.zero_le _) (Nat.zero_le _) (fun H locs hW => ?_)
    refine nb_if_ne (tgt := 20) hx hb dX5_tell_13 (by decide) (fun c_4 => ?_) (fun c_4 => ?_)
    · skip
      refine lv_aload_n hx hb dX5_tell_20 rfl (lv_at hl 0 rfl) ?_
      refine rr_geta hx hb hts hinX5 hown hK hW 7 (by decide) rfl rfl (hts (.fieldLink RX5 28 "SeaPostModel" "routeMany" "[I") (by decide +kernel)) dX5_tell_21 ?_
      refine lv_iload_n hx hb dX5_tell_24 rfl (lv_at hl 1 rfl) ?_
      refine rr_ald (j := u) hx hb hK hW 7 rfl rfl (show u < 8 by omega) dX5_tell_25 ?_
      refine lv_bipush (v := nI 20) hx hb dX5_tell_26 (by decide) ?_
      refine nv_icmp_ne (u := σ 7 u) (v := 20) (tgt := 35) hx hb dX5_tell_28 (by decide) (by omega) (by omega) (fun c_5 => ?_) (fun c_5 => ?_)
      · skip
        refine lv_iconst (v := nI 0) hx hb dX5_tell_35 (by decide) ?_
        refine rr_puti (v := 0) hx hb hts hinX5 hown hK hW 25 (by decide) rfl rfl (hts (.fieldLink RX5 70 "SeaPostModel" "thrown" "I") (by decide +kernel)) rfl (by decide +kernel) dX5_tell_36 (fun H locs hW => ?_)
        obtain ⟨σ_6, eσ_6⟩ : ∃ z : Sg, z = st σ 25 0 0 := ⟨_, rfl⟩
        rw [← eσ_6] at hW
        refine lv_aload_n hx hb dX5_tell_39 rfl (lv_at hl 0 rfl) ?_
        refine rr_geti hx hb hts hinX5 hown hK hW 25 (by decide) rfl rfl (hts (.fieldLink RX5 70 "SeaPostModel" "thrown" "I") (by decide +kernel)) dX5_tell_40 ?_
        refine lv_tope (congrArg nI (show σ_6 25 0 = 0 by rw [eσ_6, st_s])) ?_
        refine lv_if_eq (tgt := 48) hx hb dX5_tell_43 (by decide) (fun _ => ?_) (fun z => absurd (by decide) z)
        refine lv_iload_n hx hb dX5_tell_48 rfl (lv_at hl 1 rfl) ?_
        refine lv_aload_n hx hb dX5_tell_49 rfl (lv_at hl 0 rfl) ?_
        refine rr_geta hx hb hts hinX5 hown hK hW 7 (by decide) rfl rfl (hts (.fieldLink RX5 28 "SeaPostModel" "routeMany" "[I") (by decide +kernel)) dX5_tell_50 ?_
        refine lv_iload_n hx hb dX5_tell_53 rfl (lv_at hl 1 rfl) ?_
        refine rr_ald (j := u) hx hb hK hW 7 rfl rfl (show u < 8 by omega) dX5_tell_54 ?_
        refine lv_tope (congrArg nI (show σ_6 7 u = σ 7 u by rw [eσ_6, st_f (by decide)])) ?_
        refine rk_S (As := [.int (nI u), .int (nI (σ 7 u))]) (nL := 6) ⟨hx, hb, hml, hown, hts⟩ (c5_rowOf l u (σ 7 u)) (va_cwS 2 hts gX5_tell_X5_rowOf rfl rfl rfl (by decide +kernel) ⟨(Nat.le_of_ble_eq_true rfl), (Nat.le_of_ble_eq_true rfl)⟩) hK hE hW hA rfl hl.1 rfl (Nat.le_of_ble_eq_true rfl) dX5_tell_55 (Nat.zero_le _) (Nat.zero_le _) (fun H locs hW => ?_)
        refine lv_istore_n (lv' := [(3, .int (nI (21 * u + (σ 7 u)))), (0, .ref (ad 0)), (1, .int (nI u)), (2, .int (nI q))]) hx hb dX5_tell_58 rfl hl (by decide) rfl (fun ls hl => ?_)
        refine lv_iload_n hx hb dX5_tell_59 rfl (lv_at hl 2 rfl) ?_
        refine lv_bipush (v := nI 20) hx hb dX5_tell_60 (by decide) ?_
        refine rk_S (As := [.int (nI u), .int (nI 20)]) (nL := 6) ⟨hx, hb, hml, hown, hts⟩ (c5_rowOf l u 20) (va_cwS 2 hts gX5_tell_X5_rowOf rfl rfl rfl (by decide +kernel) ⟨(Nat.le_of_ble_eq_true rfl), (Nat.le_of_ble_eq_true rfl)⟩) hK hE hW hA rfl hl.1 rfl (Nat.le_of_ble_eq_true rfl) dX5_tell_62 (Nat.zero_le _) (Nat.zero_le _) (fun H locs hW => ?_)
        refine lv_istore (lv' := [(4, .int (nI (21 * u + 20))), (3, .int (nI (21 * u + (σ 7 u)))), (0, .ref (ad 0)), (1, .int (nI u)), (2, .int (nI q))]) hx hb dX5_tell_65 hl (by decide) rfl (fun ls hl => ?_)
        refine lv_aload_n hx hb dX5_tell_67 rfl (lv_at hl 2 rfl) ?_
        refine rr_geta hx hb hts hinX5 hown hK hW 1 (by decide) rfl rfl (hts (.fieldLink RX5 7 "SeaPostModel" "toldAt" "[I") (by decide +kernel)) dX5_tell_68 ?_
        refine lv_iload_n hx hb dX5_tell_71 rfl (lv_at hl 1 rfl) ?_
        refine lv_iload_n hx hb dX5_tell_72 rfl (lv_at hl 4 rfl) ?_
        refine rr_ast (j := 21 * u + (σ 7 u)) (v := q) hx hb hK hW 1 rfl rfl (show 21 * u + (σ 7 u) < 168 by omega) dX5_tell_73 (fun H locs hW => ?_)
        obtain ⟨σ_7, eσ_7⟩ : ∃ z : Sg, z = st σ_6 1 (21 * u + (σ 7 u)) q := ⟨_, rfl⟩
        rw [← eσ_7] at hW
        refine lv_aload_n hx hb dX5_tell_74 rfl (lv_at hl 2 rfl) ?_
        refine rr_geta hx hb hts hinX5 hown hK hW 2 (by decide) rfl rfl (hts (.fieldLink RX5 13 "SeaPostModel" "toldOn" "[I") (by decide +kernel)) dX5_tell_75 ?_
        refine lv_iload_n hx hb dX5_tell_78 rfl (lv_at hl 1 rfl) ?_
        refine lv_aload_n hx hb dX5_tell_79 rfl (lv_at hl 2 rfl) ?_
        refine rr_geti hx hb hts hinX5 hown hK hW 24 (by decide) rfl rfl (hts (.fieldLink RX5 92 "SeaPostModel" "today" "I") (by decide +kernel)) dX5_tell_80 ?_
        refine lv_tope (congrArg nI (show σ_7 24 0 = σ 24 0 by rw [eσ_7, st_f (by decide), eσ_6, st_f (by decide)])) ?_
        refine rr_ast (j := 21 * u + (σ 7 u)) (v := σ 24 0) hx hb hK hW 2 rfl rfl (show 21 * u + (σ 7 u) < 168 by omega) dX5_tell_83 (fun H locs hW => ?_)
        obtain ⟨σ_8, eσ_8⟩ : ∃ z : Sg, z = st σ_7 2 (21 * u + (σ 7 u)) (σ 24 0) := ⟨_, rfl⟩
        rw [← eσ_8] at hW
        refine lv_aload_n hx hb dX5_tell_84 rfl (lv_at hl 2 rfl) ?_
        refine rr_geta hx hb hts hinX5 hown hK hW 3 (by decide) rfl rfl (hts (.fieldLink RX5 16 "SeaPostModel" "callMany" "[I") (by decide +kernel)) dX5_tell_85 ?_
        refine lv_iload_n hx hb dX5_tell_88 rfl (lv_at hl 1 rfl) ?_
        refine lv_aload_n hx hb dX5_tell_89 rfl (lv_at hl 2 rfl) ?_
        refine rr_geta hx hb hts hinX5 hown hK hW 3 (by decide) rfl rfl (hts (.fieldLink RX5 16 "SeaPostModel" "callMany" "[I") (by decide +kernel)) dX5_tell_90 ?_
        refine lv_iload hx hb dX5_tell_93 (lv_at hl 0 rfl) ?_
        refine rr_ald (j := 21 * u + 20) hx hb hK hW 3 rfl rfl (show 21 * u + 20 < 168 by omega) dX5_tell_95 ?_
        refine lv_tope (congrArg nI (show σ_8 3 (21 * u + 20) = σ 3 (21 * u + 20) by rw [eσ_8, st_f (by decide), eσ_7, st_f (by decide), eσ_6, st_f (by decide)])) ?_
        refine rr_ast (j := 21 * u + (σ 7 u)) (v := σ 3 (21 * u + 20)) hx hb hK hW 3 rfl rfl (show 21 * u + (σ 7 u) < 168 by omega) dX5_tell_96 (fun H locs hW => ?_)
        obtain ⟨σ_9, eσ_9⟩ : ∃ z : Sg, z = st σ_8 3 (21 * u + (σ 7 u)) (σ 3 (21 * u + 20)) := ⟨_, rfl⟩
        rw [← eσ_9] at hW
        refine lv_iconst (v := nI 0) hx hb dX5_tell_97 (by decide) ?_
        refine lv_istore (lv' := [(5, .int (nI 0)), (4, .int (nI (21 * u + 20))), (3, .int (nI (21 * u + (σ 7 u)))), (0, .ref (ad 0)), (1, .int (nI u)), (2, .int (nI q))]) hx hb dX5_tell_98 hl (by decide) rfl (fun ls hl => ?_)
        obtain ⟨τ, eτ⟩ : ∃ z : Sg, z = σ_9 := ⟨_, rfl⟩
        rw [← eτ] at hW
        have hτ : ∀ g j, g ≠ 25 → g ≠ 1 → g ≠ 2 → g ≠ 3 → τ g j = σ g j := fun g j z1 z2 z3 z4 => by rw [eτ, eσ_9, st_f z4, eσ_8, st_f z3, eσ_7, st_f z2, eσ_6, st_f z1]
        have hτ3 : τ 3 (21 * u + 20) = σ 3 (21 * u + 20) := by rw [eτ, eσ_9, st_i (by omega), eσ_8, st_f (by decide), eσ_7, st_f (by decide), eσ_6, st_f (by decide)]
        have h3d := h3 (21 * u + 20)
        refine m_loop (σ 3 (21 * u + 20)) (fun n H locs ls => rW G ad (mA M sz) s.heap M (cpN τ (6 * (21 * u + σ 7 u)) (6 * (21 * u + 20)) n) H locs ∧ lv_has ls 6 [(5, .int (nI n)), (4, .int (nI (21 * u + 20))), (3, .int (nI (21 * u + σ 7 u))), (0, .ref (ad 0)), (1, .int (nI u)), (2, .int (nI q))]) 0 (Nat.zero_le _) ⟨hW, lv_sub hl [0, 1, 2, 3, 4, 5] rfl⟩ (fun n H locs ls hn hI ih => ?_)
        obtain ⟨hW, hl⟩ := hI
        obtain ⟨C9, eC9⟩ : ∃ z : Sg, z = cpN τ (6 * (21 * u + σ 7 u)) (6 * (21 * u + 20)) n := ⟨_, rfl⟩
        rw [← eC9] at hW
        have hC3 : C9 3 (21 * u + 20) = σ 3 (21 * u + 20) := by rw [eC9, cpN_f (by decide)]; exact hτ3
        have hCd : ∀ g, g = 4 ∨ g = 5 ∨ g = 6 → n < σ 3 (21 * u + 20) → C9 g (6 * (21 * u + 20) + n) = τ g (6 * (21 * u + 20) + n) := fun g hg hlt => by rw [eC9, cpN_o n (fun k hk => by omega)]
        refine lv_iload hx hb dX5_tell_100 (lv_at hl 0 rfl) ?_
        refine lv_aload_n hx hb dX5_tell_102 rfl (lv_at hl 3 rfl) ?_
        refine rr_geta hx hb hts hinX5 hown hK hW 3 (by decide) rfl rfl (hts (.fieldLink RX5 16 "SeaPostModel" "callMany" "[I") (by decide +kernel)) dX5_tell_103 ?_
        refine lv_iload hx hb dX5_tell_106 (lv_at hl 1 rfl) ?_
        refine rr_ald (j := 21 * u + 20) hx hb hK hW 3 rfl rfl (show 21 * u + 20 < 168 by omega) dX5_tell_108 ?_
        refine lv_tope (congrArg nI (show C9 3 (21 * u + 20) = σ 3 (21 * u + 20) from hC3)) ?_
        refine nv_icmp_ge (u := n) (v := σ 3 (21 * u + 20)) (tgt := 193) hx hb dX5_tell_109 (by decide) (by omega) (by omega) (fun c_10 => ?_) (fun c_10 => ?_)
        · skip
          refine lv_aload_n hx hb dX5_tell_193 rfl (lv_at hl 3 rfl) ?_
          refine rr_geta hx hb hts hinX5 hown hK hW 3 (by decide) rfl rfl (hts (.fieldLink RX5 16 "SeaPostModel" "callMany" "[I") (by decide +kernel)) dX5_tell_194 ?_
          refine lv_iload hx hb dX5_tell_197 (lv_at hl 1 rfl) ?_
          refine lv_iconst (v := nI 0) hx hb dX5_tell_199 (by decide) ?_
          refine rr_ast (j := 21 * u + 20) (v := 0) hx hb hK hW 3 rfl rfl (show 21 * u + 20 < 168 by omega) dX5_tell_200 (fun H locs hW => ?_)
          obtain ⟨σ_11, eσ_11⟩ : ∃ z : Sg, z = st C9 3 (21 * u + 20) 0 := ⟨_, rfl⟩
          rw [← eσ_11] at hW
          refine lv_aload_n hx hb dX5_tell_201 rfl (lv_at hl 3 rfl) ?_
          refine rr_geta hx hb hts hinX5 hown hK hW 7 (by decide) rfl rfl (hts (.fieldLink RX5 28 "SeaPostModel" "routeMany" "[I") (by decide +kernel)) dX5_tell_202 ?_
          refine lv_iload_n hx hb dX5_tell_205 rfl (lv_at hl 4 rfl) ?_
          refine lv_dup2_11 hx hb dX5_tell_206 rfl rfl ?_
          refine rr_ald (j := u) hx hb hK hW 7 rfl rfl (show u < 8 by omega) dX5_tell_207 ?_
          refine lv_tope (congrArg nI (show σ_11 7 u = C9 7 u by rw [eσ_11, st_f (by decide)])) ?_
          refine lv_tope (congrArg nI (show C9 7 u = σ 7 u by rw [eC9, cpN_f (by decide)]; exact hτ 7 u (by decide) (by decide) (by decide) (by decide))) ?_
          refine lv_iconst (v := nI 1) hx hb dX5_tell_208 (by decide) ?_
          refine lv_iadd hx hb dX5_tell_209 (lv_tope (nI_add (σ 7 u) 1) ?_)
          refine rr_ast (j := u) (v := σ 7 u + 1) hx hb hK hW 7 rfl rfl (show u < 8 by omega) dX5_tell_210 (fun H locs hW => ?_)
          obtain ⟨σ_12, eσ_12⟩ : ∃ z : Sg, z = st σ_11 7 u (σ 7 u + 1) := ⟨_, rfl⟩
          rw [← eσ_12] at hW
          refine lv_aload_n hx hb dX5_tell_211 rfl (lv_at hl 3 rfl) ?_
          refine rr_geta hx hb hts hinX5 hown hK hW 7 (by decide) rfl rfl (hts (.fieldLink RX5 28 "SeaPostModel" "routeMany" "[I") (by decide +kernel)) dX5_tell_212 ?_
          refine lv_iload_n hx hb dX5_tell_215 rfl (lv_at hl 4 rfl) ?_
          refine rr_ald (j := u) hx hb hK hW 7 rfl rfl (show u < 8 by omega) dX5_tell_216 ?_
          refine lv_tope (congrArg nI (show σ_12 7 u = σ 7 u + 1 by rw [eσ_12, st_s])) ?_
          refine lv_iconst (v := nI 1) hx hb dX5_tell_217 (by decide) ?_
          refine lv_isub hx hb dX5_tell_218 (lv_tope (pk_sub (a := σ 7 u + 1) (b := 1) (by omega)) ?_)
          obtain rfl : n = σ 3 (21 * u + 20) := by omega
          exact rr_iret hx hb hr hlk (Nat.le_refl 0) (Nat.le_refl 0) hW (rP_0 (show thT σ u q = 0 from by unfold thT; (repeat' split) <;> first | rfl | omega) rfl (by subst eσ_11; subst eσ_12; subst eC9; subst eτ; subst eσ_6; subst eσ_7; subst eσ_8; subst eσ_9; rfl)) dX5_tell_219
        · skip
          refine lv_aload_n hx hb dX5_tell_112 rfl (lv_at hl 3 rfl) ?_
          refine rr_geta hx hb hts hinX5 hown hK hW 4 (by decide) rfl rfl (hts (.fieldLink RX5 19 "SeaPostModel" "callPort" "[I") (by decide +kernel)) dX5_tell_113 ?_
          refine lv_bipush (v := nI 6) hx hb dX5_tell_116 (by decide) ?_
          refine lv_iload_n hx hb dX5_tell_118 rfl (lv_at hl 2 rfl) ?_
          refine lv_imul hx hb dX5_tell_119 (lv_tope (pk_mul 6 (21 * u + σ 7 u)) ?_)
          refine lv_iload hx hb dX5_tell_120 (lv_at hl 0 rfl) ?_
          refine lv_iadd hx hb dX5_tell_122 (lv_tope (nI_add (6 * (21 * u + σ 7 u)) n) ?_)
          refine lv_aload_n hx hb dX5_tell_123 rfl (lv_at hl 3 rfl) ?_
          refine rr_geta hx hb hts hinX5 hown hK hW 4 (by decide) rfl rfl (hts (.fieldLink RX5 19 "SeaPostModel" "callPort" "[I") (by decide +kernel)) dX5_tell_124 ?_
          refine lv_bipush (v := nI 6) hx hb dX5_tell_127 (by decide) ?_
          refine lv_iload hx hb dX5_tell_129 (lv_at hl 1 rfl) ?_
          refine lv_imul hx hb dX5_tell_131 (lv_tope (pk_mul 6 (21 * u + 20)) ?_)
          refine lv_iload hx hb dX5_tell_132 (lv_at hl 0 rfl) ?_
          refine lv_iadd hx hb dX5_tell_134 (lv_tope (nI_add (6 * (21 * u + 20)) n) ?_)
          refine rr_ald (j := 6 * (21 * u + 20) + n) hx hb hK hW 4 rfl rfl (show 6 * (21 * u + 20) + n < 1008 by omega) dX5_tell_135 ?_
          refine lv_tope (congrArg nI (show C9 4 (6 * (21 * u + 20) + n) = τ 4 (6 * (21 * u + 20) + n) by exact hCd 4 (by omega) (by omega))) ?_
          refine rr_ast (j := 6 * (21 * u + σ 7 u) + n) (v := τ 4 (6 * (21 * u + 20) + n)) hx hb hK hW 4 rfl rfl (show 6 * (21 * u + σ 7 u) + n < 1008 by omega) dX5_tell_136 (fun H locs hW => ?_)
          obtain ⟨σ_13, eσ_13⟩ : ∃ z : Sg, z = st C9 4 (6 * (21 * u + σ 7 u) + n) (τ 4 (6 * (21 * u + 20) + n)) := ⟨_, rfl⟩
          rw [← eσ_13] at hW
          refine lv_aload_n hx hb dX5_tell_137 rfl (lv_at hl 3 rfl) ?_
          refine rr_geta hx hb hts hinX5 hown hK hW 5 (by decide) rfl rfl (hts (.fieldLink RX5 22 "SeaPostModel" "arrival" "[I") (by decide +kernel)) dX5_tell_138 ?_
          refine lv_bipush (v := nI 6) hx hb dX5_tell_141 (by decide) ?_
          refine lv_iload_n hx hb dX5_tell_143 rfl (lv_at hl 2 rfl) ?_
          refine lv_imul hx hb dX5_tell_144 (lv_tope (pk_mul 6 (21 * u + σ 7 u)) ?_)
          refine lv_iload hx hb dX5_tell_145 (lv_at hl 0 rfl) ?_
          refine lv_iadd hx hb dX5_tell_147 (lv_tope (nI_add (6 * (21 * u + σ 7 u)) n) ?_)
          refine lv_aload_n hx hb dX5_tell_148 rfl (lv_at hl 3 rfl) ?_
          refine rr_geta hx hb hts hinX5 hown hK hW 5 (by decide) rfl rfl (hts (.fieldLink RX5 22 "SeaPostModel" "arrival" "[I") (by decide +kernel)) dX5_tell_149 ?_
          refine lv_bipush (v := nI 6) hx hb dX5_tell_152 (by decide) ?_
          refine lv_iload hx hb dX5_tell_154 (lv_at hl 1 rfl) ?_
          refine lv_imul hx hb dX5_tell_156 (lv_tope (pk_mul 6 (21 * u + 20)) ?_)
          refine lv_iload hx hb dX5_tell_157 (lv_at hl 0 rfl) ?_
          refine lv_iadd hx hb dX5_tell_159 (lv_tope (nI_add (6 * (21 * u + 20)) n) ?_)
          refine rr_ald (j := 6 * (21 * u + 20) + n) hx hb hK hW 5 rfl rfl (show 6 * (21 * u + 20) + n < 1008 by omega) dX5_tell_160 ?_
          refine lv_tope (congrArg nI (show σ_13 5 (6 * (21 * u + 20) + n) = C9 5 (6 * (21 * u + 20) + n) by rw [eσ_13, st_f (by decide)])) ?_
          refine lv_tope (congrArg nI (show C9 5 (6 * (21 * u + 20) + n) = τ 5 (6 * (21 * u + 20) + n) by exact hCd 5 (by omega) (by omega))) ?_
          refine rr_ast (j := 6 * (21 * u + σ 7 u) + n) (v := τ 5 (6 * (21 * u + 20) + n)) hx hb hK hW 5 rfl rfl (show 6 * (21 * u + σ 7 u) + n < 1008 by omega) dX5_tell_161 (fun H locs hW => ?_)
          obtain ⟨σ_14, eσ_14⟩ : ∃ z : Sg, z = st σ_13 5 (6 * (21 * u + σ 7 u) + n) (τ 5 (6 * (21 * u + 20) + n)) := ⟨_, rfl⟩
          rw [← eσ_14] at hW
          refine lv_aload_n hx hb dX5_tell_162 rfl (lv_at hl 3 rfl) ?_
          refine rr_geta hx hb hts hinX5 hown hK hW 6 (by decide) rfl rfl (hts (.fieldLink RX5 25 "SeaPostModel" "leaving" "[I") (by decide +kernel)) dX5_tell_163 ?_
          refine lv_bipush (v := nI 6) hx hb dX5_tell_166 (by decide) ?_
          refine lv_iload_n hx hb dX5_tell_168 rfl (lv_at hl 2 rfl) ?_
          refine lv_imul hx hb dX5_tell_169 (lv_tope (pk_mul 6 (21 * u + σ 7 u)) ?_)
          refine lv_iload hx hb dX5_tell_170 (lv_at hl 0 rfl) ?_
          refine lv_iadd hx hb dX5_tell_172 (lv_tope (nI_add (6 * (21 * u + σ 7 u)) n) ?_)
          refine lv_aload_n hx hb dX5_tell_173 rfl (lv_at hl 3 rfl) ?_
          refine rr_geta hx hb hts hinX5 hown hK hW 6 (by decide) rfl rfl (hts (.fieldLink RX5 25 "SeaPostModel" "leaving" "[I") (by decide +kernel)) dX5_tell_174 ?_
          refine lv_bipush (v := nI 6) hx hb dX5_tell_177 (by decide) ?_
          refine lv_iload hx hb dX5_tell_179 (lv_at hl 1 rfl) ?_
          refine lv_imul hx hb dX5_tell_181 (lv_tope (pk_mul 6 (21 * u + 20)) ?_)
          refine lv_iload hx hb dX5_tell_182 (lv_at hl 0 rfl) ?_
          refine lv_iadd hx hb dX5_tell_184 (lv_tope (nI_add (6 * (21 * u + 20)) n) ?_)
          refine rr_ald (j := 6 * (21 * u + 20) + n) hx hb hK hW 6 rfl rfl (show 6 * (21 * u + 20) + n < 1008 by omega) dX5_tell_185 ?_
          refine lv_tope (congrArg nI (show σ_14 6 (6 * (21 * u + 20) + n) = C9 6 (6 * (21 * u + 20) + n) by rw [eσ_14, st_f (by decide), eσ_13, st_f (by decide)])) ?_
          refine lv_tope (congrArg nI (show C9 6 (6 * (21 * u + 20) + n) = τ 6 (6 * (21 * u + 20) + n) by exact hCd 6 (by omega) (by omega))) ?_
          refine rr_ast (j := 6 * (21 * u + σ 7 u) + n) (v := τ 6 (6 * (21 * u + 20) + n)) hx hb hK hW 6 rfl rfl (show 6 * (21 * u + σ 7 u) + n < 1008 by omega) dX5_tell_186 (fun H locs hW => ?_)
          obtain ⟨σ_15, eσ_15⟩ : ∃ z : Sg, z = st σ_14 6 (6 * (21 * u + σ 7 u) + n) (τ 6 (6 * (21 * u + 20) + n)) := ⟨_, rfl⟩
          rw [← eσ_15] at hW
          refine lv_iinc (v := nI (n + 1)) (lv' := [(5, .int (nI (n + 1))), (4, .int (nI (21 * u + 20))), (3, .int (nI (21 * u + σ 7 u))), (0, .ref (ad 0)), (1, .int (nI u)), (2, .int (nI q))]) hx hb dX5_tell_187 hl (k := 0) rfl (by rw [show (Int32.ofInt 1) = nI 1 by decide, nI_add]) (by decide) rfl (fun ls hl => ?_)
          refine lv_goto (tgt := 100) hx hb dX5_tell_190 (by decide) ?_
          have hst : σ_15 = cpN τ (6 * (21 * u + σ 7 u)) (6 * (21 * u + 20)) (n + 1) := by subst eσ_13; subst eσ_14; subst eσ_15; subst eC9; rfl
          exact ih _ _ _ (by omega) ⟨by rw [← hst]; exact hW, lv_sub hl [0, 1, 2, 3, 4, 5] rfl⟩
      · skip
        refine lv_iconst (v := nI 2) hx hb dX5_tell_31 (by decide) ?_
        refine lv_goto (tgt := 36) hx hb dX5_tell_32 (by decide) ?_
        refine rr_puti (v := 2) hx hb hts hinX5 hown hK hW 25 (by decide) rfl rfl (hts (.fieldLink RX5 70 "SeaPostModel" "thrown" "I") (by decide +kernel)) rfl (by decide +kernel) dX5_tell_36 (fun H locs hW => ?_)
        obtain ⟨σ_16, eσ_16⟩ : ∃ z : Sg, z = st σ 25 0 2 := ⟨_, rfl⟩
        rw [← eσ_16] at hW
        refine lv_aload_n hx hb dX5_tell_39 rfl (lv_at hl 0 rfl) ?_
        refine rr_geti hx hb hts hinX5 hown hK hW 25 (by decide) rfl rfl (hts (.fieldLink RX5 70 "SeaPostModel" "thrown" "I") (by decide +kernel)) dX5_tell_40 ?_
        refine lv_tope (congrArg nI (show σ_16 25 0 = 2 by rw [eσ_16, st_s])) ?_
        refine lv_if_eq (tgt := 48) hx hb dX5_tell_43 (by decide) (fun z => absurd z (by decide)) (fun _ => ?_)
        refine lv_iconst (v := nI 0) hx hb dX5_tell_46 (by decide) ?_
        exact rr_iret hx hb hr hlk (Nat.le_refl 0) (Nat.le_refl 0) hW (rP_x (show thT σ u q = 2 from by unfold thT; (repeat' split) <;> first | rfl | omega) (by decide) (by subst eσ_16; first | rfl | (rw [st_st]; done))) dX5_tell_47
    · skip
      refine lv_iconst (v := nI 1) hx hb dX5_tell_16 (by decide) ?_
      refine lv_goto (tgt := 36) hx hb dX5_tell_17 (by decide) ?_
      refine rr_puti (v := 1) hx hb hts hinX5 hown hK hW 25 (by decide) rfl rfl (hts (.fieldLink RX5 70 "SeaPostModel" "thrown" "I") (by decide +kernel)) rfl (by decide +kernel) dX5_tell_36 (fun H locs hW => ?_)
      obtain ⟨σ_17, eσ_17⟩ : ∃ z : Sg, z = st σ 25 0 1 := ⟨_, rfl⟩
      rw [← eσ_17] at hW
      refine lv_aload_n hx hb dX5_tell_39 rfl (lv_at hl 0 rfl) ?_
      refine rr_geti hx hb hts hinX5 hown hK hW 25 (by decide) rfl rfl (hts (.fieldLink RX5 70 "SeaPostModel" "thrown" "I") (by decide +kernel)) dX5_tell_40 ?_
      refine lv_tope (congrArg nI (show σ_17 25 0 = 1 by rw [eσ_17, st_s])) ?_
      refine lv_if_eq (tgt := 48) hx hb dX5_tell_43 (by decide) (fun z => absurd z (by decide)) (fun _ => ?_)
      refine lv_iconst (v := nI 0) hx hb dX5_tell_46 (by decide) ?_
      exact rr_iret hx hb hr hlk (Nat.le_refl 0) (Nat.le_refl 0) hW (rP_x (show thT σ u q = 1 from by unfold thT; (repeat' split) <;> first | rfl | omega) (by decide) (by subst eσ_17; first | rfl | (rw [st_st]; done))) dX5_tell_47

set_option maxHeartbeats 4000000 in
set_option maxRecDepth 100000 in
theorem c5_strike (l : Launch) (G : mG) (ad : Nat → Nat) (σ : Sg) (q : Nat) (d9 : Nat) (hq : q < 4294967296) (hd9 : d9 < 4294967296) (hB : RB σ) : cRi l yX5_strike wsX5_strike 2 G ad σ [.int (nI q), .int (nI d9)] (rPost (thK σ q d9) (opS σ q d9) (nxK (st σ 25 0 0) q d9) σ) := by
  intro M sz hR
  refine m_start cX5_strike 3 (some .int) (by decide) rfl (Nat.le_of_ble_eq_true rfl) ?_
  intro p e s m below meth c ls hx hb hr hml hown hlk hnm hts hK hsz hE hW hl
  have hA := mA_A (M := M) hsz
  have hl : lv_has ls 3 [(0, .ref (ad 0)), (1, .int (nI q)), (2, .int (nI d9))] := hl
  have hW := rW_start hR hW
  have hinX5 : ∀ w ∈ u_ws RX5 TX5 26, w ∈ wsX5_strike := (fun _ h => List.mem_cons_of_mem _ (List.mem_append_right _ h))
  obtain ⟨⟨h0, h8, hd⟩, h7, h3, h12, h45, h17, hl9, h23, h1921⟩ := id hB
  refine lv_aload_n hx hb dX5_strike_0 rfl (lv_at hl 0 rfl) ?_
  refine lv_iload_n hx hb dX5_strike_1 rfl (lv_at hl 1 rfl) ?_
  refine rk_S (As := [.int (nI q)]) (nL := 3) ⟨hx, hb, hml, hown, hts⟩ (c5_isPort l q hq) (va_cwS 1 hts gX5_strike_X5_isPort rfl rfl rfl (by decide +kernel) ⟨(Nat.le_of_ble_eq_true rfl), (Nat.le_of_ble_eq_true rfl)⟩) hK hE hW hA rfl hl.1 rfl (Nat.le_of_ble_eq_true rfl) dX5_strike_2 (Nat.zero_le _) (Nat.zero_le _) (fun H locs hW => ?_)
  refine nb_if_ne (tgt := 12) hx hb dX5_strike_5 (by decide) (fun c_1 => ?_) (fun c_1 => ?_)
  · skip
    refine lv_iload_n hx hb dX5_strike_12 rfl (lv_at hl 2 rfl) ?_
    refine lv_iconst (v := nI 1) hx hb dX5_strike_13 (by decide) ?_
    refine lv_bipush (v := nI 60) hx hb dX5_strike_14 (by decide) ?_
    refine lv_tope (show nI 60 = nI 61 - nI 1 by decide) ?_
    refine rk_S (As := [.int (nI d9), .int (nI 1), .int (nI 61 - nI 1)]) (nL := 3) ⟨hx, hb, hml, hown, hts⟩ (c5_in l d9 1 61 (by omega) (by omega) (by omega)) (va_cwS 3 hts gX5_strike_X5_in rfl rfl rfl (by decide +kernel) ⟨(Nat.le_of_ble_eq_true rfl), (Nat.le_of_ble_eq_true rfl)⟩) hK hE hW hA rfl hl.1 rfl (Nat.le_of_ble_eq_true rfl) dX5_strike_16 (Nat.zero_le _) (Nat.zero_le _) (fun H locs hW => ?_)
    refine nb_if_eq (tgt := 26) hx hb dX5_strike_19 (by decide) (fun c_2 => ?_) (fun c_2 => ?_)
    · skip
      refine lv_iconst (v := nI 2) hx hb dX5_strike_26 (by decide) ?_
      refine rr_puti (v := 2) hx hb hts hinX5 hown hK hW 25 (by decide) rfl rfl (hts (.fieldLink RX5 70 "SeaPostModel" "thrown" "I") (by decide +kernel)) rfl (by decide +kernel) dX5_strike_27 (fun H locs hW => ?_)
      obtain ⟨σ_3, eσ_3⟩ : ∃ z : Sg, z = st σ 25 0 2 := ⟨_, rfl⟩
      rw [← eσ_3] at hW
      refine lv_aload_n hx hb dX5_strike_30 rfl (lv_at hl 0 rfl) ?_
      refine rr_geti hx hb hts hinX5 hown hK hW 25 (by decide) rfl rfl (hts (.fieldLink RX5 70 "SeaPostModel" "thrown" "I") (by decide +kernel)) dX5_strike_31 ?_
      refine lv_tope (congrArg nI (show σ_3 25 0 = 2 by rw [eσ_3, st_s])) ?_
      refine lv_if_eq (tgt := 39) hx hb dX5_strike_34 (by decide) (fun z => absurd z (by decide)) (fun _ => ?_)
      refine lv_iconst (v := nI 0) hx hb dX5_strike_37 (by decide) ?_
      exact rr_iret hx hb hr hlk (Nat.le_refl 0) (Nat.le_refl 0) hW (rP_x (show thK σ q d9 = 2 from by unfold thK; (repeat' split) <;> first | rfl | omega) (by decide) (by subst eσ_3; first | rfl | (rw [st_st]; done))) dX5_strike_38
    · skip
      refine lv_iconst (v := nI 0) hx hb dX5_strike_22 (by decide) ?_
      refine lv_goto (tgt := 27) hx hb dX5_strike_23 (by decide) ?_
      refine rr_puti (v := 0) hx hb hts hinX5 hown hK hW 25 (by decide) rfl rfl (hts (.fieldLink RX5 70 "SeaPostModel" "thrown" "I") (by decide +kernel)) rfl (by decide +kernel) dX5_strike_27 (fun H locs hW => ?_)
      obtain ⟨σ_4, eσ_4⟩ : ∃ z : Sg, z = st σ 25 0 0 := ⟨_, rfl⟩
      rw [← eσ_4] at hW
      refine lv_aload_n hx hb dX5_strike_30 rfl (lv_at hl 0 rfl) ?_
      refine rr_geti hx hb hts hinX5 hown hK hW 25 (by decide) rfl rfl (hts (.fieldLink RX5 70 "SeaPostModel" "thrown" "I") (by decide +kernel)) dX5_strike_31 ?_
      refine lv_tope (congrArg nI (show σ_4 25 0 = 0 by rw [eσ_4, st_s])) ?_
      refine lv_if_eq (tgt := 39) hx hb dX5_strike_34 (by decide) (fun _ => ?_) (fun z => absurd (by decide) z)
      have h23q := h23 q
      refine lv_aload_n hx hb dX5_strike_39 rfl (lv_at hl 0 rfl) ?_
      refine rr_geta hx hb hts hinX5 hown hK hW 23 (by decide) rfl rfl (hts (.fieldLink RX5 67 "SeaPostModel" "opens" "[I") (by decide +kernel)) dX5_strike_40 ?_
      refine lv_iload_n hx hb dX5_strike_43 rfl (lv_at hl 1 rfl) ?_
      refine lv_aload_n hx hb dX5_strike_44 rfl (lv_at hl 0 rfl) ?_
      refine rr_geti hx hb hts hinX5 hown hK hW 24 (by decide) rfl rfl (hts (.fieldLink RX5 92 "SeaPostModel" "today" "I") (by decide +kernel)) dX5_strike_45 ?_
      refine lv_tope (congrArg nI (show σ_4 24 0 = σ 24 0 by rw [eσ_4, st_f (by decide)])) ?_
      refine lv_iload_n hx hb dX5_strike_48 rfl (lv_at hl 2 rfl) ?_
      refine lv_iadd hx hb dX5_strike_49 (lv_tope (nI_add (σ 24 0) d9) ?_)
      refine lv_aload_n hx hb dX5_strike_50 rfl (lv_at hl 0 rfl) ?_
      refine rr_geta hx hb hts hinX5 hown hK hW 23 (by decide) rfl rfl (hts (.fieldLink RX5 67 "SeaPostModel" "opens" "[I") (by decide +kernel)) dX5_strike_51 ?_
      refine lv_iload_n hx hb dX5_strike_54 rfl (lv_at hl 1 rfl) ?_
      refine rr_ald (j := q) hx hb hK hW 23 rfl rfl (show q < 10 by omega) dX5_strike_55 ?_
      refine lv_tope (congrArg nI (show σ_4 23 q = σ 23 q by rw [eσ_4, st_f (by decide)])) ?_
      refine m_joinI (g' := F0 m 74 ls [.int (nI (opS σ q d9)), .int (nI q), .ref (ad 23)]) (fun H locs => rW G ad (mA M sz) s.heap M σ_4 H locs) (fun H locs hW => ?_) (fun J => ?_)
      · skip
        refine rr_ast (j := q) (v := opS σ q d9) hx hb hK hW 23 rfl rfl (show q < 10 by omega) dX5_strike_74 (fun H locs hW => ?_)
        obtain ⟨σ_5, eσ_5⟩ : ∃ z : Sg, z = st σ_4 23 q (opS σ q d9) := ⟨_, rfl⟩
        rw [← eσ_5] at hW
        refine lv_aload_n hx hb dX5_strike_75 rfl (lv_at hl 0 rfl) ?_
        refine rr_geta hx hb hts hinX5 hown hK hW 23 (by decide) rfl rfl (hts (.fieldLink RX5 67 "SeaPostModel" "opens" "[I") (by decide +kernel)) dX5_strike_76 ?_
        refine lv_iload_n hx hb dX5_strike_79 rfl (lv_at hl 1 rfl) ?_
        refine rr_ald (j := q) hx hb hK hW 23 rfl rfl (show q < 10 by omega) dX5_strike_80 ?_
        refine lv_tope (congrArg nI (show σ_5 23 q = opS σ q d9 by rw [eσ_5, st_s])) ?_
        exact rr_iret hx hb hr hlk (Nat.le_refl 0) (Nat.le_refl 0) hW (rP_0 (show thK σ q d9 = 0 from by unfold thK; (repeat' split) <;> first | rfl | omega) (rfl) (by subst eσ_4; subst eσ_5; first | rfl | (rw [st_st]; rfl))) dX5_strike_81
      · skip
        refine nv_icmp_le (u := σ 24 0 + d9) (v := σ 23 q) (tgt := 68) hx hb dX5_strike_56 (by decide) (by omega) (by omega) (fun c_6 => ?_) (fun c_6 => ?_)
        · skip
          refine lv_aload_n hx hb dX5_strike_68 rfl (lv_at hl 0 rfl) ?_
          refine rr_geta hx hb hts hinX5 hown hK hW 23 (by decide) rfl rfl (hts (.fieldLink RX5 67 "SeaPostModel" "opens" "[I") (by decide +kernel)) dX5_strike_69 ?_
          refine lv_iload_n hx hb dX5_strike_72 rfl (lv_at hl 1 rfl) ?_
          refine rr_ald (j := q) hx hb hK hW 23 rfl rfl (show q < 10 by omega) dX5_strike_73 ?_
          refine lv_tope (congrArg nI (show σ_4 23 q = σ 23 q by rw [eσ_4, st_f (by decide)])) ?_
          exact lv_tope (congrArg nI (show σ 23 q = opS σ q d9 by unfold opS; first | (rw [if_pos (by omega)]) | (rw [if_neg (by omega)]))) (J _ _ hW)
        · skip
          refine lv_aload_n hx hb dX5_strike_59 rfl (lv_at hl 0 rfl) ?_
          refine rr_geti hx hb hts hinX5 hown hK hW 24 (by decide) rfl rfl (hts (.fieldLink RX5 92 "SeaPostModel" "today" "I") (by decide +kernel)) dX5_strike_60 ?_
          refine lv_tope (congrArg nI (show σ_4 24 0 = σ 24 0 by rw [eσ_4, st_f (by decide)])) ?_
          refine lv_iload_n hx hb dX5_strike_63 rfl (lv_at hl 2 rfl) ?_
          refine lv_iadd hx hb dX5_strike_64 (lv_tope (nI_add (σ 24 0) d9) ?_)
          refine lv_goto (tgt := 74) hx hb dX5_strike_65 (by decide) ?_
          exact lv_tope (congrArg nI (show σ 24 0 + d9 = opS σ q d9 by unfold opS; first | (rw [if_pos (by omega)]) | (rw [if_neg (by omega)]))) (J _ _ hW)
  · skip
    refine lv_iconst (v := nI 1) hx hb dX5_strike_8 (by decide) ?_
    refine lv_goto (tgt := 27) hx hb dX5_strike_9 (by decide) ?_
    refine rr_puti (v := 1) hx hb hts hinX5 hown hK hW 25 (by decide) rfl rfl (hts (.fieldLink RX5 70 "SeaPostModel" "thrown" "I") (by decide +kernel)) rfl (by decide +kernel) dX5_strike_27 (fun H locs hW => ?_)
    obtain ⟨σ_7, eσ_7⟩ : ∃ z : Sg, z = st σ 25 0 1 := ⟨_, rfl⟩
    rw [← eσ_7] at hW
    refine lv_aload_n hx hb dX5_strike_30 rfl (lv_at hl 0 rfl) ?_
    refine rr_geti hx hb hts hinX5 hown hK hW 25 (by decide) rfl rfl (hts (.fieldLink RX5 70 "SeaPostModel" "thrown" "I") (by decide +kernel)) dX5_strike_31 ?_
    refine lv_tope (congrArg nI (show σ_7 25 0 = 1 by rw [eσ_7, st_s])) ?_
    refine lv_if_eq (tgt := 39) hx hb dX5_strike_34 (by decide) (fun z => absurd z (by decide)) (fun _ => ?_)
    refine lv_iconst (v := nI 0) hx hb dX5_strike_37 (by decide) ?_
    exact rr_iret hx hb hr hlk (Nat.le_refl 0) (Nat.le_refl 0) hW (rP_x (show thK σ q d9 = 1 from by unfold thK; (repeat' split) <;> first | rfl | omega) (by decide) (by subst eσ_7; first | rfl | (rw [st_st]; done))) dX5_strike_38

set_option maxHeartbeats 4000000 in
set_option maxRecDepth 100000 in
theorem c5_isClosed (l : Launch) (G : mG) (ad : Nat → Nat) (σ : Sg) (q : Nat) (hq : q < 4294967296) (hB : RB σ) : cRi l yX5_isClosed wsX5_isClosed 2 G ad σ [.int (nI q)] (rPost (thI σ q) (if shut σ q then 1 else 0) (st σ 25 0 0) σ) := by
  intro M sz hR
  refine m_start cX5_isClosed 2 (some .boolean) (by decide) rfl (Nat.le_of_ble_eq_true rfl) ?_
  intro p e s m below meth c ls hx hb hr hml hown hlk hnm hts hK hsz hE hW hl
  have hA := mA_A (M := M) hsz
  have hl : lv_has ls 2 [(0, .ref (ad 0)), (1, .int (nI q))] := hl
  have hW := rW_start hR hW
  have hinX5 : ∀ w ∈ u_ws RX5 TX5 26, w ∈ wsX5_isClosed := (fun _ h => List.mem_cons_of_mem _ (List.mem_append_right _ h))
  obtain ⟨⟨h0, h8, hd⟩, h7, h3, h12, h45, h17, hl9, h23, h1921⟩ := id hB
  refine lv_aload_n hx hb dX5_isClosed_0 rfl (lv_at hl 0 rfl) ?_
  refine lv_iload_n hx hb dX5_isClosed_1 rfl (lv_at hl 1 rfl) ?_
  refine rk_S (As := [.int (nI q)]) (nL := 2) ⟨hx, hb, hml, hown, hts⟩ (c5_isPort l q hq) (va_cwS 1 hts gX5_isClosed_X5_isPort rfl rfl rfl (by decide +kernel) ⟨(Nat.le_of_ble_eq_true rfl), (Nat.le_of_ble_eq_true rfl)⟩) hK hE hW hA rfl hl.1 rfl (Nat.le_of_ble_eq_true rfl) dX5_isClosed_2 (Nat.zero_le _) (Nat.zero_le _) (fun H locs hW => ?_)
  refine nb_if_eq (tgt := 12) hx hb dX5_isClosed_5 (by decide) (fun c_1 => ?_) (fun c_1 => ?_)
  · skip
    refine lv_iconst (v := nI 1) hx hb dX5_isClosed_12 (by decide) ?_
    refine rr_puti (v := 1) hx hb hts hinX5 hown hK hW 25 (by decide) rfl rfl (hts (.fieldLink RX5 70 "SeaPostModel" "thrown" "I") (by decide +kernel)) rfl (by decide +kernel) dX5_isClosed_13 (fun H locs hW => ?_)
    obtain ⟨σ_2, eσ_2⟩ : ∃ z : Sg, z = st σ 25 0 1 := ⟨_, rfl⟩
    rw [← eσ_2] at hW
    refine lv_aload_n hx hb dX5_isClosed_16 rfl (lv_at hl 0 rfl) ?_
    refine rr_geti hx hb hts hinX5 hown hK hW 25 (by decide) rfl rfl (hts (.fieldLink RX5 70 "SeaPostModel" "thrown" "I") (by decide +kernel)) dX5_isClosed_17 ?_
    refine lv_tope (congrArg nI (show σ_2 25 0 = 1 by rw [eσ_2, st_s])) ?_
    refine lv_if_ne (tgt := 35) hx hb dX5_isClosed_20 (by decide) (fun _ => ?_) (fun z => absurd z (by decide))
    refine lv_iconst (v := nI 0) hx hb dX5_isClosed_35 (by decide) ?_
    exact rr_zret (v := nI 0) hx hb hr hlk (by first | rfl | exact mc_nb | (exact mc_nc (by omega))) (Nat.le_refl 0) (Nat.le_refl 0) hW (rP_x (show thI σ q = 1 from by unfold thI; (repeat' split) <;> first | rfl | omega) (by decide) (by subst eσ_2; first | rfl | (rw [st_st]; done))) dX5_isClosed_36
  · skip
    refine lv_iconst (v := nI 0) hx hb dX5_isClosed_8 (by decide) ?_
    refine lv_goto (tgt := 13) hx hb dX5_isClosed_9 (by decide) ?_
    refine rr_puti (v := 0) hx hb hts hinX5 hown hK hW 25 (by decide) rfl rfl (hts (.fieldLink RX5 70 "SeaPostModel" "thrown" "I") (by decide +kernel)) rfl (by decide +kernel) dX5_isClosed_13 (fun H locs hW => ?_)
    obtain ⟨σ_3, eσ_3⟩ : ∃ z : Sg, z = st σ 25 0 0 := ⟨_, rfl⟩
    rw [← eσ_3] at hW
    refine lv_aload_n hx hb dX5_isClosed_16 rfl (lv_at hl 0 rfl) ?_
    refine rr_geti hx hb hts hinX5 hown hK hW 25 (by decide) rfl rfl (hts (.fieldLink RX5 70 "SeaPostModel" "thrown" "I") (by decide +kernel)) dX5_isClosed_17 ?_
    refine lv_tope (congrArg nI (show σ_3 25 0 = 0 by rw [eσ_3, st_s])) ?_
    refine lv_if_ne (tgt := 35) hx hb dX5_isClosed_20 (by decide) (fun z => absurd (by decide) z) (fun _ => ?_)
    refine lv_aload_n hx hb dX5_isClosed_23 rfl (lv_at hl 0 rfl) ?_
    refine lv_iload_n hx hb dX5_isClosed_24 rfl (lv_at hl 1 rfl) ?_
    refine rk_Vi (As := [.int (nI q)]) (nL := 2) ⟨hx, hb, hml, hown, hts⟩ (c5_isShut l G ad σ_3 q (by omega) (by subst eσ_3; have := h23 q; exact Nat.le_trans this (by decide)) (by subst eσ_3; exact hd)) (cwV 1 hts gX5_isClosed_X5_isShut rfl rfl rfl (by decide +kernel) ⟨(Nat.le_of_ble_eq_true rfl), (Nat.le_of_ble_eq_true rfl)⟩) hK hE hW hA rfl hl.1 rfl (Nat.le_of_ble_eq_true rfl) dX5_isClosed_25 (Nat.zero_le _) (Nat.zero_le _) (fun r9 σ9 H locs hp_4 hW => ?_)
    obtain ⟨e91, e92⟩ := hp_4
    subst e91
    rw [e92] at hW
    clear e92
    refine nb_if_eq (tgt := 35) hx hb dX5_isClosed_28 (by decide) (fun c_5 => ?_) (fun c_5 => ?_)
    · skip
      refine lv_iconst (v := nI 0) hx hb dX5_isClosed_35 (by decide) ?_
      exact rr_zret (v := nI 0) hx hb hr hlk (by first | rfl | exact mc_nb | (exact mc_nc (by omega))) (Nat.le_refl 0) (Nat.le_refl 0) hW (rP_0 (show thI σ q = 0 from by unfold thI; (repeat' split) <;> first | rfl | omega) (by subst eσ_3; first | (rw [if_pos (by assumption)]; done) | (rw [if_neg (by assumption)]; done)) (by subst eσ_3; first | rfl | (rw [st_st]; rfl))) dX5_isClosed_36
    · skip
      refine lv_iconst (v := nI 1) hx hb dX5_isClosed_31 (by decide) ?_
      refine lv_goto (tgt := 36) hx hb dX5_isClosed_32 (by decide) ?_
      exact rr_zret (v := nI 1) hx hb hr hlk (by first | rfl | exact mc_nb | (exact mc_nc (by omega))) (Nat.le_refl 0) (Nat.le_refl 0) hW (rP_0 (show thI σ q = 0 from by unfold thI; (repeat' split) <;> first | rfl | omega) (by subst eσ_3; first | (rw [if_pos (by assumption)]; done) | (rw [if_neg (by assumption)]; done)) (by subst eσ_3; first | rfl | (rw [st_st]; rfl))) dX5_isClosed_36

set_option maxHeartbeats 4000000 in
set_option maxRecDepth 100000 in
theorem c5_today (l : Launch) (G : mG) (ad : Nat → Nat) (σ : Sg)   : cRi l yX5_today wsX5_today 0 G ad σ [] (fun r9 σ9 => r9 = nI (σ 24 0) ∧ σ9 = st σ 25 0 0) := by
  intro M sz hR
  refine m_start cX5_today 1 (some .int) (by decide) rfl (Nat.le_of_ble_eq_true rfl) ?_
  intro p e s m below meth c ls hx hb hr hml hown hlk hnm hts hK hsz hE hW hl
  have hA := mA_A (M := M) hsz
  have hl : lv_has ls 1 [(0, .ref (ad 0))] := hl
  have hW := rW_start hR hW
  have hinX5 : ∀ w ∈ u_ws RX5 TX5 26, w ∈ wsX5_today := (fun _ h => List.mem_cons_of_mem _ (List.mem_append_right _ h))
  refine lv_aload_n hx hb dX5_today_0 rfl (lv_at hl 0 rfl) ?_
  refine lv_iconst (v := nI 0) hx hb dX5_today_1 (by decide) ?_
  refine rr_puti (v := 0) hx hb hts hinX5 hown hK hW 25 (by decide) rfl rfl (hts (.fieldLink RX5 70 "SeaPostModel" "thrown" "I") (by decide +kernel)) rfl (by decide +kernel) dX5_today_2 (fun H locs hW => ?_)
  obtain ⟨σ_1, eσ_1⟩ : ∃ z : Sg, z = st σ 25 0 0 := ⟨_, rfl⟩
  rw [← eσ_1] at hW
  refine lv_aload_n hx hb dX5_today_5 rfl (lv_at hl 0 rfl) ?_
  refine rr_geti hx hb hts hinX5 hown hK hW 24 (by decide) rfl rfl (hts (.fieldLink RX5 92 "SeaPostModel" "today" "I") (by decide +kernel)) dX5_today_6 ?_
  refine lv_tope (congrArg nI (show σ_1 24 0 = σ 24 0 by rw [eσ_1, st_f (by decide)])) ?_
  exact rr_iret hx hb hr hlk (Nat.le_refl 0) (Nat.le_refl 0) hW ⟨rfl, by subst eσ_1; rfl⟩ dX5_today_9

set_option maxHeartbeats 4000000 in
set_option maxRecDepth 100000 in
theorem c5_letters (l : Launch) (G : mG) (ad : Nat → Nat) (σ : Sg)   : cRi l yX5_letters wsX5_letters 0 G ad σ [] (fun r9 σ9 => r9 = nI (σ 8 0) ∧ σ9 = st σ 25 0 0) := by
  intro M sz hR
  refine m_start cX5_letters 1 (some .int) (by decide) rfl (Nat.le_of_ble_eq_true rfl) ?_
  intro p e s m below meth c ls hx hb hr hml hown hlk hnm hts hK hsz hE hW hl
  have hA := mA_A (M := M) hsz
  have hl : lv_has ls 1 [(0, .ref (ad 0))] := hl
  have hW := rW_start hR hW
  have hinX5 : ∀ w ∈ u_ws RX5 TX5 26, w ∈ wsX5_letters := (fun _ h => List.mem_cons_of_mem _ (List.mem_append_right _ h))
  refine lv_aload_n hx hb dX5_letters_0 rfl (lv_at hl 0 rfl) ?_
  refine lv_iconst (v := nI 0) hx hb dX5_letters_1 (by decide) ?_
  refine rr_puti (v := 0) hx hb hts hinX5 hown hK hW 25 (by decide) rfl rfl (hts (.fieldLink RX5 70 "SeaPostModel" "thrown" "I") (by decide +kernel)) rfl (by decide +kernel) dX5_letters_2 (fun H locs hW => ?_)
  obtain ⟨σ_1, eσ_1⟩ : ∃ z : Sg, z = st σ 25 0 0 := ⟨_, rfl⟩
  rw [← eσ_1] at hW
  refine lv_aload_n hx hb dX5_letters_5 rfl (lv_at hl 0 rfl) ?_
  refine rr_geti hx hb hts hinX5 hown hK hW 8 (by decide) rfl rfl (hts (.fieldLink RX5 140 "SeaPostModel" "letters" "I") (by decide +kernel)) dX5_letters_6 ?_
  refine lv_tope (congrArg nI (show σ_1 8 0 = σ 8 0 by rw [eσ_1, st_f (by decide)])) ?_
  exact rr_iret hx hb hr hlk (Nat.le_refl 0) (Nat.le_refl 0) hW ⟨rfl, by subst eσ_1; rfl⟩ dX5_letters_9
