/-! THE REFERENCE'S METHODS, NINTH PART: the questions with loops (rows laid by my program gen/ref9.py) -/
theorem dvF_keep {σ : Sg} {u k n : Nat} (h : dvF σ u k n ≠ 4294967295) : ∀ d, dvF σ u k (n + d) = dvF σ u k n
  | 0 => rfl
  | d + 1 => by
    have ih := dvF_keep h d
    show (if dvF σ u k (n + d) ≠ 4294967295 then dvF σ u k (n + d) else _) = _
    rw [if_pos (by rw [ih]; exact h)]
    exact ih
theorem ptF_b {σ : Sg} {i : Nat} : ∀ n k, ptF σ i k n < n ∨ ptF σ i k n = 4294967295
  | 0, _ => Or.inr rfl
  | n + 1, k => by
    unfold ptF
    split
    · split
      · exact Or.inl (Nat.lt_succ_self n)
      · rcases ptF_b (σ := σ) (i := i) n (k - 1) with h | h
        · exact Or.inl (by omega)
        · exact Or.inr h
    · rcases ptF_b (σ := σ) (i := i) n k with h | h
      · exact Or.inl (by omega)
      · exact Or.inr h

set_option maxHeartbeats 4000000 in
set_option maxRecDepth 100000 in
theorem c5_overtaken (l : Launch) (G : mG) (ad : Nat → Nat) (σ : Sg) (i : Nat) (hi : i < 4294967296) (hI : IV σ) : cRi l yX5_overtaken wsX5_overtaken 2 G ad σ [.int (nI i)] (rPost (thL σ i) (ovS σ i) (st σ 25 0 0) σ) := by
  intro M sz hR
  refine m_start cX5_overtaken 5 (some .int) (by decide) rfl (Nat.le_of_ble_eq_true rfl) ?_
  intro p e s m below meth c ls hx hb hr hml hown hlk hnm hts hK hsz hE hW hl
  have hA := mA_A (M := M) hsz
  have hl : lv_has ls 5 [(0, .ref (ad 0)), (1, .int (nI i))] := hl
  have hW := rW_start hR hW
  have hinX5 : ∀ w ∈ u_ws RX5 TX5 26, w ∈ wsX5_overtaken := (fun _ h => List.mem_cons_of_mem _ (List.mem_append_right _ h))
  have hV := hI.1
  have hB := hV.b
  obtain ⟨⟨h0, h8, hd⟩, h7, h3, h12, h45, h17, hl9, h23, h1921⟩ := id hB
  have hi9 := hl9 i
  refine lv_iconst (v := nI 0) hx hb dX5_overtaken_0 (by decide) ?_
  refine lv_istore_n (lv' := [(2, .int (nI 0)), (0, .ref (ad 0)), (1, .int (nI i))]) hx hb dX5_overtaken_1 rfl hl (by decide) rfl (fun ls hl => ?_)
  refine lv_aload_n hx hb dX5_overtaken_2 rfl (lv_at hl 1 rfl) ?_
  refine lv_iload_n hx hb dX5_overtaken_3 rfl (lv_at hl 2 rfl) ?_
  refine rk_Vi (As := [.int (nI i)]) (nL := 5) ⟨hx, hb, hml, hown, hts⟩ (c5_isLetter l G ad σ i hi h8) (cwV 1 hts gX5_overtaken_X5_isLetter rfl rfl rfl (by decide +kernel) ⟨(Nat.le_of_ble_eq_true rfl), (Nat.le_of_ble_eq_true rfl)⟩) hK hE hW hA rfl hl.1 rfl (Nat.le_of_ble_eq_true rfl) dX5_overtaken_4 (Nat.zero_le _) (Nat.zero_le _) (fun r9 σ9 H locs hp_1 hW => ?_)
  obtain ⟨e91, e92⟩ := hp_1
  subst e91
  obtain ⟨σ_2, eσ_2⟩ : ∃ z : Sg, z = σ9 := ⟨_, rfl⟩
  rw [← eσ_2] at hW
  rw [e92] at eσ_2
  clear e92
  refine nb_if_eq (tgt := 24) hx hb dX5_overtaken_7 (by decide) (fun c_3 => ?_) (fun c_3 => ?_)
  · skip
    refine lv_iconst (v := nI 0) hx hb dX5_overtaken_24 (by decide) ?_
    refine lv_istore_n (lv' := [(3, .int (nI 0)), (2, .int (nI 0)), (0, .ref (ad 0)), (1, .int (nI i))]) hx hb dX5_overtaken_25 rfl hl (by decide) rfl (fun ls hl => ?_)
    refine lv_iconst (v := nI 0) hx hb dX5_overtaken_26 (by decide) ?_
    refine lv_istore (lv' := [(4, .int (nI 0)), (3, .int (nI 0)), (2, .int (nI 0)), (0, .ref (ad 0)), (1, .int (nI i))]) hx hb dX5_overtaken_27 hl (by decide) rfl (fun ls hl => ?_)
    refine lv_iload hx hb dX5_overtaken_29 (lv_at hl 0 rfl) ?_
    refine lv_iload_n hx hb dX5_overtaken_31 rfl (lv_at hl 4 rfl) ?_
    refine lv_icmp_ge (tgt := 96) hx hb dX5_overtaken_32 (by decide) (fun c_4 => ?_) (fun c_4 => ?_)
    · skip
      refine lv_iload_n hx hb dX5_overtaken_96 rfl (lv_at hl 2 rfl) ?_
      exact rr_iret hx hb hr hlk (Nat.le_refl 0) (Nat.le_refl 0) hW (by first | (exact rP_x (k := 1) (if_neg (by assumption)) (by decide) (by subst eσ_2; rw [show thL σ i = 1 from if_neg (by assumption)])) | (exact rP_0 (if_pos (by assumption)) (by unfold ovS; rw [if_neg (by omega)]) (by subst eσ_2; rw [show thL σ i = 0 from if_pos (by assumption)]))) dX5_overtaken_97
    · skip
      refine lv_iload_n hx hb dX5_overtaken_35 rfl (lv_at hl 1 rfl) ?_
      refine lv_if_eq (tgt := 96) hx hb dX5_overtaken_36 (by decide) (fun _ => ?_) (fun z => absurd (by decide) z)
      refine lv_iload_n hx hb dX5_overtaken_96 rfl (lv_at hl 2 rfl) ?_
      exact rr_iret hx hb hr hlk (Nat.le_refl 0) (Nat.le_refl 0) hW (by first | (exact rP_x (k := 1) (if_neg (by assumption)) (by decide) (by subst eσ_2; rw [show thL σ i = 1 from if_neg (by assumption)])) | (exact rP_0 (if_pos (by assumption)) (by unfold ovS; rw [if_neg (by omega)]) (by subst eσ_2; rw [show thL σ i = 0 from if_pos (by assumption)]))) dX5_overtaken_97
  · skip
    refine lv_aload_n hx hb dX5_overtaken_10 rfl (lv_at hl 1 rfl) ?_
    refine rr_geta hx hb hts hinX5 hown hK hW 12 (by decide) rfl rfl (hts (.fieldLink RX5 40 "SeaPostModel" "stateOf" "[I") (by decide +kernel)) dX5_overtaken_11 ?_
    refine lv_iload_n hx hb dX5_overtaken_14 rfl (lv_at hl 2 rfl) ?_
    refine rr_ald (j := i) hx hb hK hW 12 rfl rfl (show i < 40 by omega) dX5_overtaken_15 ?_
    refine lv_tope (congrArg nI (show σ_2 12 i = σ 12 i by rw [eσ_2, st_f (by decide)])) ?_
    refine lv_iconst (v := nI 1) hx hb dX5_overtaken_16 (by decide) ?_
    refine nv_icmp_ne (u := σ 12 i) (v := 1) (tgt := 24) hx hb dX5_overtaken_17 (by decide) (by omega) (by omega) (fun c_5 => ?_) (fun c_5 => ?_)
    · skip
      refine lv_iconst (v := nI 0) hx hb dX5_overtaken_24 (by decide) ?_
      refine lv_istore_n (lv' := [(3, .int (nI 0)), (2, .int (nI 0)), (0, .ref (ad 0)), (1, .int (nI i))]) hx hb dX5_overtaken_25 rfl hl (by decide) rfl (fun ls hl => ?_)
      refine lv_iconst (v := nI 0) hx hb dX5_overtaken_26 (by decide) ?_
      refine lv_istore (lv' := [(4, .int (nI 0)), (3, .int (nI 0)), (2, .int (nI 0)), (0, .ref (ad 0)), (1, .int (nI i))]) hx hb dX5_overtaken_27 hl (by decide) rfl (fun ls hl => ?_)
      refine lv_iload hx hb dX5_overtaken_29 (lv_at hl 0 rfl) ?_
      refine lv_iload_n hx hb dX5_overtaken_31 rfl (lv_at hl 4 rfl) ?_
      refine lv_icmp_ge (tgt := 96) hx hb dX5_overtaken_32 (by decide) (fun c_6 => ?_) (fun c_6 => ?_)
      · skip
        refine lv_iload_n hx hb dX5_overtaken_96 rfl (lv_at hl 2 rfl) ?_
        exact rr_iret hx hb hr hlk (Nat.le_refl 0) (Nat.le_refl 0) hW (by first | (exact rP_x (k := 1) (if_neg (by assumption)) (by decide) (by subst eσ_2; rw [show thL σ i = 1 from if_neg (by assumption)])) | (exact rP_0 (if_pos (by assumption)) (by unfold ovS; rw [if_neg (by omega)]) (by subst eσ_2; rw [show thL σ i = 0 from if_pos (by assumption)]))) dX5_overtaken_97
      · skip
        refine lv_iload_n hx hb dX5_overtaken_35 rfl (lv_at hl 1 rfl) ?_
        refine lv_if_eq (tgt := 96) hx hb dX5_overtaken_36 (by decide) (fun _ => ?_) (fun z => absurd (by decide) z)
        refine lv_iload_n hx hb dX5_overtaken_96 rfl (lv_at hl 2 rfl) ?_
        exact rr_iret hx hb hr hlk (Nat.le_refl 0) (Nat.le_refl 0) hW (by first | (exact rP_x (k := 1) (if_neg (by assumption)) (by decide) (by subst eσ_2; rw [show thL σ i = 1 from if_neg (by assumption)])) | (exact rP_0 (if_pos (by assumption)) (by unfold ovS; rw [if_neg (by omega)]) (by subst eσ_2; rw [show thL σ i = 0 from if_pos (by assumption)]))) dX5_overtaken_97
    · skip
      refine lv_iconst (v := nI 1) hx hb dX5_overtaken_20 (by decide) ?_
      refine lv_goto (tgt := 25) hx hb dX5_overtaken_21 (by decide) ?_
      refine lv_istore_n (lv' := [(3, .int (nI 1)), (2, .int (nI 0)), (0, .ref (ad 0)), (1, .int (nI i))]) hx hb dX5_overtaken_25 rfl hl (by decide) rfl (fun ls hl => ?_)
      refine lv_iconst (v := nI 0) hx hb dX5_overtaken_26 (by decide) ?_
      refine lv_istore (lv' := [(4, .int (nI 0)), (3, .int (nI 1)), (2, .int (nI 0)), (0, .ref (ad 0)), (1, .int (nI i))]) hx hb dX5_overtaken_27 hl (by decide) rfl (fun ls hl => ?_)
      refine m_loop i (fun n H locs ls => rW G ad (mA M sz) s.heap M σ_2 H locs ∧ lv_has ls 5 [(4, .int (nI n)), (3, .int (nI 1)), (2, .int (nI (ovF σ i n))), (0, .ref (ad 0)), (1, .int (nI i))]) 0 (Nat.zero_le _) ⟨hW, lv_sub hl [0, 1, 2, 3, 4] rfl⟩ (fun n H locs ls hn hI2 ih => ?_)
      obtain ⟨hW, hl⟩ := hI2
      have hn9 := hl9 n
      refine lv_iload hx hb dX5_overtaken_29 (lv_at hl 0 rfl) ?_
      refine lv_iload_n hx hb dX5_overtaken_31 rfl (lv_at hl 4 rfl) ?_
      refine nv_icmp_ge (u := n) (v := i) (tgt := 96) hx hb dX5_overtaken_32 (by decide) (by omega) (by omega) (fun c_7 => ?_) (fun c_7 => ?_)
      · skip
        refine lv_iload_n hx hb dX5_overtaken_96 rfl (lv_at hl 2 rfl) ?_
        exact rr_iret hx hb hr hlk (Nat.le_refl 0) (Nat.le_refl 0) hW (rP_0 (if_pos (by assumption)) (by unfold ovS; rw [if_pos (by omega), show n = i by omega]) (by subst eσ_2; rw [show thL σ i = 0 from if_pos (by assumption)])) dX5_overtaken_97
      · skip
        refine lv_iload_n hx hb dX5_overtaken_35 rfl (lv_at hl 1 rfl) ?_
        refine lv_if_eq (tgt := 96) hx hb dX5_overtaken_36 (by decide) (fun z => absurd z (by decide)) (fun _ => ?_)
        refine lv_iload_n hx hb dX5_overtaken_39 rfl (lv_at hl 2 rfl) ?_
        refine lv_aload_n hx hb dX5_overtaken_40 rfl (lv_at hl 3 rfl) ?_
        refine rr_geta hx hb hts hinX5 hown hK hW 9 (by decide) rfl rfl (hts (.fieldLink RX5 31 "SeaPostModel" "its" "[I") (by decide +kernel)) dX5_overtaken_41 ?_
        refine lv_iload hx hb dX5_overtaken_44 (lv_at hl 0 rfl) ?_
        refine rr_ald (j := n) hx hb hK hW 9 rfl rfl (show n < 40 by omega) dX5_overtaken_46 ?_
        refine lv_tope (congrArg nI (show σ_2 9 n = σ 9 n by rw [eσ_2, st_f (by decide)])) ?_
        refine lv_aload_n hx hb dX5_overtaken_47 rfl (lv_at hl 3 rfl) ?_
        refine rr_geta hx hb hts hinX5 hown hK hW 9 (by decide) rfl rfl (hts (.fieldLink RX5 31 "SeaPostModel" "its" "[I") (by decide +kernel)) dX5_overtaken_48 ?_
        refine lv_iload_n hx hb dX5_overtaken_51 rfl (lv_at hl 4 rfl) ?_
        refine rr_ald (j := i) hx hb hK hW 9 rfl rfl (show i < 40 by omega) dX5_overtaken_52 ?_
        refine lv_tope (congrArg nI (show σ_2 9 i = σ 9 i by rw [eσ_2, st_f (by decide)])) ?_
        refine nv_icmp_ne (u := σ 9 n) (v := σ 9 i) (tgt := 87) hx hb dX5_overtaken_53 (by decide) (by omega) (by omega) (fun c_8 => ?_) (fun c_8 => ?_)
        · skip
          refine lv_iconst (v := nI 0) hx hb dX5_overtaken_87 (by decide) ?_
          refine lv_iadd hx hb dX5_overtaken_88 (lv_tope (nI_add (ovF σ i n) 0) ?_)
          refine lv_tope (y := nI (ovF σ i (n + 1))) (congrArg nI (show ovF σ i n + 0 = ovF σ i (n + 1) by show _ = ovF σ i n + (if _ then 1 else 0); first | (rw [if_pos ⟨by omega, by omega, by omega⟩]; done) | (rw [if_neg (fun z => by obtain ⟨z1, z2, z3⟩ := z; omega)]; done))) ?_
          refine lv_istore_n (lv' := [(2, .int (nI (ovF σ i (n + 1)))), (4, .int (nI n)), (3, .int (nI 1)), (0, .ref (ad 0)), (1, .int (nI i))]) hx hb dX5_overtaken_89 rfl hl (by decide) rfl (fun ls hl => ?_)
          refine lv_iinc (v := nI (n + 1)) (lv' := [(4, .int (nI (n + 1))), (2, .int (nI (ovF σ i (n + 1)))), (3, .int (nI 1)), (0, .ref (ad 0)), (1, .int (nI i))]) hx hb dX5_overtaken_90 hl (k := 1) rfl (by rw [show (Int32.ofInt 1) = nI 1 by decide, nI_add]) (by decide) rfl (fun ls hl => ?_)
          refine lv_goto (tgt := 29) hx hb dX5_overtaken_93 (by decide) ?_
          exact ih _ _ _ (by omega) ⟨hW, lv_sub hl [0, 2, 1, 3, 4] rfl⟩
        · skip
          refine lv_aload_n hx hb dX5_overtaken_56 rfl (lv_at hl 3 rfl) ?_
          refine rr_geta hx hb hts hinX5 hown hK hW 12 (by decide) rfl rfl (hts (.fieldLink RX5 40 "SeaPostModel" "stateOf" "[I") (by decide +kernel)) dX5_overtaken_57 ?_
          refine lv_iload hx hb dX5_overtaken_60 (lv_at hl 0 rfl) ?_
          refine rr_ald (j := n) hx hb hK hW 12 rfl rfl (show n < 40 by omega) dX5_overtaken_62 ?_
          refine lv_tope (congrArg nI (show σ_2 12 n = σ 12 n by rw [eσ_2, st_f (by decide)])) ?_
          refine lv_iconst (v := nI 1) hx hb dX5_overtaken_63 (by decide) ?_
          refine nv_icmp_ne (u := σ 12 n) (v := 1) (tgt := 87) hx hb dX5_overtaken_64 (by decide) (by omega) (by omega) (fun c_9 => ?_) (fun c_9 => ?_)
          · skip
            refine lv_iconst (v := nI 0) hx hb dX5_overtaken_87 (by decide) ?_
            refine lv_iadd hx hb dX5_overtaken_88 (lv_tope (nI_add (ovF σ i n) 0) ?_)
            refine lv_tope (y := nI (ovF σ i (n + 1))) (congrArg nI (show ovF σ i n + 0 = ovF σ i (n + 1) by show _ = ovF σ i n + (if _ then 1 else 0); first | (rw [if_pos ⟨by omega, by omega, by omega⟩]; done) | (rw [if_neg (fun z => by obtain ⟨z1, z2, z3⟩ := z; omega)]; done))) ?_
            refine lv_istore_n (lv' := [(2, .int (nI (ovF σ i (n + 1)))), (4, .int (nI n)), (3, .int (nI 1)), (0, .ref (ad 0)), (1, .int (nI i))]) hx hb dX5_overtaken_89 rfl hl (by decide) rfl (fun ls hl => ?_)
            refine lv_iinc (v := nI (n + 1)) (lv' := [(4, .int (nI (n + 1))), (2, .int (nI (ovF σ i (n + 1)))), (3, .int (nI 1)), (0, .ref (ad 0)), (1, .int (nI i))]) hx hb dX5_overtaken_90 hl (k := 1) rfl (by rw [show (Int32.ofInt 1) = nI 1 by decide, nI_add]) (by decide) rfl (fun ls hl => ?_)
            refine lv_goto (tgt := 29) hx hb dX5_overtaken_93 (by decide) ?_
            exact ih _ _ _ (by omega) ⟨hW, lv_sub hl [0, 2, 1, 3, 4] rfl⟩
          · skip
            refine lv_aload_n hx hb dX5_overtaken_67 rfl (lv_at hl 3 rfl) ?_
            refine rr_geta hx hb hts hinX5 hown hK hW 16 (by decide) rfl rfl (hts (.fieldLink RX5 52 "SeaPostModel" "deliveredOn" "[I") (by decide +kernel)) dX5_overtaken_68 ?_
            refine lv_iload_n hx hb dX5_overtaken_71 rfl (lv_at hl 4 rfl) ?_
            refine rr_ald (j := i) hx hb hK hW 16 rfl rfl (show i < 40 by omega) dX5_overtaken_72 ?_
            refine lv_tope (congrArg nI (show σ_2 16 i = σ 16 i by rw [eσ_2, st_f (by decide)])) ?_
            refine lv_aload_n hx hb dX5_overtaken_73 rfl (lv_at hl 3 rfl) ?_
            refine rr_geta hx hb hts hinX5 hown hK hW 16 (by decide) rfl rfl (hts (.fieldLink RX5 52 "SeaPostModel" "deliveredOn" "[I") (by decide +kernel)) dX5_overtaken_74 ?_
            refine lv_iload hx hb dX5_overtaken_77 (lv_at hl 0 rfl) ?_
            refine rr_ald (j := n) hx hb hK hW 16 rfl rfl (show n < 40 by omega) dX5_overtaken_79 ?_
            refine lv_tope (congrArg nI (show σ_2 16 n = σ 16 n by rw [eσ_2, st_f (by decide)])) ?_
            refine nv_icmp_ge (u := σ 16 i) (v := σ 16 n) (tgt := 87) hx hb dX5_overtaken_80 (by decide) (by omega) (by omega) (fun c_10 => ?_) (fun c_10 => ?_)
            · skip
              refine lv_iconst (v := nI 0) hx hb dX5_overtaken_87 (by decide) ?_
              refine lv_iadd hx hb dX5_overtaken_88 (lv_tope (nI_add (ovF σ i n) 0) ?_)
              refine lv_tope (y := nI (ovF σ i (n + 1))) (congrArg nI (show ovF σ i n + 0 = ovF σ i (n + 1) by show _ = ovF σ i n + (if _ then 1 else 0); first | (rw [if_pos ⟨by omega, by omega, by omega⟩]; done) | (rw [if_neg (fun z => by obtain ⟨z1, z2, z3⟩ := z; omega)]; done))) ?_
              refine lv_istore_n (lv' := [(2, .int (nI (ovF σ i (n + 1)))), (4, .int (nI n)), (3, .int (nI 1)), (0, .ref (ad 0)), (1, .int (nI i))]) hx hb dX5_overtaken_89 rfl hl (by decide) rfl (fun ls hl => ?_)
              refine lv_iinc (v := nI (n + 1)) (lv' := [(4, .int (nI (n + 1))), (2, .int (nI (ovF σ i (n + 1)))), (3, .int (nI 1)), (0, .ref (ad 0)), (1, .int (nI i))]) hx hb dX5_overtaken_90 hl (k := 1) rfl (by rw [show (Int32.ofInt 1) = nI 1 by decide, nI_add]) (by decide) rfl (fun ls hl => ?_)
              refine lv_goto (tgt := 29) hx hb dX5_overtaken_93 (by decide) ?_
              exact ih _ _ _ (by omega) ⟨hW, lv_sub hl [0, 2, 1, 3, 4] rfl⟩
            · skip
              refine lv_iconst (v := nI 1) hx hb dX5_overtaken_83 (by decide) ?_
              refine lv_goto (tgt := 88) hx hb dX5_overtaken_84 (by decide) ?_
              refine lv_iadd hx hb dX5_overtaken_88 (lv_tope (nI_add (ovF σ i n) 1) ?_)
              refine lv_tope (y := nI (ovF σ i (n + 1))) (congrArg nI (show ovF σ i n + 1 = ovF σ i (n + 1) by show _ = ovF σ i n + (if _ then 1 else 0); first | (rw [if_pos ⟨by omega, by omega, by omega⟩]; done) | (rw [if_neg (fun z => by obtain ⟨z1, z2, z3⟩ := z; omega)]; done))) ?_
              refine lv_istore_n (lv' := [(2, .int (nI (ovF σ i (n + 1)))), (4, .int (nI n)), (3, .int (nI 1)), (0, .ref (ad 0)), (1, .int (nI i))]) hx hb dX5_overtaken_89 rfl hl (by decide) rfl (fun ls hl => ?_)
              refine lv_iinc (v := nI (n + 1)) (lv' := [(4, .int (nI (n + 1))), (2, .int (nI (ovF σ i (n + 1)))), (3, .int (nI 1)), (0, .ref (ad 0)), (1, .int (nI i))]) hx hb dX5_overtaken_90 hl (k := 1) rfl (by rw [show (Int32.ofInt 1) = nI 1 by decide, nI_add]) (by decide) rfl (fun ls hl => ?_)
              refine lv_goto (tgt := 29) hx hb dX5_overtaken_93 (by decide) ?_
              exact ih _ _ _ (by omega) ⟨hW, lv_sub hl [0, 2, 1, 3, 4] rfl⟩

set_option maxHeartbeats 4000000 in
set_option maxRecDepth 100000 in
theorem c5_lying (l : Launch) (G : mG) (ad : Nat → Nat) (σ : Sg) (q : Nat) (hq : q < 4294967296) (hI : IV σ) : cRi l yX5_lying wsX5_lying 2 G ad σ [.int (nI q)] (rPost (thI σ q) (lyF σ q (σ 8 0)) (st σ 25 0 0) σ) := by
  intro M sz hR
  refine m_start cX5_lying 5 (some .int) (by decide) rfl (Nat.le_of_ble_eq_true rfl) ?_
  intro p e s m below meth c ls hx hb hr hml hown hlk hnm hts hK hsz hE hW hl
  have hA := mA_A (M := M) hsz
  have hl : lv_has ls 5 [(0, .ref (ad 0)), (1, .int (nI q))] := hl
  have hW := rW_start hR hW
  have hinX5 : ∀ w ∈ u_ws RX5 TX5 26, w ∈ wsX5_lying := (fun _ h => List.mem_cons_of_mem _ (List.mem_append_right _ h))
  have hV := hI.1
  have hB := hV.b
  obtain ⟨⟨h0, h8, hd⟩, h7, h3, h12, h45, h17, hl9, h23, h1921⟩ := id hB
  refine lv_aload_n hx hb dX5_lying_0 rfl (lv_at hl 0 rfl) ?_
  refine lv_iload_n hx hb dX5_lying_1 rfl (lv_at hl 1 rfl) ?_
  refine rk_S (As := [.int (nI q)]) (nL := 5) ⟨hx, hb, hml, hown, hts⟩ (c5_isPort l q hq) (va_cwS 1 hts gX5_lying_X5_isPort rfl rfl rfl (by decide +kernel) ⟨(Nat.le_of_ble_eq_true rfl), (Nat.le_of_ble_eq_true rfl)⟩) hK hE hW hA rfl hl.1 rfl (Nat.le_of_ble_eq_true rfl) dX5_lying_2 (Nat.zero_le _) (Nat.zero_le _) (fun H locs hW => ?_)
  refine nb_if_eq (tgt := 12) hx hb dX5_lying_5 (by decide) (fun c_1 => ?_) (fun c_1 => ?_)
  · skip
    refine lv_iconst (v := nI 1) hx hb dX5_lying_12 (by decide) ?_
    refine rr_puti (v := 1) hx hb hts hinX5 hown hK hW 25 (by decide) rfl rfl (hts (.fieldLink RX5 70 "SeaPostModel" "thrown" "I") (by decide +kernel)) rfl (by decide +kernel) dX5_lying_13 (fun H locs hW => ?_)
    obtain ⟨σ_2, eσ_2⟩ : ∃ z : Sg, z = st σ 25 0 1 := ⟨_, rfl⟩
    rw [← eσ_2] at hW
    refine lv_iconst (v := nI 0) hx hb dX5_lying_16 (by decide) ?_
    refine lv_istore_n (lv' := [(2, .int (nI 0)), (0, .ref (ad 0)), (1, .int (nI q))]) hx hb dX5_lying_17 rfl hl (by decide) rfl (fun ls hl => ?_)
    refine lv_iconst (v := nI 0) hx hb dX5_lying_18 (by decide) ?_
    refine lv_istore_n (lv' := [(3, .int (nI 0)), (2, .int (nI 0)), (0, .ref (ad 0)), (1, .int (nI q))]) hx hb dX5_lying_19 rfl hl (by decide) rfl (fun ls hl => ?_)
    refine m_loop (σ 8 0) (fun n H locs ls => rW G ad (mA M sz) s.heap M σ_2 H locs ∧ lv_has ls 5 [(3, .int (nI n)), (2, .int (nI 0)), (0, .ref (ad 0)), (1, .int (nI q))]) 0 (Nat.zero_le _) ⟨hW, lv_sub hl [0, 1, 2, 3] rfl⟩ (fun n H locs ls hn hI2 ih => ?_)
    obtain ⟨hW, hl⟩ := hI2
    have hn9 := hl9 n
    refine lv_iload_n hx hb dX5_lying_20 rfl (lv_at hl 0 rfl) ?_
    refine lv_aload_n hx hb dX5_lying_21 rfl (lv_at hl 2 rfl) ?_
    refine rr_geti hx hb hts hinX5 hown hK hW 8 (by decide) rfl rfl (hts (.fieldLink RX5 140 "SeaPostModel" "letters" "I") (by decide +kernel)) dX5_lying_22 ?_
    refine lv_tope (congrArg nI (show σ_2 8 0 = σ 8 0 by rw [eσ_2, st_f (by decide)])) ?_
    refine nv_icmp_ge (u := n) (v := σ 8 0) (tgt := 100) hx hb dX5_lying_25 (by decide) (by omega) (by omega) (fun c_3 => ?_) (fun c_3 => ?_)
    · skip
      refine lv_iload_n hx hb dX5_lying_100 rfl (lv_at hl 1 rfl) ?_
      exact rr_iret hx hb hr hlk (Nat.le_refl 0) (Nat.le_refl 0) hW (rP_x (show thI σ q = 1 from by unfold thI; (repeat' split) <;> first | rfl | omega) (by decide) (by subst eσ_2; first | rfl | (rw [st_st]; done))) dX5_lying_101
    · skip
      refine lv_aload_n hx hb dX5_lying_28 rfl (lv_at hl 2 rfl) ?_
      refine rr_geta hx hb hts hinX5 hown hK hW 12 (by decide) rfl rfl (hts (.fieldLink RX5 40 "SeaPostModel" "stateOf" "[I") (by decide +kernel)) dX5_lying_29 ?_
      refine lv_iload_n hx hb dX5_lying_32 rfl (lv_at hl 0 rfl) ?_
      refine rr_ald (j := n) hx hb hK hW 12 rfl rfl (show n < 40 by omega) dX5_lying_33 ?_
      refine lv_tope (congrArg nI (show σ_2 12 n = σ 12 n by rw [eσ_2, st_f (by decide)])) ?_
      refine m_joinI (g' := F0 m 62 ls [.int (nI (if lies σ n then 1 else 0))]) (fun H locs => rW G ad (mA M sz) s.heap M σ_2 H locs) (fun H locs hW => ?_) (fun J => ?_)
      · skip
        refine lv_istore (lv' := [(4, .int (nI (if lies σ n then 1 else 0))), (3, .int (nI n)), (2, .int (nI 0)), (0, .ref (ad 0)), (1, .int (nI q))]) hx hb dX5_lying_62 hl (by decide) rfl (fun ls hl => ?_)
        refine lv_iload_n hx hb dX5_lying_64 rfl (lv_at hl 2 rfl) ?_
        refine lv_iload hx hb dX5_lying_65 (lv_at hl 0 rfl) ?_
        refine nb_if_eq (tgt := 91) hx hb dX5_lying_67 (by decide) (fun c_4 => ?_) (fun c_4 => ?_)
        · skip
          refine lv_iconst (v := nI 0) hx hb dX5_lying_91 (by decide) ?_
          refine lv_iadd hx hb dX5_lying_92 (lv_tope (nI_add 0 0) ?_)
          refine lv_tope (y := nI 0) rfl ?_
          refine lv_istore_n (lv' := [(2, .int (nI 0)), (4, .int (nI (if lies σ n then 1 else 0))), (3, .int (nI n)), (0, .ref (ad 0)), (1, .int (nI q))]) hx hb dX5_lying_93 rfl hl (by decide) rfl (fun ls hl => ?_)
          refine lv_iinc (v := nI (n + 1)) (lv' := [(3, .int (nI (n + 1))), (2, .int (nI 0)), (4, .int (nI (if lies σ n then 1 else 0))), (0, .ref (ad 0)), (1, .int (nI q))]) hx hb dX5_lying_94 hl (k := 2) rfl (by rw [show (Int32.ofInt 1) = nI 1 by decide, nI_add]) (by decide) rfl (fun ls hl => ?_)
          refine lv_goto (tgt := 20) hx hb dX5_lying_97 (by decide) ?_
          exact ih _ _ _ (by omega) ⟨hW, lv_sub hl [0, 1, 3, 4] rfl⟩
        · skip
          refine lv_aload_n hx hb dX5_lying_70 rfl (lv_at hl 3 rfl) ?_
          refine rr_geta hx hb hts hinX5 hown hK hW 13 (by decide) rfl rfl (hts (.fieldLink RX5 43 "SeaPostModel" "portOf" "[I") (by decide +kernel)) dX5_lying_71 ?_
          refine lv_iload_n hx hb dX5_lying_74 rfl (lv_at hl 1 rfl) ?_
          refine rr_ald (j := n) hx hb hK hW 13 rfl rfl (show n < 40 by omega) dX5_lying_75 ?_
          refine lv_tope (congrArg nI (show σ_2 13 n = σ 13 n by rw [eσ_2, st_f (by decide)])) ?_
          refine lv_iload_n hx hb dX5_lying_76 rfl (lv_at hl 4 rfl) ?_
          refine nv_icmp_ne (u := σ 13 n) (v := q) (tgt := 91) hx hb dX5_lying_77 (by decide) (by omega) (by omega) (fun c_5 => ?_) (fun c_5 => ?_)
          · skip
            refine lv_iconst (v := nI 0) hx hb dX5_lying_91 (by decide) ?_
            refine lv_iadd hx hb dX5_lying_92 (lv_tope (nI_add 0 0) ?_)
            refine lv_tope (y := nI 0) rfl ?_
            refine lv_istore_n (lv' := [(2, .int (nI 0)), (4, .int (nI (if lies σ n then 1 else 0))), (3, .int (nI n)), (0, .ref (ad 0)), (1, .int (nI q))]) hx hb dX5_lying_93 rfl hl (by decide) rfl (fun ls hl => ?_)
            refine lv_iinc (v := nI (n + 1)) (lv' := [(3, .int (nI (n + 1))), (2, .int (nI 0)), (4, .int (nI (if lies σ n then 1 else 0))), (0, .ref (ad 0)), (1, .int (nI q))]) hx hb dX5_lying_94 hl (k := 2) rfl (by rw [show (Int32.ofInt 1) = nI 1 by decide, nI_add]) (by decide) rfl (fun ls hl => ?_)
            refine lv_goto (tgt := 20) hx hb dX5_lying_97 (by decide) ?_
            exact ih _ _ _ (by omega) ⟨hW, lv_sub hl [0, 1, 3, 4] rfl⟩
          · skip
            refine lv_aload_n hx hb dX5_lying_80 rfl (lv_at hl 3 rfl) ?_
            refine rr_geti hx hb hts hinX5 hown hK hW 25 (by decide) rfl rfl (hts (.fieldLink RX5 70 "SeaPostModel" "thrown" "I") (by decide +kernel)) dX5_lying_81 ?_
            refine lv_tope (congrArg nI (show σ_2 25 0 = 1 by rw [eσ_2, st_s])) ?_
            refine lv_if_ne (tgt := 91) hx hb dX5_lying_84 (by decide) (fun _ => ?_) (fun z => absurd z (by decide))
            refine lv_iconst (v := nI 0) hx hb dX5_lying_91 (by decide) ?_
            refine lv_iadd hx hb dX5_lying_92 (lv_tope (nI_add 0 0) ?_)
            refine lv_tope (y := nI 0) rfl ?_
            refine lv_istore_n (lv' := [(2, .int (nI 0)), (4, .int (nI (if lies σ n then 1 else 0))), (3, .int (nI n)), (0, .ref (ad 0)), (1, .int (nI q))]) hx hb dX5_lying_93 rfl hl (by decide) rfl (fun ls hl => ?_)
            refine lv_iinc (v := nI (n + 1)) (lv' := [(3, .int (nI (n + 1))), (2, .int (nI 0)), (4, .int (nI (if lies σ n then 1 else 0))), (0, .ref (ad 0)), (1, .int (nI q))]) hx hb dX5_lying_94 hl (k := 2) rfl (by rw [show (Int32.ofInt 1) = nI 1 by decide, nI_add]) (by decide) rfl (fun ls hl => ?_)
            refine lv_goto (tgt := 20) hx hb dX5_lying_97 (by decide) ?_
            exact ih _ _ _ (by omega) ⟨hW, lv_sub hl [0, 1, 3, 4] rfl⟩
      · skip
        refine nv_if_eq (tgt := 57) hx hb dX5_lying_34 (by decide) (by omega) (fun c_6 => ?_) (fun c_6 => ?_)
        · skip
          refine lv_iconst (v := nI 1) hx hb dX5_lying_57 (by decide) ?_
          refine lv_goto (tgt := 62) hx hb dX5_lying_58 (by decide) ?_
          exact lv_tope (congrArg nI (show 1 = (if lies σ n then 1 else 0) by first | (rw [if_pos (show lies σ n by unfold lies; omega)]) | (rw [if_neg (show ¬ lies σ n by unfold lies; omega)]))) (J _ _ hW)
        · skip
          refine lv_aload_n hx hb dX5_lying_37 rfl (lv_at hl 2 rfl) ?_
          refine rr_geta hx hb hts hinX5 hown hK hW 12 (by decide) rfl rfl (hts (.fieldLink RX5 40 "SeaPostModel" "stateOf" "[I") (by decide +kernel)) dX5_lying_38 ?_
          refine lv_iload_n hx hb dX5_lying_41 rfl (lv_at hl 0 rfl) ?_
          refine rr_ald (j := n) hx hb hK hW 12 rfl rfl (show n < 40 by omega) dX5_lying_42 ?_
          refine lv_tope (congrArg nI (show σ_2 12 n = σ 12 n by rw [eσ_2, st_f (by decide)])) ?_
          refine lv_iconst (v := nI 2) hx hb dX5_lying_43 (by decide) ?_
          refine nv_icmp_eq (u := σ 12 n) (v := 2) (tgt := 57) hx hb dX5_lying_44 (by decide) (by omega) (by omega) (fun c_7 => ?_) (fun c_7 => ?_)
          · skip
            refine lv_iconst (v := nI 1) hx hb dX5_lying_57 (by decide) ?_
            refine lv_goto (tgt := 62) hx hb dX5_lying_58 (by decide) ?_
            exact lv_tope (congrArg nI (show 1 = (if lies σ n then 1 else 0) by first | (rw [if_pos (show lies σ n by unfold lies; omega)]) | (rw [if_neg (show ¬ lies σ n by unfold lies; omega)]))) (J _ _ hW)
          · skip
            refine lv_aload_n hx hb dX5_lying_47 rfl (lv_at hl 2 rfl) ?_
            refine rr_geta hx hb hts hinX5 hown hK hW 12 (by decide) rfl rfl (hts (.fieldLink RX5 40 "SeaPostModel" "stateOf" "[I") (by decide +kernel)) dX5_lying_48 ?_
            refine lv_iload_n hx hb dX5_lying_51 rfl (lv_at hl 0 rfl) ?_
            refine rr_ald (j := n) hx hb hK hW 12 rfl rfl (show n < 40 by omega) dX5_lying_52 ?_
            refine lv_tope (congrArg nI (show σ_2 12 n = σ 12 n by rw [eσ_2, st_f (by decide)])) ?_
            refine lv_iconst (v := nI 4) hx hb dX5_lying_53 (by decide) ?_
            refine nv_icmp_ne (u := σ 12 n) (v := 4) (tgt := 61) hx hb dX5_lying_54 (by decide) (by omega) (by omega) (fun c_8 => ?_) (fun c_8 => ?_)
            · skip
              refine lv_iconst (v := nI 0) hx hb dX5_lying_61 (by decide) ?_
              exact lv_tope (congrArg nI (show 0 = (if lies σ n then 1 else 0) by first | (rw [if_pos (show lies σ n by unfold lies; omega)]) | (rw [if_neg (show ¬ lies σ n by unfold lies; omega)]))) (J _ _ hW)
            · skip
              refine lv_iconst (v := nI 1) hx hb dX5_lying_57 (by decide) ?_
              refine lv_goto (tgt := 62) hx hb dX5_lying_58 (by decide) ?_
              exact lv_tope (congrArg nI (show 1 = (if lies σ n then 1 else 0) by first | (rw [if_pos (show lies σ n by unfold lies; omega)]) | (rw [if_neg (show ¬ lies σ n by unfold lies; omega)]))) (J _ _ hW)
  · skip
    refine lv_iconst (v := nI 0) hx hb dX5_lying_8 (by decide) ?_
    refine lv_goto (tgt := 13) hx hb dX5_lying_9 (by decide) ?_
    refine rr_puti (v := 0) hx hb hts hinX5 hown hK hW 25 (by decide) rfl rfl (hts (.fieldLink RX5 70 "SeaPostModel" "thrown" "I") (by decide +kernel)) rfl (by decide +kernel) dX5_lying_13 (fun H locs hW => ?_)
    obtain ⟨σ_9, eσ_9⟩ : ∃ z : Sg, z = st σ 25 0 0 := ⟨_, rfl⟩
    rw [← eσ_9] at hW
    refine lv_iconst (v := nI 0) hx hb dX5_lying_16 (by decide) ?_
    refine lv_istore_n (lv' := [(2, .int (nI 0)), (0, .ref (ad 0)), (1, .int (nI q))]) hx hb dX5_lying_17 rfl hl (by decide) rfl (fun ls hl => ?_)
    refine lv_iconst (v := nI 0) hx hb dX5_lying_18 (by decide) ?_
    refine lv_istore_n (lv' := [(3, .int (nI 0)), (2, .int (nI 0)), (0, .ref (ad 0)), (1, .int (nI q))]) hx hb dX5_lying_19 rfl hl (by decide) rfl (fun ls hl => ?_)
    refine m_loop (σ 8 0) (fun n H locs ls => rW G ad (mA M sz) s.heap M σ_9 H locs ∧ lv_has ls 5 [(3, .int (nI n)), (2, .int (nI (lyF σ q n))), (0, .ref (ad 0)), (1, .int (nI q))]) 0 (Nat.zero_le _) ⟨hW, lv_sub hl [0, 1, 2, 3] rfl⟩ (fun n H locs ls hn hI2 ih => ?_)
    obtain ⟨hW, hl⟩ := hI2
    have hn9 := hl9 n
    refine lv_iload_n hx hb dX5_lying_20 rfl (lv_at hl 0 rfl) ?_
    refine lv_aload_n hx hb dX5_lying_21 rfl (lv_at hl 2 rfl) ?_
    refine rr_geti hx hb hts hinX5 hown hK hW 8 (by decide) rfl rfl (hts (.fieldLink RX5 140 "SeaPostModel" "letters" "I") (by decide +kernel)) dX5_lying_22 ?_
    refine lv_tope (congrArg nI (show σ_9 8 0 = σ 8 0 by rw [eσ_9, st_f (by decide)])) ?_
    refine nv_icmp_ge (u := n) (v := σ 8 0) (tgt := 100) hx hb dX5_lying_25 (by decide) (by omega) (by omega) (fun c_10 => ?_) (fun c_10 => ?_)
    · skip
      refine lv_iload_n hx hb dX5_lying_100 rfl (lv_at hl 1 rfl) ?_
      exact rr_iret hx hb hr hlk (Nat.le_refl 0) (Nat.le_refl 0) hW (rP_0 (show thI σ q = 0 from by unfold thI; (repeat' split) <;> first | rfl | omega) (by rw [show n = σ 8 0 by omega]) (by subst eσ_9; first | rfl | (rw [st_st]; rfl))) dX5_lying_101
    · skip
      refine lv_aload_n hx hb dX5_lying_28 rfl (lv_at hl 2 rfl) ?_
      refine rr_geta hx hb hts hinX5 hown hK hW 12 (by decide) rfl rfl (hts (.fieldLink RX5 40 "SeaPostModel" "stateOf" "[I") (by decide +kernel)) dX5_lying_29 ?_
      refine lv_iload_n hx hb dX5_lying_32 rfl (lv_at hl 0 rfl) ?_
      refine rr_ald (j := n) hx hb hK hW 12 rfl rfl (show n < 40 by omega) dX5_lying_33 ?_
      refine lv_tope (congrArg nI (show σ_9 12 n = σ 12 n by rw [eσ_9, st_f (by decide)])) ?_
      refine m_joinI (g' := F0 m 62 ls [.int (nI (if lies σ n then 1 else 0))]) (fun H locs => rW G ad (mA M sz) s.heap M σ_9 H locs) (fun H locs hW => ?_) (fun J => ?_)
      · skip
        refine lv_istore (lv' := [(4, .int (nI (if lies σ n then 1 else 0))), (3, .int (nI n)), (2, .int (nI (lyF σ q n))), (0, .ref (ad 0)), (1, .int (nI q))]) hx hb dX5_lying_62 hl (by decide) rfl (fun ls hl => ?_)
        refine lv_iload_n hx hb dX5_lying_64 rfl (lv_at hl 2 rfl) ?_
        refine lv_iload hx hb dX5_lying_65 (lv_at hl 0 rfl) ?_
        refine nb_if_eq (tgt := 91) hx hb dX5_lying_67 (by decide) (fun c_11 => ?_) (fun c_11 => ?_)
        · skip
          refine lv_iconst (v := nI 0) hx hb dX5_lying_91 (by decide) ?_
          refine lv_iadd hx hb dX5_lying_92 (lv_tope (nI_add (lyF σ q n) 0) ?_)
          refine lv_tope (y := nI (lyF σ q (n + 1))) (congrArg nI (show lyF σ q n + 0 = lyF σ q (n + 1) by show _ = lyF σ q n + (if _ then 1 else 0); first | (rw [if_pos ⟨by assumption, by omega⟩]; done) | (rw [if_neg (fun z => by obtain ⟨z1, z2⟩ := z; first | omega | exact absurd z1 (by assumption))]; done))) ?_
          refine lv_istore_n (lv' := [(2, .int (nI (lyF σ q (n + 1)))), (4, .int (nI (if lies σ n then 1 else 0))), (3, .int (nI n)), (0, .ref (ad 0)), (1, .int (nI q))]) hx hb dX5_lying_93 rfl hl (by decide) rfl (fun ls hl => ?_)
          refine lv_iinc (v := nI (n + 1)) (lv' := [(3, .int (nI (n + 1))), (2, .int (nI (lyF σ q (n + 1)))), (4, .int (nI (if lies σ n then 1 else 0))), (0, .ref (ad 0)), (1, .int (nI q))]) hx hb dX5_lying_94 hl (k := 2) rfl (by rw [show (Int32.ofInt 1) = nI 1 by decide, nI_add]) (by decide) rfl (fun ls hl => ?_)
          refine lv_goto (tgt := 20) hx hb dX5_lying_97 (by decide) ?_
          exact ih _ _ _ (by omega) ⟨hW, lv_sub hl [0, 1, 3, 4] rfl⟩
        · skip
          refine lv_aload_n hx hb dX5_lying_70 rfl (lv_at hl 3 rfl) ?_
          refine rr_geta hx hb hts hinX5 hown hK hW 13 (by decide) rfl rfl (hts (.fieldLink RX5 43 "SeaPostModel" "portOf" "[I") (by decide +kernel)) dX5_lying_71 ?_
          refine lv_iload_n hx hb dX5_lying_74 rfl (lv_at hl 1 rfl) ?_
          refine rr_ald (j := n) hx hb hK hW 13 rfl rfl (show n < 40 by omega) dX5_lying_75 ?_
          refine lv_tope (congrArg nI (show σ_9 13 n = σ 13 n by rw [eσ_9, st_f (by decide)])) ?_
          refine lv_iload_n hx hb dX5_lying_76 rfl (lv_at hl 4 rfl) ?_
          refine nv_icmp_ne (u := σ 13 n) (v := q) (tgt := 91) hx hb dX5_lying_77 (by decide) (by omega) (by omega) (fun c_12 => ?_) (fun c_12 => ?_)
          · skip
            refine lv_iconst (v := nI 0) hx hb dX5_lying_91 (by decide) ?_
            refine lv_iadd hx hb dX5_lying_92 (lv_tope (nI_add (lyF σ q n) 0) ?_)
            refine lv_tope (y := nI (lyF σ q (n + 1))) (congrArg nI (show lyF σ q n + 0 = lyF σ q (n + 1) by show _ = lyF σ q n + (if _ then 1 else 0); first | (rw [if_pos ⟨by assumption, by omega⟩]; done) | (rw [if_neg (fun z => by obtain ⟨z1, z2⟩ := z; first | omega | exact absurd z1 (by assumption))]; done))) ?_
            refine lv_istore_n (lv' := [(2, .int (nI (lyF σ q (n + 1)))), (4, .int (nI (if lies σ n then 1 else 0))), (3, .int (nI n)), (0, .ref (ad 0)), (1, .int (nI q))]) hx hb dX5_lying_93 rfl hl (by decide) rfl (fun ls hl => ?_)
            refine lv_iinc (v := nI (n + 1)) (lv' := [(3, .int (nI (n + 1))), (2, .int (nI (lyF σ q (n + 1)))), (4, .int (nI (if lies σ n then 1 else 0))), (0, .ref (ad 0)), (1, .int (nI q))]) hx hb dX5_lying_94 hl (k := 2) rfl (by rw [show (Int32.ofInt 1) = nI 1 by decide, nI_add]) (by decide) rfl (fun ls hl => ?_)
            refine lv_goto (tgt := 20) hx hb dX5_lying_97 (by decide) ?_
            exact ih _ _ _ (by omega) ⟨hW, lv_sub hl [0, 1, 3, 4] rfl⟩
          · skip
            refine lv_aload_n hx hb dX5_lying_80 rfl (lv_at hl 3 rfl) ?_
            refine rr_geti hx hb hts hinX5 hown hK hW 25 (by decide) rfl rfl (hts (.fieldLink RX5 70 "SeaPostModel" "thrown" "I") (by decide +kernel)) dX5_lying_81 ?_
            refine lv_tope (congrArg nI (show σ_9 25 0 = 0 by rw [eσ_9, st_s])) ?_
            refine lv_if_ne (tgt := 91) hx hb dX5_lying_84 (by decide) (fun z => absurd (by decide) z) (fun _ => ?_)
            refine lv_iconst (v := nI 1) hx hb dX5_lying_87 (by decide) ?_
            refine lv_goto (tgt := 92) hx hb dX5_lying_88 (by decide) ?_
            refine lv_iadd hx hb dX5_lying_92 (lv_tope (nI_add (lyF σ q n) 1) ?_)
            refine lv_tope (y := nI (lyF σ q (n + 1))) (congrArg nI (show lyF σ q n + 1 = lyF σ q (n + 1) by show _ = lyF σ q n + (if _ then 1 else 0); first | (rw [if_pos ⟨by assumption, by omega⟩]; done) | (rw [if_neg (fun z => by obtain ⟨z1, z2⟩ := z; first | omega | exact absurd z1 (by assumption))]; done))) ?_
            refine lv_istore_n (lv' := [(2, .int (nI (lyF σ q (n + 1)))), (4, .int (nI (if lies σ n then 1 else 0))), (3, .int (nI n)), (0, .ref (ad 0)), (1, .int (nI q))]) hx hb dX5_lying_93 rfl hl (by decide) rfl (fun ls hl => ?_)
            refine lv_iinc (v := nI (n + 1)) (lv' := [(3, .int (nI (n + 1))), (2, .int (nI (lyF σ q (n + 1)))), (4, .int (nI (if lies σ n then 1 else 0))), (0, .ref (ad 0)), (1, .int (nI q))]) hx hb dX5_lying_94 hl (k := 2) rfl (by rw [show (Int32.ofInt 1) = nI 1 by decide, nI_add]) (by decide) rfl (fun ls hl => ?_)
            refine lv_goto (tgt := 20) hx hb dX5_lying_97 (by decide) ?_
            exact ih _ _ _ (by omega) ⟨hW, lv_sub hl [0, 1, 3, 4] rfl⟩
      · skip
        refine nv_if_eq (tgt := 57) hx hb dX5_lying_34 (by decide) (by omega) (fun c_13 => ?_) (fun c_13 => ?_)
        · skip
          refine lv_iconst (v := nI 1) hx hb dX5_lying_57 (by decide) ?_
          refine lv_goto (tgt := 62) hx hb dX5_lying_58 (by decide) ?_
          exact lv_tope (congrArg nI (show 1 = (if lies σ n then 1 else 0) by first | (rw [if_pos (show lies σ n by unfold lies; omega)]) | (rw [if_neg (show ¬ lies σ n by unfold lies; omega)]))) (J _ _ hW)
        · skip
          refine lv_aload_n hx hb dX5_lying_37 rfl (lv_at hl 2 rfl) ?_
          refine rr_geta hx hb hts hinX5 hown hK hW 12 (by decide) rfl rfl (hts (.fieldLink RX5 40 "SeaPostModel" "stateOf" "[I") (by decide +kernel)) dX5_lying_38 ?_
          refine lv_iload_n hx hb dX5_lying_41 rfl (lv_at hl 0 rfl) ?_
          refine rr_ald (j := n) hx hb hK hW 12 rfl rfl (show n < 40 by omega) dX5_lying_42 ?_
          refine lv_tope (congrArg nI (show σ_9 12 n = σ 12 n by rw [eσ_9, st_f (by decide)])) ?_
          refine lv_iconst (v := nI 2) hx hb dX5_lying_43 (by decide) ?_
          refine nv_icmp_eq (u := σ 12 n) (v := 2) (tgt := 57) hx hb dX5_lying_44 (by decide) (by omega) (by omega) (fun c_14 => ?_) (fun c_14 => ?_)
          · skip
            refine lv_iconst (v := nI 1) hx hb dX5_lying_57 (by decide) ?_
            refine lv_goto (tgt := 62) hx hb dX5_lying_58 (by decide) ?_
            exact lv_tope (congrArg nI (show 1 = (if lies σ n then 1 else 0) by first | (rw [if_pos (show lies σ n by unfold lies; omega)]) | (rw [if_neg (show ¬ lies σ n by unfold lies; omega)]))) (J _ _ hW)
          · skip
            refine lv_aload_n hx hb dX5_lying_47 rfl (lv_at hl 2 rfl) ?_
            refine rr_geta hx hb hts hinX5 hown hK hW 12 (by decide) rfl rfl (hts (.fieldLink RX5 40 "SeaPostModel" "stateOf" "[I") (by decide +kernel)) dX5_lying_48 ?_
            refine lv_iload_n hx hb dX5_lying_51 rfl (lv_at hl 0 rfl) ?_
            refine rr_ald (j := n) hx hb hK hW 12 rfl rfl (show n < 40 by omega) dX5_lying_52 ?_
            refine lv_tope (congrArg nI (show σ_9 12 n = σ 12 n by rw [eσ_9, st_f (by decide)])) ?_
            refine lv_iconst (v := nI 4) hx hb dX5_lying_53 (by decide) ?_
            refine nv_icmp_ne (u := σ 12 n) (v := 4) (tgt := 61) hx hb dX5_lying_54 (by decide) (by omega) (by omega) (fun c_15 => ?_) (fun c_15 => ?_)
            · skip
              refine lv_iconst (v := nI 0) hx hb dX5_lying_61 (by decide) ?_
              exact lv_tope (congrArg nI (show 0 = (if lies σ n then 1 else 0) by first | (rw [if_pos (show lies σ n by unfold lies; omega)]) | (rw [if_neg (show ¬ lies σ n by unfold lies; omega)]))) (J _ _ hW)
            · skip
              refine lv_iconst (v := nI 1) hx hb dX5_lying_57 (by decide) ?_
              refine lv_goto (tgt := 62) hx hb dX5_lying_58 (by decide) ?_
              exact lv_tope (congrArg nI (show 1 = (if lies σ n then 1 else 0) by first | (rw [if_pos (show lies σ n by unfold lies; omega)]) | (rw [if_neg (show ¬ lies σ n by unfold lies; omega)]))) (J _ _ hW)

set_option maxHeartbeats 4000000 in
set_option maxRecDepth 100000 in
theorem c5_deadAt (l : Launch) (G : mG) (ad : Nat → Nat) (σ : Sg) (k : Nat) (hk : k < 4294967296) (hI : IV σ) : cRi l yX5_deadAt wsX5_deadAt 1 G ad σ [.int (nI k)] (rPost (thO σ k) (σ 19 k) (st σ 25 0 0) σ) := by
  intro M sz hR
  refine m_start cX5_deadAt 2 (some .int) (by decide) rfl (Nat.le_of_ble_eq_true rfl) ?_
  intro p e s m below meth c ls hx hb hr hml hown hlk hnm hts hK hsz hE hW hl
  have hA := mA_A (M := M) hsz
  have hl : lv_has ls 2 [(0, .ref (ad 0)), (1, .int (nI k))] := hl
  have hW := rW_start hR hW
  have hinX5 : ∀ w ∈ u_ws RX5 TX5 26, w ∈ wsX5_deadAt := (fun _ h => List.mem_cons_of_mem _ (List.mem_append_right _ h))
  have hV := hI.1
  have hB := hV.b
  obtain ⟨⟨h0, h8, hd⟩, h7, h3, h12, h45, h17, hl9, h23, h1921⟩ := id hB
  have hD20 := hI.2.1.le
  refine lv_aload_n hx hb dX5_deadAt_0 rfl (lv_at hl 0 rfl) ?_
  refine lv_iload_n hx hb dX5_deadAt_1 rfl (lv_at hl 1 rfl) ?_
  refine lv_iconst (v := nI 0) hx hb dX5_deadAt_2 (by decide) ?_
  refine lv_aload_n hx hb dX5_deadAt_3 rfl (lv_at hl 0 rfl) ?_
  refine rr_geti hx hb hts hinX5 hown hK hW 20 (by decide) rfl rfl (hts (.fieldLink RX5 112 "SeaPostModel" "deadMany" "I") (by decide +kernel)) dX5_deadAt_4 ?_
  refine lv_iconst (v := nI 1) hx hb dX5_deadAt_7 (by decide) ?_
  refine lv_isub hx hb dX5_deadAt_8 ?_
  refine rk_S (As := [.int (nI k), .int (nI 0), .int (nI (σ 20 0) - nI 1)]) (nL := 2) ⟨hx, hb, hml, hown, hts⟩ (c5_in l k 0 (σ 20 0) (by omega) (by omega) (by omega)) (va_cwS 3 hts gX5_deadAt_X5_in rfl rfl rfl (by decide +kernel) ⟨(Nat.le_of_ble_eq_true rfl), (Nat.le_of_ble_eq_true rfl)⟩) hK hE hW hA rfl hl.1 rfl (Nat.le_of_ble_eq_true rfl) dX5_deadAt_9 (Nat.zero_le _) (Nat.zero_le _) (fun H locs hW => ?_)
  refine nb_if_eq (tgt := 19) hx hb dX5_deadAt_12 (by decide) (fun c_1 => ?_) (fun c_1 => ?_)
  · skip
    refine lv_iconst (v := nI 1) hx hb dX5_deadAt_19 (by decide) ?_
    refine rr_puti (v := 1) hx hb hts hinX5 hown hK hW 25 (by decide) rfl rfl (hts (.fieldLink RX5 70 "SeaPostModel" "thrown" "I") (by decide +kernel)) rfl (by decide +kernel) dX5_deadAt_20 (fun H locs hW => ?_)
    obtain ⟨σ_2, eσ_2⟩ : ∃ z : Sg, z = st σ 25 0 1 := ⟨_, rfl⟩
    rw [← eσ_2] at hW
    refine lv_aload_n hx hb dX5_deadAt_23 rfl (lv_at hl 0 rfl) ?_
    refine rr_geti hx hb hts hinX5 hown hK hW 25 (by decide) rfl rfl (hts (.fieldLink RX5 70 "SeaPostModel" "thrown" "I") (by decide +kernel)) dX5_deadAt_24 ?_
    refine lv_tope (congrArg nI (show σ_2 25 0 = 1 by rw [eσ_2, st_s])) ?_
    refine lv_if_ne (tgt := 39) hx hb dX5_deadAt_27 (by decide) (fun _ => ?_) (fun z => absurd z (by decide))
    refine lv_iconst (v := nI 0) hx hb dX5_deadAt_39 (by decide) ?_
    exact rr_iret hx hb hr hlk (Nat.le_refl 0) (Nat.le_refl 0) hW (rP_x (show thO σ k = 1 from by unfold thO; (repeat' split) <;> first | rfl | omega) (by decide) (by subst eσ_2; first | rfl | (rw [st_st]; done))) dX5_deadAt_40
  · skip
    refine lv_iconst (v := nI 0) hx hb dX5_deadAt_15 (by decide) ?_
    refine lv_goto (tgt := 20) hx hb dX5_deadAt_16 (by decide) ?_
    refine rr_puti (v := 0) hx hb hts hinX5 hown hK hW 25 (by decide) rfl rfl (hts (.fieldLink RX5 70 "SeaPostModel" "thrown" "I") (by decide +kernel)) rfl (by decide +kernel) dX5_deadAt_20 (fun H locs hW => ?_)
    obtain ⟨σ_3, eσ_3⟩ : ∃ z : Sg, z = st σ 25 0 0 := ⟨_, rfl⟩
    rw [← eσ_3] at hW
    refine lv_aload_n hx hb dX5_deadAt_23 rfl (lv_at hl 0 rfl) ?_
    refine rr_geti hx hb hts hinX5 hown hK hW 25 (by decide) rfl rfl (hts (.fieldLink RX5 70 "SeaPostModel" "thrown" "I") (by decide +kernel)) dX5_deadAt_24 ?_
    refine lv_tope (congrArg nI (show σ_3 25 0 = 0 by rw [eσ_3, st_s])) ?_
    refine lv_if_ne (tgt := 39) hx hb dX5_deadAt_27 (by decide) (fun z => absurd (by decide) z) (fun _ => ?_)
    refine lv_aload_n hx hb dX5_deadAt_30 rfl (lv_at hl 0 rfl) ?_
    refine rr_geta hx hb hts hinX5 hown hK hW 19 (by decide) rfl rfl (hts (.fieldLink RX5 61 "SeaPostModel" "died" "[I") (by decide +kernel)) dX5_deadAt_31 ?_
    refine lv_iload_n hx hb dX5_deadAt_34 rfl (lv_at hl 1 rfl) ?_
    refine rr_ald (j := k) hx hb hK hW 19 rfl rfl (show k < 40 by omega) dX5_deadAt_35 ?_
    refine lv_tope (congrArg nI (show σ_3 19 k = σ 19 k by rw [eσ_3, st_f (by decide)])) ?_
    refine lv_goto (tgt := 40) hx hb dX5_deadAt_36 (by decide) ?_
    exact rr_iret hx hb hr hlk (Nat.le_refl 0) (Nat.le_refl 0) hW (rP_0 (show thO σ k = 0 from by unfold thO; (repeat' split) <;> first | rfl | omega) (rfl) (by subst eσ_3; first | rfl | (rw [st_st]; rfl))) dX5_deadAt_40

set_option maxHeartbeats 4000000 in
set_option maxRecDepth 100000 in
theorem c5_markAt (l : Launch) (G : mG) (ad : Nat → Nat) (σ : Sg) (i : Nat) (k : Nat) (hi : i < 4294967296) (hk : k < 4294967296) (hI : IV σ) : cRi l yX5_markAt wsX5_markAt 1 G ad σ [.int (nI i), .int (nI k)] (rPost (thM σ i k) (σ 17 (200 * i + k)) (st σ 25 0 0) σ) := by
  intro M sz hR
  refine m_start cX5_markAt 3 (some .char) (by decide) rfl (Nat.le_of_ble_eq_true rfl) ?_
  intro p e s m below meth c ls hx hb hr hml hown hlk hnm hts hK hsz hE hW hl
  have hA := mA_A (M := M) hsz
  have hl : lv_has ls 3 [(0, .ref (ad 0)), (1, .int (nI i)), (2, .int (nI k))] := hl
  have hW := rW_start hR hW
  have hinX5 : ∀ w ∈ u_ws RX5 TX5 26, w ∈ wsX5_markAt := (fun _ h => List.mem_cons_of_mem _ (List.mem_append_right _ h))
  have hV := hI.1
  have hB := hV.b
  obtain ⟨⟨h0, h8, hd⟩, h7, h3, h12, h45, h17, hl9, h23, h1921⟩ := id hB
  have hlm : i < σ 8 0 → σ 18 i ≤ 125 := fun h => (hI.2.2.2.1 i h).2.2.2.2.2.2.2.2.2
  have h17k := h17 (200 * i + k)
  refine lv_aload_n hx hb dX5_markAt_0 rfl (lv_at hl 0 rfl) ?_
  refine lv_iload_n hx hb dX5_markAt_1 rfl (lv_at hl 1 rfl) ?_
  refine lv_iconst (v := nI 0) hx hb dX5_markAt_2 (by decide) ?_
  refine lv_aload_n hx hb dX5_markAt_3 rfl (lv_at hl 0 rfl) ?_
  refine rr_geti hx hb hts hinX5 hown hK hW 8 (by decide) rfl rfl (hts (.fieldLink RX5 140 "SeaPostModel" "letters" "I") (by decide +kernel)) dX5_markAt_4 ?_
  refine lv_iconst (v := nI 1) hx hb dX5_markAt_7 (by decide) ?_
  refine lv_isub hx hb dX5_markAt_8 ?_
  refine rk_S (As := [.int (nI i), .int (nI 0), .int (nI (σ 8 0) - nI 1)]) (nL := 3) ⟨hx, hb, hml, hown, hts⟩ (c5_in l i 0 (σ 8 0) (by omega) (by omega) (by omega)) (va_cwS 3 hts gX5_markAt_X5_in rfl rfl rfl (by decide +kernel) ⟨(Nat.le_of_ble_eq_true rfl), (Nat.le_of_ble_eq_true rfl)⟩) hK hE hW hA rfl hl.1 rfl (Nat.le_of_ble_eq_true rfl) dX5_markAt_9 (Nat.zero_le _) (Nat.zero_le _) (fun H locs hW => ?_)
  refine nb_if_eq (tgt := 53) hx hb dX5_markAt_12 (by decide) (fun c_1 => ?_) (fun c_1 => ?_)
  · skip
    refine lv_iconst (v := nI 1) hx hb dX5_markAt_53 (by decide) ?_
    refine rr_puti (v := 1) hx hb hts hinX5 hown hK hW 25 (by decide) rfl rfl (hts (.fieldLink RX5 70 "SeaPostModel" "thrown" "I") (by decide +kernel)) rfl (by decide +kernel) dX5_markAt_54 (fun H locs hW => ?_)
    obtain ⟨σ_2, eσ_2⟩ : ∃ z : Sg, z = st σ 25 0 1 := ⟨_, rfl⟩
    rw [← eσ_2] at hW
    refine lv_aload_n hx hb dX5_markAt_57 rfl (lv_at hl 0 rfl) ?_
    refine rr_geti hx hb hts hinX5 hown hK hW 25 (by decide) rfl rfl (hts (.fieldLink RX5 70 "SeaPostModel" "thrown" "I") (by decide +kernel)) dX5_markAt_58 ?_
    refine lv_tope (congrArg nI (show σ_2 25 0 = 1 by rw [eσ_2, st_s])) ?_
    refine lv_if_ne (tgt := 80) hx hb dX5_markAt_61 (by decide) (fun _ => ?_) (fun z => absurd z (by decide))
    refine lv_iconst (v := nI 0) hx hb dX5_markAt_80 (by decide) ?_
    exact rr_zret (v := nI 0) hx hb hr hlk (by first | rfl | exact mc_nb | (exact mc_nc (by omega))) (Nat.le_refl 0) (Nat.le_refl 0) hW (rP_x (show thM σ i k = 1 from by unfold thM; (repeat' split) <;> first | rfl | omega) (by decide) (by subst eσ_2; first | rfl | (rw [st_st]; done))) dX5_markAt_81
  · skip
    refine lv_iload_n hx hb dX5_markAt_15 rfl (lv_at hl 2 rfl) ?_
    refine lv_iconst (v := nI 0) hx hb dX5_markAt_16 (by decide) ?_
    refine lv_aload_n hx hb dX5_markAt_17 rfl (lv_at hl 0 rfl) ?_
    refine rr_geta hx hb hts hinX5 hown hK hW 18 (by decide) rfl rfl (hts (.fieldLink RX5 58 "SeaPostModel" "markMany" "[I") (by decide +kernel)) dX5_markAt_18 ?_
    refine lv_iload_n hx hb dX5_markAt_21 rfl (lv_at hl 1 rfl) ?_
    refine lv_iconst (v := nI 0) hx hb dX5_markAt_22 (by decide) ?_
    refine lv_aload_n hx hb dX5_markAt_23 rfl (lv_at hl 0 rfl) ?_
    refine rr_geti hx hb hts hinX5 hown hK hW 8 (by decide) rfl rfl (hts (.fieldLink RX5 140 "SeaPostModel" "letters" "I") (by decide +kernel)) dX5_markAt_24 ?_
    refine lv_iconst (v := nI 1) hx hb dX5_markAt_27 (by decide) ?_
    refine lv_isub hx hb dX5_markAt_28 ?_
    refine rk_S (As := [.int (nI i), .int (nI 0), .int (nI (σ 8 0) - nI 1)]) (nL := 3) ⟨hx, hb, hml, hown, hts⟩ (c5_in l i 0 (σ 8 0) (by omega) (by omega) (by omega)) (va_cwS 3 hts gX5_markAt_X5_in rfl rfl rfl (by decide +kernel) ⟨(Nat.le_of_ble_eq_true rfl), (Nat.le_of_ble_eq_true rfl)⟩) hK hE hW hA rfl hl.1 rfl (Nat.le_of_ble_eq_true rfl) dX5_markAt_29 (Nat.zero_le _) (Nat.zero_le _) (fun H locs hW => ?_)
    refine nb_if_eq (tgt := 39) hx hb dX5_markAt_32 (by decide) (fun c_3 => ?_) (fun c_3 => ?_)
    · skip
      exact (show False by omega).elim
    · skip
      refine lv_iload_n hx hb dX5_markAt_35 rfl (lv_at hl 1 rfl) ?_
      refine lv_goto (tgt := 40) hx hb dX5_markAt_36 (by decide) ?_
      refine rr_ald (j := i) hx hb hK hW 18 rfl rfl (show i < 40 by omega) dX5_markAt_40 ?_
      refine lv_iconst (v := nI 1) hx hb dX5_markAt_41 (by decide) ?_
      refine lv_isub hx hb dX5_markAt_42 ?_
      refine rk_S (As := [.int (nI k), .int (nI 0), .int (nI (σ 18 i) - nI 1)]) (nL := 3) ⟨hx, hb, hml, hown, hts⟩ (c5_in l k 0 (σ 18 i) (by omega) (by omega) (by omega)) (va_cwS 3 hts gX5_markAt_X5_in rfl rfl rfl (by decide +kernel) ⟨(Nat.le_of_ble_eq_true rfl), (Nat.le_of_ble_eq_true rfl)⟩) hK hE hW hA rfl hl.1 rfl (Nat.le_of_ble_eq_true rfl) dX5_markAt_43 (Nat.zero_le _) (Nat.zero_le _) (fun H locs hW => ?_)
      refine nb_if_eq (tgt := 53) hx hb dX5_markAt_46 (by decide) (fun c_4 => ?_) (fun c_4 => ?_)
      · skip
        refine lv_iconst (v := nI 1) hx hb dX5_markAt_53 (by decide) ?_
        refine rr_puti (v := 1) hx hb hts hinX5 hown hK hW 25 (by decide) rfl rfl (hts (.fieldLink RX5 70 "SeaPostModel" "thrown" "I") (by decide +kernel)) rfl (by decide +kernel) dX5_markAt_54 (fun H locs hW => ?_)
        obtain ⟨σ_5, eσ_5⟩ : ∃ z : Sg, z = st σ 25 0 1 := ⟨_, rfl⟩
        rw [← eσ_5] at hW
        refine lv_aload_n hx hb dX5_markAt_57 rfl (lv_at hl 0 rfl) ?_
        refine rr_geti hx hb hts hinX5 hown hK hW 25 (by decide) rfl rfl (hts (.fieldLink RX5 70 "SeaPostModel" "thrown" "I") (by decide +kernel)) dX5_markAt_58 ?_
        refine lv_tope (congrArg nI (show σ_5 25 0 = 1 by rw [eσ_5, st_s])) ?_
        refine lv_if_ne (tgt := 80) hx hb dX5_markAt_61 (by decide) (fun _ => ?_) (fun z => absurd z (by decide))
        refine lv_iconst (v := nI 0) hx hb dX5_markAt_80 (by decide) ?_
        exact rr_zret (v := nI 0) hx hb hr hlk (by first | rfl | exact mc_nb | (exact mc_nc (by omega))) (Nat.le_refl 0) (Nat.le_refl 0) hW (rP_x (show thM σ i k = 1 from by unfold thM; (repeat' split) <;> first | rfl | omega) (by decide) (by subst eσ_5; first | rfl | (rw [st_st]; done))) dX5_markAt_81
      · skip
        refine lv_iconst (v := nI 0) hx hb dX5_markAt_49 (by decide) ?_
        refine lv_goto (tgt := 54) hx hb dX5_markAt_50 (by decide) ?_
        refine rr_puti (v := 0) hx hb hts hinX5 hown hK hW 25 (by decide) rfl rfl (hts (.fieldLink RX5 70 "SeaPostModel" "thrown" "I") (by decide +kernel)) rfl (by decide +kernel) dX5_markAt_54 (fun H locs hW => ?_)
        obtain ⟨σ_6, eσ_6⟩ : ∃ z : Sg, z = st σ 25 0 0 := ⟨_, rfl⟩
        rw [← eσ_6] at hW
        refine lv_aload_n hx hb dX5_markAt_57 rfl (lv_at hl 0 rfl) ?_
        refine rr_geti hx hb hts hinX5 hown hK hW 25 (by decide) rfl rfl (hts (.fieldLink RX5 70 "SeaPostModel" "thrown" "I") (by decide +kernel)) dX5_markAt_58 ?_
        refine lv_tope (congrArg nI (show σ_6 25 0 = 0 by rw [eσ_6, st_s])) ?_
        refine lv_if_ne (tgt := 80) hx hb dX5_markAt_61 (by decide) (fun z => absurd (by decide) z) (fun _ => ?_)
        refine lv_aload_n hx hb dX5_markAt_64 rfl (lv_at hl 0 rfl) ?_
        refine rr_geta hx hb hts hinX5 hown hK hW 17 (by decide) rfl rfl (hts (.fieldLink RX5 55 "SeaPostModel" "markOf" "[I") (by decide +kernel)) dX5_markAt_65 ?_
        refine lv_sipush (v := nI 200) hx hb dX5_markAt_68 (by decide) ?_
        refine lv_iload_n hx hb dX5_markAt_71 rfl (lv_at hl 1 rfl) ?_
        refine lv_imul hx hb dX5_markAt_72 (lv_tope (pk_mul 200 i) ?_)
        refine lv_iload_n hx hb dX5_markAt_73 rfl (lv_at hl 2 rfl) ?_
        refine lv_iadd hx hb dX5_markAt_74 (lv_tope (nI_add (200 * i) k) ?_)
        refine rr_ald (j := 200 * i + k) hx hb hK hW 17 rfl rfl (show 200 * i + k < 8000 by omega) dX5_markAt_75 ?_
        refine lv_tope (congrArg nI (show σ_6 17 (200 * i + k) = σ 17 (200 * i + k) by rw [eσ_6, st_f (by decide)])) ?_
        refine lv_i2c (v := nI (σ 17 (200 * i + k))) hx hb dX5_markAt_76 (mc_char (by omega)) ?_
        refine lv_goto (tgt := 81) hx hb dX5_markAt_77 (by decide) ?_
        exact rr_zret (v := nI (σ 17 (200 * i + k))) hx hb hr hlk (by first | rfl | exact mc_nb | (exact mc_nc (by omega))) (Nat.le_refl 0) (Nat.le_refl 0) hW (rP_0 (show thM σ i k = 0 from by unfold thM; (repeat' split) <;> first | rfl | omega) (rfl) (by subst eσ_6; first | rfl | (rw [st_st]; rfl))) dX5_markAt_81

theorem dvF_b {σ : Sg} {u k : Nat} (h : ∀ z, σ 21 z < 40) : ∀ n, dvF σ u k n ≤ 39 ∨ dvF σ u k n = 4294967295
  | 0 => Or.inr rfl
  | n + 1 => by
    unfold dvF
    split
    · exact dvF_b h n
    · split
      · have := h n; exact Or.inl (by omega)
      · exact Or.inr rfl

set_option maxHeartbeats 4000000 in
set_option maxRecDepth 100000 in
theorem c5_deliveredAs (l : Launch) (G : mG) (ad : Nat → Nat) (σ : Sg) (u : Nat) (k : Nat) (hu : u < 4294967296) (hk : k < 4294967296) (hI : IV σ) : cRi l yX5_deliveredAs wsX5_deliveredAs 2 G ad σ [.int (nI u), .int (nI k)] (rPost (thV σ u k) (dvF σ u k (σ 22 0)) (st σ 25 0 0) σ) := by
  intro M sz hR
  refine m_start cX5_deliveredAs 6 (some .int) (by decide) rfl (Nat.le_of_ble_eq_true rfl) ?_
  intro p e s m below meth c ls hx hb hr hml hown hlk hnm hts hK hsz hE hW hl
  have hA := mA_A (M := M) hsz
  have hl : lv_has ls 6 [(0, .ref (ad 0)), (1, .int (nI u)), (2, .int (nI k))] := hl
  have hW := rW_start hR hW
  have hinX5 : ∀ w ∈ u_ws RX5 TX5 26, w ∈ wsX5_deliveredAs := (fun _ h => List.mem_cons_of_mem _ (List.mem_append_right _ h))
  have hV := hI.1
  have hB := hV.b
  obtain ⟨⟨h0, h8, hd⟩, h7, h3, h12, h45, h17, hl9, h23, h1921⟩ := id hB
  have hD22 := hI.2.2.1.le
  refine lv_aload_n hx hb dX5_deliveredAs_0 rfl (lv_at hl 0 rfl) ?_
  refine lv_aload_n hx hb dX5_deliveredAs_1 rfl (lv_at hl 0 rfl) ?_
  refine lv_iload_n hx hb dX5_deliveredAs_2 rfl (lv_at hl 1 rfl) ?_
  refine rk_Vi (As := [.int (nI u)]) (nL := 6) ⟨hx, hb, hml, hown, hts⟩ (c5_isShip l G ad σ u hu h0) (cwV 1 hts gX5_deliveredAs_X5_isShip rfl rfl rfl (by decide +kernel) ⟨(Nat.le_of_ble_eq_true rfl), (Nat.le_of_ble_eq_true rfl)⟩) hK hE hW hA rfl hl.1 rfl (Nat.le_of_ble_eq_true rfl) dX5_deliveredAs_3 (Nat.zero_le _) (Nat.zero_le _) (fun r9 σ9 H locs hp_1 hW => ?_)
  obtain ⟨e91, e92⟩ := hp_1
  subst e91
  rw [e92] at hW
  clear e92
  refine nb_if_ne (tgt := 13) hx hb dX5_deliveredAs_6 (by decide) (fun c_2 => ?_) (fun c_2 => ?_)
  · skip
    refine lv_iload_n hx hb dX5_deliveredAs_13 rfl (lv_at hl 2 rfl) ?_
    refine nv_if_ge (tgt := 21) hx hb dX5_deliveredAs_14 (by decide) (by omega) (fun c_3 => ?_) (fun c_3 => ?_)
    · skip
      refine lv_iconst (v := nI 0) hx hb dX5_deliveredAs_21 (by decide) ?_
      refine rr_puti (v := 0) hx hb hts hinX5 hown hK hW 25 (by decide) rfl rfl (hts (.fieldLink RX5 70 "SeaPostModel" "thrown" "I") (by decide +kernel)) rfl (by decide +kernel) dX5_deliveredAs_22 (fun H locs hW => ?_)
      obtain ⟨σ_4, eσ_4⟩ : ∃ z : Sg, z = st σ 25 0 0 := ⟨_, rfl⟩
      rw [← eσ_4] at hW
      refine lv_aload_n hx hb dX5_deliveredAs_25 rfl (lv_at hl 0 rfl) ?_
      refine rr_geti hx hb hts hinX5 hown hK hW 25 (by decide) rfl rfl (hts (.fieldLink RX5 70 "SeaPostModel" "thrown" "I") (by decide +kernel)) dX5_deliveredAs_26 ?_
      refine lv_tope (congrArg nI (show σ_4 25 0 = 0 by rw [eσ_4, st_s])) ?_
      refine lv_if_eq (tgt := 34) hx hb dX5_deliveredAs_29 (by decide) (fun _ => ?_) (fun z => absurd (by decide) z)
      refine lv_iload_n hx hb dX5_deliveredAs_34 rfl (lv_at hl 2 rfl) ?_
      refine lv_istore_n (lv' := [(3, .int (nI k)), (0, .ref (ad 0)), (1, .int (nI u)), (2, .int (nI k))]) hx hb dX5_deliveredAs_35 rfl hl (by decide) rfl (fun ls hl => ?_)
      refine lv_iconst (v := nI 4294967295) hx hb dX5_deliveredAs_36 (by decide) ?_
      refine lv_istore (lv' := [(4, .int (nI 4294967295)), (3, .int (nI k)), (0, .ref (ad 0)), (1, .int (nI u)), (2, .int (nI k))]) hx hb dX5_deliveredAs_37 hl (by decide) rfl (fun ls hl => ?_)
      refine lv_iconst (v := nI 0) hx hb dX5_deliveredAs_39 (by decide) ?_
      refine lv_istore (lv' := [(5, .int (nI 0)), (4, .int (nI 4294967295)), (3, .int (nI k)), (0, .ref (ad 0)), (1, .int (nI u)), (2, .int (nI k))]) hx hb dX5_deliveredAs_40 hl (by decide) rfl (fun ls hl => ?_)
      refine m_loop (σ 22 0) (fun n H locs ls => rW G ad (mA M sz) s.heap M σ_4 H locs ∧ ∃ v9 : Int32, (dvF σ u k n = 4294967295 → v9 = nI (k - rcF σ u n) ∧ rcF σ u n ≤ k) ∧ lv_has ls 6 [(5, .int (nI n)), (4, .int (nI (dvF σ u k n))), (3, .int (v9)), (0, .ref (ad 0)), (1, .int (nI u)), (2, .int (nI k))]) 0 (Nat.zero_le _) ⟨hW, nI k, fun _ => ⟨rfl, Nat.zero_le _⟩, lv_sub hl [0, 1, 2, 3, 4, 5] rfl⟩ (fun n H locs ls hn hI2 ih => ?_)
      obtain ⟨hW, v9, hv9, hl⟩ := hI2
      have hn9 := h1921 n
      have hn8 := (hl9 (σ 21 n)).1
      have hdb : dvF σ u k n ≤ 39 ∨ dvF σ u k n = 4294967295 := dvF_b (fun z => (h1921 z).2) n
      refine lv_iload hx hb dX5_deliveredAs_42 (lv_at hl 0 rfl) ?_
      refine lv_aload_n hx hb dX5_deliveredAs_44 rfl (lv_at hl 3 rfl) ?_
      refine rr_geti hx hb hts hinX5 hown hK hW 22 (by decide) rfl rfl (hts (.fieldLink RX5 127 "SeaPostModel" "handedMany" "I") (by decide +kernel)) dX5_deliveredAs_45 ?_
      refine lv_tope (congrArg nI (show σ_4 22 0 = σ 22 0 by rw [eσ_4, st_f (by decide)])) ?_
      refine nv_icmp_ge (u := n) (v := σ 22 0) (tgt := 99) hx hb dX5_deliveredAs_48 (by decide) (by omega) (by omega) (fun c_5 => ?_) (fun c_5 => ?_)
      · skip
        refine lv_iload hx hb dX5_deliveredAs_99 (lv_at hl 1 rfl) ?_
        exact rr_iret hx hb hr hlk (Nat.le_refl 0) (Nat.le_refl 0) hW (rP_0 (show thV σ u k = 0 from by unfold thV; (repeat' split) <;> first | rfl | omega) (by first | (rw [show n = σ 22 0 by omega]; done) | (have hk9 := dvF_keep (σ := σ) (u := u) (k := k) (n := n) (by omega) (σ 22 0 - n); rw [show n + (σ 22 0 - n) = σ 22 0 by omega] at hk9; exact congrArg nI hk9.symm)) (by subst eσ_4; rfl)) dX5_deliveredAs_101
      · skip
        refine lv_iload hx hb dX5_deliveredAs_51 (lv_at hl 1 rfl) ?_
        refine lv_iconst (v := nI 4294967295) hx hb dX5_deliveredAs_53 (by decide) ?_
        refine nv_icmp_ne (u := dvF σ u k n) (v := 4294967295) (tgt := 99) hx hb dX5_deliveredAs_54 (by decide) (by omega) (by omega) (fun c_6 => ?_) (fun c_6 => ?_)
        · skip
          refine lv_iload hx hb dX5_deliveredAs_99 (lv_at hl 1 rfl) ?_
          exact rr_iret hx hb hr hlk (Nat.le_refl 0) (Nat.le_refl 0) hW (rP_0 (show thV σ u k = 0 from by unfold thV; (repeat' split) <;> first | rfl | omega) (by first | (rw [show n = σ 22 0 by omega]; done) | (have hk9 := dvF_keep (σ := σ) (u := u) (k := k) (n := n) (by omega) (σ 22 0 - n); rw [show n + (σ 22 0 - n) = σ 22 0 by omega] at hk9; exact congrArg nI hk9.symm)) (by subst eσ_4; rfl)) dX5_deliveredAs_101
        · skip
          have hnone : dvF σ u k n = 4294967295 := by omega
          obtain ⟨rfl, hrk⟩ := hv9 hnone
          refine lv_aload_n hx hb dX5_deliveredAs_57 rfl (lv_at hl 3 rfl) ?_
          refine rr_geta hx hb hts hinX5 hown hK hW 9 (by decide) rfl rfl (hts (.fieldLink RX5 31 "SeaPostModel" "its" "[I") (by decide +kernel)) dX5_deliveredAs_58 ?_
          refine lv_aload_n hx hb dX5_deliveredAs_61 rfl (lv_at hl 3 rfl) ?_
          refine rr_geta hx hb hts hinX5 hown hK hW 21 (by decide) rfl rfl (hts (.fieldLink RX5 64 "SeaPostModel" "handed" "[I") (by decide +kernel)) dX5_deliveredAs_62 ?_
          refine lv_iload hx hb dX5_deliveredAs_65 (lv_at hl 0 rfl) ?_
          refine rr_ald (j := n) hx hb hK hW 21 rfl rfl (show n < 40 by omega) dX5_deliveredAs_67 ?_
          refine lv_tope (congrArg nI (show σ_4 21 n = σ 21 n by rw [eσ_4, st_f (by decide)])) ?_
          refine rr_ald (j := σ 21 n) hx hb hK hW 9 rfl rfl (show σ 21 n < 40 by omega) dX5_deliveredAs_68 ?_
          refine lv_tope (congrArg nI (show σ_4 9 (σ 21 n) = σ 9 (σ 21 n) by rw [eσ_4, st_f (by decide)])) ?_
          refine lv_iload_n hx hb dX5_deliveredAs_69 rfl (lv_at hl 4 rfl) ?_
          refine nv_icmp_ne (u := σ 9 (σ 21 n)) (v := u) (tgt := 93) hx hb dX5_deliveredAs_70 (by decide) (by omega) (by omega) (fun c_7 => ?_) (fun c_7 => ?_)
          · skip
            have hstep : dvF σ u k (n + 1) = dvF σ u k n := by show (if _ then _ else _) = _; rw [if_neg (fun z => z hnone), if_neg (by omega), hnone]
            have hl : lv_has ls 6 [(5, .int (nI n)), (4, .int (nI (dvF σ u k (n + 1)))), (3, .int (nI (k - rcF σ u n))), (0, .ref (ad 0)), (1, .int (nI u)), (2, .int (nI k))] := by rw [hstep]; exact hl
            refine lv_iinc (v := nI (n + 1)) (lv' := [(5, .int (nI (n + 1))), (4, .int (nI (dvF σ u k (n + 1)))), (3, .int (nI (k - rcF σ u n))), (0, .ref (ad 0)), (1, .int (nI u)), (2, .int (nI k))]) hx hb dX5_deliveredAs_93 hl (k := 0) rfl (by rw [show (Int32.ofInt 1) = nI 1 by decide, nI_add]) (by decide) rfl (fun ls hl => ?_)
            refine lv_goto (tgt := 42) hx hb dX5_deliveredAs_96 (by decide) ?_
            exact ih _ _ _ (by omega) ⟨hW, nI (k - rcF σ u n), by show (if _ then _ else _) = _ → _; rw [if_neg (fun z => z (by assumption))]; show _ → _ = nI (k - (rcF σ u n + (if _ then 1 else 0))) ∧ (rcF σ u n + (if _ then 1 else 0)) ≤ k; intro _; rw [if_neg (by omega)]; exact ⟨rfl, hrk⟩, lv_sub hl [0, 1, 2, 3, 4, 5] rfl⟩
          · skip
            refine lv_iload_n hx hb dX5_deliveredAs_73 rfl (lv_at hl 2 rfl) ?_
            refine nv_if_ne (tgt := 87) hx hb dX5_deliveredAs_74 (by decide) (by omega) (fun c_8 => ?_) (fun c_8 => ?_)
            · skip
              refine lv_iconst (v := nI 4294967295) hx hb dX5_deliveredAs_87 (by decide) ?_
              refine lv_tope (y := nI (dvF σ u k (n + 1))) (congrArg nI (show 4294967295 = (if dvF σ u k n ≠ 4294967295 then dvF σ u k n else if σ 9 (σ 21 n) = u ∧ rcF σ u n = k then σ 21 n else 4294967295) by rw [if_neg (fun z => z hnone)]; first | (rw [if_pos ⟨by omega, by omega⟩]; done) | (rw [if_neg (by omega)]; done))) ?_
              refine lv_istore (lv' := [(4, .int (nI (dvF σ u k (n + 1)))), (5, .int (nI n)), (3, .int (nI (k - rcF σ u n))), (0, .ref (ad 0)), (1, .int (nI u)), (2, .int (nI k))]) hx hb dX5_deliveredAs_88 hl (by decide) rfl (fun ls hl => ?_)
              refine lv_iinc (v := nI (k - rcF σ u n) + (-1)) (lv' := [(3, .int (nI (k - rcF σ u n) + (-1))), (4, .int (nI (dvF σ u k (n + 1)))), (5, .int (nI n)), (0, .ref (ad 0)), (1, .int (nI u)), (2, .int (nI k))]) hx hb dX5_deliveredAs_90 hl (k := 2) rfl (by rw [show (Int32.ofInt (-1)) = -1 by decide]) (by decide) rfl (fun ls hl => ?_)
              refine lv_iinc (v := nI (n + 1)) (lv' := [(5, .int (nI (n + 1))), (3, .int (nI (k - rcF σ u n) + (-1))), (4, .int (nI (dvF σ u k (n + 1)))), (0, .ref (ad 0)), (1, .int (nI u)), (2, .int (nI k))]) hx hb dX5_deliveredAs_93 hl (k := 2) rfl (by rw [show (Int32.ofInt 1) = nI 1 by decide, nI_add]) (by decide) rfl (fun ls hl => ?_)
              refine lv_goto (tgt := 42) hx hb dX5_deliveredAs_96 (by decide) ?_
              exact ih _ _ _ (by omega) ⟨hW, nI (k - rcF σ u n) + (-1), by show (if _ then _ else _) = _ → _; rw [if_neg (fun z => z (by assumption))]; show _ → _ = nI (k - (rcF σ u n + (if _ then 1 else 0))) ∧ (rcF σ u n + (if _ then 1 else 0)) ≤ k; intro hz; have hne : ¬ rcF σ u n = k := fun e => (by rw [if_pos ⟨by omega, e⟩] at hz; omega); rw [if_pos (by omega)]; exact ⟨by rw [show k - rcF σ u n = k - (rcF σ u n + 1) + 1 by omega]; exact pk_m1 _, by omega⟩, lv_sub hl [0, 2, 1, 3, 4, 5] rfl⟩
            · skip
              refine lv_aload_n hx hb dX5_deliveredAs_77 rfl (lv_at hl 3 rfl) ?_
              refine rr_geta hx hb hts hinX5 hown hK hW 21 (by decide) rfl rfl (hts (.fieldLink RX5 64 "SeaPostModel" "handed" "[I") (by decide +kernel)) dX5_deliveredAs_78 ?_
              refine lv_iload hx hb dX5_deliveredAs_81 (lv_at hl 0 rfl) ?_
              refine rr_ald (j := n) hx hb hK hW 21 rfl rfl (show n < 40 by omega) dX5_deliveredAs_83 ?_
              refine lv_tope (congrArg nI (show σ_4 21 n = σ 21 n by rw [eσ_4, st_f (by decide)])) ?_
              refine lv_goto (tgt := 88) hx hb dX5_deliveredAs_84 (by decide) ?_
              refine lv_tope (y := nI (dvF σ u k (n + 1))) (congrArg nI (show σ 21 n = (if dvF σ u k n ≠ 4294967295 then dvF σ u k n else if σ 9 (σ 21 n) = u ∧ rcF σ u n = k then σ 21 n else 4294967295) by rw [if_neg (fun z => z hnone)]; first | (rw [if_pos ⟨by omega, by omega⟩]; done) | (rw [if_neg (by omega)]; done))) ?_
              refine lv_istore (lv' := [(4, .int (nI (dvF σ u k (n + 1)))), (5, .int (nI n)), (3, .int (nI (k - rcF σ u n))), (0, .ref (ad 0)), (1, .int (nI u)), (2, .int (nI k))]) hx hb dX5_deliveredAs_88 hl (by decide) rfl (fun ls hl => ?_)
              refine lv_iinc (v := nI (k - rcF σ u n) + (-1)) (lv' := [(3, .int (nI (k - rcF σ u n) + (-1))), (4, .int (nI (dvF σ u k (n + 1)))), (5, .int (nI n)), (0, .ref (ad 0)), (1, .int (nI u)), (2, .int (nI k))]) hx hb dX5_deliveredAs_90 hl (k := 2) rfl (by rw [show (Int32.ofInt (-1)) = -1 by decide]) (by decide) rfl (fun ls hl => ?_)
              refine lv_iinc (v := nI (n + 1)) (lv' := [(5, .int (nI (n + 1))), (3, .int (nI (k - rcF σ u n) + (-1))), (4, .int (nI (dvF σ u k (n + 1)))), (0, .ref (ad 0)), (1, .int (nI u)), (2, .int (nI k))]) hx hb dX5_deliveredAs_93 hl (k := 2) rfl (by rw [show (Int32.ofInt 1) = nI 1 by decide, nI_add]) (by decide) rfl (fun ls hl => ?_)
              refine lv_goto (tgt := 42) hx hb dX5_deliveredAs_96 (by decide) ?_
              exact ih _ _ _ (by omega) ⟨hW, nI (k - rcF σ u n) + (-1), by show (if _ then _ else _) = _ → _; rw [if_neg (fun z => z (by assumption))]; show _ → _ = nI (k - (rcF σ u n + (if _ then 1 else 0))) ∧ (rcF σ u n + (if _ then 1 else 0)) ≤ k; intro hz; have hne : ¬ rcF σ u n = k := fun e => (by rw [if_pos ⟨by omega, e⟩] at hz; omega); rw [if_pos (by omega)]; exact ⟨by rw [show k - rcF σ u n = k - (rcF σ u n + 1) + 1 by omega]; exact pk_m1 _, by omega⟩, lv_sub hl [0, 2, 1, 3, 4, 5] rfl⟩
    · skip
      refine lv_iconst (v := nI 2) hx hb dX5_deliveredAs_17 (by decide) ?_
      refine lv_goto (tgt := 22) hx hb dX5_deliveredAs_18 (by decide) ?_
      refine rr_puti (v := 2) hx hb hts hinX5 hown hK hW 25 (by decide) rfl rfl (hts (.fieldLink RX5 70 "SeaPostModel" "thrown" "I") (by decide +kernel)) rfl (by decide +kernel) dX5_deliveredAs_22 (fun H locs hW => ?_)
      obtain ⟨σ_9, eσ_9⟩ : ∃ z : Sg, z = st σ 25 0 2 := ⟨_, rfl⟩
      rw [← eσ_9] at hW
      refine lv_aload_n hx hb dX5_deliveredAs_25 rfl (lv_at hl 0 rfl) ?_
      refine rr_geti hx hb hts hinX5 hown hK hW 25 (by decide) rfl rfl (hts (.fieldLink RX5 70 "SeaPostModel" "thrown" "I") (by decide +kernel)) dX5_deliveredAs_26 ?_
      refine lv_tope (congrArg nI (show σ_9 25 0 = 2 by rw [eσ_9, st_s])) ?_
      refine lv_if_eq (tgt := 34) hx hb dX5_deliveredAs_29 (by decide) (fun z => absurd z (by decide)) (fun _ => ?_)
      refine lv_iconst (v := nI 0) hx hb dX5_deliveredAs_32 (by decide) ?_
      exact rr_iret hx hb hr hlk (Nat.le_refl 0) (Nat.le_refl 0) hW (rP_x (show thV σ u k = 2 from by unfold thV; (repeat' split) <;> first | rfl | omega) (by decide) (by subst eσ_9; first | rfl | (rw [st_st]; done))) dX5_deliveredAs_33
  · skip
    refine lv_iconst (v := nI 1) hx hb dX5_deliveredAs_9 (by decide) ?_
    refine lv_goto (tgt := 22) hx hb dX5_deliveredAs_10 (by decide) ?_
    refine rr_puti (v := 1) hx hb hts hinX5 hown hK hW 25 (by decide) rfl rfl (hts (.fieldLink RX5 70 "SeaPostModel" "thrown" "I") (by decide +kernel)) rfl (by decide +kernel) dX5_deliveredAs_22 (fun H locs hW => ?_)
    obtain ⟨σ_10, eσ_10⟩ : ∃ z : Sg, z = st σ 25 0 1 := ⟨_, rfl⟩
    rw [← eσ_10] at hW
    refine lv_aload_n hx hb dX5_deliveredAs_25 rfl (lv_at hl 0 rfl) ?_
    refine rr_geti hx hb hts hinX5 hown hK hW 25 (by decide) rfl rfl (hts (.fieldLink RX5 70 "SeaPostModel" "thrown" "I") (by decide +kernel)) dX5_deliveredAs_26 ?_
    refine lv_tope (congrArg nI (show σ_10 25 0 = 1 by rw [eσ_10, st_s])) ?_
    refine lv_if_eq (tgt := 34) hx hb dX5_deliveredAs_29 (by decide) (fun z => absurd z (by decide)) (fun _ => ?_)
    refine lv_iconst (v := nI 0) hx hb dX5_deliveredAs_32 (by decide) ?_
    exact rr_iret hx hb hr hlk (Nat.le_refl 0) (Nat.le_refl 0) hW (rP_x (show thV σ u k = 1 from by unfold thV; (repeat' split) <;> first | rfl | omega) (by decide) (by subst eσ_10; first | rfl | (rw [st_st]; done))) dX5_deliveredAs_33

set_option maxHeartbeats 4000000 in
set_option maxRecDepth 100000 in
theorem c5_written (l : Launch) (G : mG) (ad : Nat → Nat) (σ : Sg) (i : Nat) (k : Nat) (hi : i < 4294967296) (hk : k < 4294967296) (hI : IV σ) : cRi l yX5_written wsX5_written 1 G ad σ [.int (nI i), .int (nI k)] (rPost (thN σ i k) (wtS σ i k) (st σ 25 0 0) σ) := by
  intro M sz hR
  refine m_start cX5_written 6 (some .int) (by decide) rfl (Nat.le_of_ble_eq_true rfl) ?_
  intro p e s m below meth c ls hx hb hr hml hown hlk hnm hts hK hsz hE hW hl
  have hA := mA_A (M := M) hsz
  have hl : lv_has ls 6 [(0, .ref (ad 0)), (1, .int (nI i)), (2, .int (nI k))] := hl
  have hW := rW_start hR hW
  have hinX5 : ∀ w ∈ u_ws RX5 TX5 26, w ∈ wsX5_written := (fun _ h => List.mem_cons_of_mem _ (List.mem_append_right _ h))
  have hV := hI.1
  have hB := hV.b
  obtain ⟨⟨h0, h8, hd⟩, h7, h3, h12, h45, h17, hl9, h23, h1921⟩ := id hB
  refine lv_aload_n hx hb dX5_written_0 rfl (lv_at hl 0 rfl) ?_
  refine lv_iconst (v := nI 1) hx hb dX5_written_1 (by decide) ?_
  refine rr_puti (v := 1) hx hb hts hinX5 hown hK hW 25 (by decide) rfl rfl (hts (.fieldLink RX5 70 "SeaPostModel" "thrown" "I") (by decide +kernel)) rfl (by decide +kernel) dX5_written_2 (fun H locs hW => ?_)
  obtain ⟨σ_1, eσ_1⟩ : ∃ z : Sg, z = st σ 25 0 1 := ⟨_, rfl⟩
  rw [← eσ_1] at hW
  refine lv_iload_n hx hb dX5_written_5 rfl (lv_at hl 1 rfl) ?_
  refine lv_iconst (v := nI 0) hx hb dX5_written_6 (by decide) ?_
  refine lv_aload_n hx hb dX5_written_7 rfl (lv_at hl 0 rfl) ?_
  refine rr_geti hx hb hts hinX5 hown hK hW 8 (by decide) rfl rfl (hts (.fieldLink RX5 140 "SeaPostModel" "letters" "I") (by decide +kernel)) dX5_written_8 ?_
  refine lv_tope (congrArg nI (show σ_1 8 0 = σ 8 0 by rw [eσ_1, st_f (by decide)])) ?_
  refine lv_iconst (v := nI 1) hx hb dX5_written_11 (by decide) ?_
  refine lv_isub hx hb dX5_written_12 ?_
  refine rk_S (As := [.int (nI i), .int (nI 0), .int (nI (σ 8 0) - nI 1)]) (nL := 6) ⟨hx, hb, hml, hown, hts⟩ (c5_in l i 0 (σ 8 0) (by omega) (by omega) (by omega)) (va_cwS 3 hts gX5_written_X5_in rfl rfl rfl (by decide +kernel) ⟨(Nat.le_of_ble_eq_true rfl), (Nat.le_of_ble_eq_true rfl)⟩) hK hE hW hA rfl hl.1 rfl (Nat.le_of_ble_eq_true rfl) dX5_written_13 (Nat.zero_le _) (Nat.zero_le _) (fun H locs hW => ?_)
  refine nb_if_eq (tgt := 23) hx hb dX5_written_16 (by decide) (fun c_2 => ?_) (fun c_2 => ?_)
  · skip
    refine lv_iconst (v := nI 0) hx hb dX5_written_23 (by decide) ?_
    exact rr_iret hx hb hr hlk (Nat.le_refl 0) (Nat.le_refl 0) hW (rP_x (k := 1) (show thN σ i k = 1 from by unfold thN; rw [if_pos (by omega)]) (by decide) (by subst eσ_1; rfl)) dX5_written_24
  · skip
    refine lv_iload_n hx hb dX5_written_19 rfl (lv_at hl 2 rfl) ?_
    refine nv_if_ge (tgt := 25) hx hb dX5_written_20 (by decide) (by omega) (fun c_3 => ?_) (fun c_3 => ?_)
    · skip
      have hLI := hI.2.2.2.1 i (by omega)
      have hm : σ 18 i ≤ 125 := hLI.2.2.2.2.2.2.2.2.2
      refine lv_iload_n hx hb dX5_written_25 rfl (lv_at hl 2 rfl) ?_
      refine lv_istore_n (lv' := [(3, .int (nI k)), (0, .ref (ad 0)), (1, .int (nI i)), (2, .int (nI k))]) hx hb dX5_written_26 rfl hl (by decide) rfl (fun ls hl => ?_)
      refine lv_sipush (v := nI 200) hx hb dX5_written_27 (by decide) ?_
      refine lv_iload_n hx hb dX5_written_30 rfl (lv_at hl 2 rfl) ?_
      refine lv_imul hx hb dX5_written_31 (lv_tope (pk_mul 200 i) ?_)
      refine lv_aload_n hx hb dX5_written_32 rfl (lv_at hl 1 rfl) ?_
      refine rr_geta hx hb hts hinX5 hown hK hW 18 (by decide) rfl rfl (hts (.fieldLink RX5 58 "SeaPostModel" "markMany" "[I") (by decide +kernel)) dX5_written_33 ?_
      refine lv_iload_n hx hb dX5_written_36 rfl (lv_at hl 2 rfl) ?_
      refine rr_ald (j := i) hx hb hK hW 18 rfl rfl (show i < 40 by omega) dX5_written_37 ?_
      refine lv_tope (congrArg nI (show σ_1 18 i = σ 18 i by rw [eσ_1, st_f (by decide)])) ?_
      refine lv_iadd hx hb dX5_written_38 (lv_tope (nI_add (200 * i) (σ 18 i)) ?_)
      refine lv_iconst (v := nI 1) hx hb dX5_written_39 (by decide) ?_
      refine lv_isub hx hb dX5_written_40 ?_
      refine lv_istore (lv' := [(4, .int (nI (200 * i + (σ 18 i)) - nI 1)), (3, .int (nI k)), (0, .ref (ad 0)), (1, .int (nI i)), (2, .int (nI k))]) hx hb dX5_written_41 hl (by decide) rfl (fun ls hl => ?_)
      refine m_loop (σ 18 i) (fun n H locs ls => rW G ad (mA M sz) s.heap M σ_1 H locs ∧ ∃ kk : Nat, ptS σ i k = ptF σ i kk (σ 18 i - n) ∧ kk < 2147483648 ∧ lv_has ls 6 [(4, .int (nI (200 * i + (σ 18 i - n)) - nI 1)), (3, .int (nI kk)), (0, .ref (ad 0)), (1, .int (nI i)), (2, .int (nI k))]) 0 (Nat.zero_le _) ⟨hW, k, rfl, by omega, lv_sub hl [0, 1, 2, 3, 4] rfl⟩ (fun n H locs ls hn hI2 ih => ?_)
      obtain ⟨hW, kk, hpt, hkk, hl⟩ := hI2
      refine lv_iload hx hb dX5_written_43 (lv_at hl 0 rfl) ?_
      refine lv_sipush (v := nI 200) hx hb dX5_written_45 (by decide) ?_
      refine lv_iload_n hx hb dX5_written_48 rfl (lv_at hl 3 rfl) ?_
      refine lv_imul hx hb dX5_written_49 (lv_tope (pk_mul 200 i) ?_)
      refine lv_icmp_lt (tgt := 140) hx hb dX5_written_50 (by decide) (fun c_4 => ?_) (fun c_4 => ?_)
      · have c_4 := (nU_gtp (by omega) (by omega)).mp c_4
        refine lv_iconst (v := nI 0) hx hb dX5_written_140 (by decide) ?_
        exact rr_iret hx hb hr hlk (Nat.le_refl 0) (Nat.le_refl 0) hW (rP_x (k := 1) (show thN σ i k = 1 from by unfold thN; rw [if_neg (by omega), if_pos (by rw [hpt, show σ 18 i - n = 0 by omega]; rfl)]) (by decide) (by subst eσ_1; rfl)) dX5_written_141
      · have c_4 : ¬ 200 * i + (σ 18 i - n) ≤ 200 * i := fun z => c_4 ((nU_gtp (by omega) (by omega)).mpr z)
        have hm1 : nI (200 * i + (σ 18 i - n)) - nI 1 = nI (200 * i + (σ 18 i - (n + 1))) := by rw [pk_sub (by omega)]; exact congrArg nI (by omega)
        rw [hm1] at hl
        rw [show σ 18 i - n = (σ 18 i - (n + 1)) + 1 by omega] at hpt
        have h17n := h17 (200 * i + (σ 18 i - (n + 1)))
        have h17m := h17 (200 * i + (σ 18 i - (n + 1)) - 1)
        refine lv_aload_n hx hb dX5_written_53 rfl (lv_at hl 2 rfl) ?_
        refine rr_geta hx hb hts hinX5 hown hK hW 17 (by decide) rfl rfl (hts (.fieldLink RX5 55 "SeaPostModel" "markOf" "[I") (by decide +kernel)) dX5_written_54 ?_
        refine lv_iload hx hb dX5_written_57 (lv_at hl 0 rfl) ?_
        refine rr_ald (j := 200 * i + (σ 18 i - (n + 1))) hx hb hK hW 17 rfl rfl (show 200 * i + (σ 18 i - (n + 1)) < 8000 by omega) dX5_written_59 ?_
        refine lv_tope (congrArg nI (show σ_1 17 (200 * i + (σ 18 i - (n + 1))) = σ 17 (200 * i + (σ 18 i - (n + 1))) by rw [eσ_1, st_f (by decide)])) ?_
        refine rk_S (As := [.int (nI (σ 17 (200 * i + (σ 18 i - (n + 1)))))]) (nL := 6) ⟨hx, hb, hml, hown, hts⟩ (c5_isPortMark l (σ 17 (200 * i + (σ 18 i - (n + 1)))) (by omega)) (va_cwS 1 hts gX5_written_X5_isPortMark rfl rfl rfl (by decide +kernel) ⟨(Nat.le_of_ble_eq_true rfl), (Nat.le_of_ble_eq_true rfl)⟩) hK hE hW hA rfl hl.1 rfl (Nat.le_of_ble_eq_true rfl) dX5_written_60 (Nat.zero_le _) (Nat.zero_le _) (fun H locs hW => ?_)
        refine nb_if_eq (tgt := 134) hx hb dX5_written_63 (by decide) (fun c_5 => ?_) (fun c_5 => ?_)
        · skip
          refine lv_iinc (v := nI (200 * i + (σ 18 i - (n + 1))) - nI 1) (lv' := [(4, .int (nI (200 * i + (σ 18 i - (n + 1))) - nI 1)), (3, .int (nI kk)), (0, .ref (ad 0)), (1, .int (nI i)), (2, .int (nI k))]) hx hb dX5_written_134 hl (k := 0) rfl (by rw [show (Int32.ofInt (-1)) = - nI 1 by decide]; exact (Int32.sub_eq_add_neg ..).symm) (by decide) rfl (fun ls hl => ?_)
          refine lv_goto (tgt := 43) hx hb dX5_written_137 (by decide) ?_
          exact ih _ _ _ (by omega) ⟨hW, kk, by rw [hpt]; show (if _ then _ else _) = _; rw [if_neg (by assumption)], by omega, lv_sub hl [0, 1, 2, 3, 4] rfl⟩
        · skip
          refine lv_iload_n hx hb dX5_written_66 rfl (lv_at hl 1 rfl) ?_
          refine nv_if_ne (tgt := 131) hx hb dX5_written_67 (by decide) (by omega) (fun c_6 => ?_) (fun c_6 => ?_)
          · skip
            obtain ⟨k2, rfl⟩ : ∃ y, kk = y + 1 := ⟨kk - 1, by omega⟩
            refine lv_iinc (v := nI k2) (lv' := [(3, .int (nI k2)), (4, .int (nI (200 * i + (σ 18 i - (n + 1))))), (0, .ref (ad 0)), (1, .int (nI i)), (2, .int (nI k))]) hx hb dX5_written_131 hl (k := 1) rfl (by rw [show (Int32.ofInt (-1)) = -1 by decide]; exact pk_m1 _) (by decide) rfl (fun ls hl => ?_)
            refine lv_iinc (v := nI (200 * i + (σ 18 i - (n + 1))) - nI 1) (lv' := [(4, .int (nI (200 * i + (σ 18 i - (n + 1))) - nI 1)), (3, .int (nI k2)), (0, .ref (ad 0)), (1, .int (nI i)), (2, .int (nI k))]) hx hb dX5_written_134 hl (k := 1) rfl (by rw [show (Int32.ofInt (-1)) = - nI 1 by decide]; exact (Int32.sub_eq_add_neg ..).symm) (by decide) rfl (fun ls hl => ?_)
            refine lv_goto (tgt := 43) hx hb dX5_written_137 (by decide) ?_
            exact ih _ _ _ (by omega) ⟨hW, k2, by rw [hpt]; show (if _ then (if _ then _ else _) else _) = _; rw [if_pos (by assumption), if_neg (by omega), Nat.add_sub_cancel], by omega, lv_sub hl [0, 1, 2, 3, 4] rfl⟩
          · skip
            have hpt0 : ptS σ i k = σ 18 i - (n + 1) := by rw [hpt]; show (if _ then (if _ then _ else _) else _) = _; rw [if_pos (by assumption), if_pos (by omega)]
            have hpm9 : isPM (σ 17 (200 * i + (σ 18 i - (n + 1)))) := by assumption
            have hpm1 : 65 ≤ σ 17 (200 * i + (σ 18 i - (n + 1))) := hpm9.1
            refine lv_aload_n hx hb dX5_written_70 rfl (lv_at hl 2 rfl) ?_
            refine lv_iconst (v := nI 0) hx hb dX5_written_71 (by decide) ?_
            refine rr_puti (v := 0) hx hb hts hinX5 hown hK hW 25 (by decide) rfl rfl (hts (.fieldLink RX5 70 "SeaPostModel" "thrown" "I") (by decide +kernel)) rfl (by decide +kernel) dX5_written_72 (fun H locs hW => ?_)
            obtain ⟨σ_7, eσ_7⟩ : ∃ z : Sg, z = st σ_1 25 0 0 := ⟨_, rfl⟩
            rw [← eσ_7] at hW
            refine lv_iload hx hb dX5_written_75 (lv_at hl 0 rfl) ?_
            refine lv_sipush (v := nI 200) hx hb dX5_written_77 (by decide) ?_
            refine lv_iload_n hx hb dX5_written_80 rfl (lv_at hl 3 rfl) ?_
            refine lv_imul hx hb dX5_written_81 (lv_tope (pk_mul 200 i) ?_)
            refine m_joinI (g' := F0 m 104 ls [.int (nI (if 0 < ptS σ i k ∧ σ 17 (200 * i + ptS σ i k - 1) = 45 then 1 else 0))]) (fun H locs => rW G ad (mA M sz) s.heap M σ_7 H locs) (fun H locs hW => ?_) (fun J => ?_)
            · skip
              refine lv_istore (lv' := [(5, .int (nI (if 0 < ptS σ i k ∧ σ 17 (200 * i + ptS σ i k - 1) = 45 then 1 else 0))), (4, .int (nI (200 * i + (σ 18 i - (n + 1))))), (3, .int (nI kk)), (0, .ref (ad 0)), (1, .int (nI i)), (2, .int (nI k))]) hx hb dX5_written_104 hl (by decide) rfl (fun ls hl => ?_)
              refine lv_bipush (v := nI 10) hx hb dX5_written_106 (by decide) ?_
              refine lv_aload_n hx hb dX5_written_108 rfl (lv_at hl 3 rfl) ?_
              refine rr_geta hx hb hts hinX5 hown hK hW 17 (by decide) rfl rfl (hts (.fieldLink RX5 55 "SeaPostModel" "markOf" "[I") (by decide +kernel)) dX5_written_109 ?_
              refine lv_iload hx hb dX5_written_112 (lv_at hl 1 rfl) ?_
              refine rr_ald (j := 200 * i + (σ 18 i - (n + 1))) hx hb hK hW 17 rfl rfl (show 200 * i + (σ 18 i - (n + 1)) < 8000 by omega) dX5_written_114 ?_
              refine lv_tope (congrArg nI (show σ_7 17 (200 * i + (σ 18 i - (n + 1))) = σ 17 (200 * i + (σ 18 i - (n + 1))) by rw [eσ_7, st_f (by decide), eσ_1, st_f (by decide)])) ?_
              refine lv_bipush (v := nI 65) hx hb dX5_written_115 (by decide) ?_
              refine lv_isub hx hb dX5_written_117 (lv_tope (pk_sub (a := σ 17 (200 * i + (σ 18 i - (n + 1)))) (b := 65) (by omega)) ?_)
              refine lv_imul hx hb dX5_written_118 (lv_tope (pk_mul 10 ((σ 17 (200 * i + (σ 18 i - (n + 1)))) - 65)) ?_)
              refine lv_iload hx hb dX5_written_119 (lv_at hl 0 rfl) ?_
              refine nb_if_eq (tgt := 128) hx hb dX5_written_121 (by decide) (fun c_8 => ?_) (fun c_8 => ?_)
              · skip
                refine lv_iconst (v := nI 0) hx hb dX5_written_128 (by decide) ?_
                refine lv_iadd hx hb dX5_written_129 (lv_tope (nI_add (10 * ((σ 17 (200 * i + (σ 18 i - (n + 1)))) - 65)) 0) ?_)
                exact rr_iret hx hb hr hlk (Nat.le_refl 0) (Nat.le_refl 0) hW (rP_0 (show thN σ i k = 0 from by unfold thN; rw [if_neg (by omega), if_neg (by omega)]) (by unfold wtS; rw [hpt0]; first | (rw [if_pos (by rw [← hpt0]; assumption)]; done) | (rw [if_neg (by rw [← hpt0]; assumption)]; done)) (by subst eσ_1; subst eσ_7; rw [st_st])) dX5_written_130
              · skip
                refine lv_iconst (v := nI 1) hx hb dX5_written_124 (by decide) ?_
                refine lv_goto (tgt := 129) hx hb dX5_written_125 (by decide) ?_
                refine lv_iadd hx hb dX5_written_129 (lv_tope (nI_add (10 * ((σ 17 (200 * i + (σ 18 i - (n + 1)))) - 65)) 1) ?_)
                exact rr_iret hx hb hr hlk (Nat.le_refl 0) (Nat.le_refl 0) hW (rP_0 (show thN σ i k = 0 from by unfold thN; rw [if_neg (by omega), if_neg (by omega)]) (by unfold wtS; rw [hpt0]; first | (rw [if_pos (by rw [← hpt0]; assumption)]; done) | (rw [if_neg (by rw [← hpt0]; assumption)]; done)) (by subst eσ_1; subst eσ_7; rw [st_st])) dX5_written_130
            · skip
              refine nv_icmp_le (u := 200 * i + (σ 18 i - (n + 1))) (v := 200 * i) (tgt := 103) hx hb dX5_written_82 (by decide) (by omega) (by omega) (fun c_9 => ?_) (fun c_9 => ?_)
              · skip
                refine lv_iconst (v := nI 0) hx hb dX5_written_103 (by decide) ?_
                exact lv_tope (congrArg nI (show 0 = (if 0 < ptS σ i k ∧ σ 17 (200 * i + ptS σ i k - 1) = 45 then 1 else 0) by rw [hpt0]; first | (rw [if_pos ⟨by omega, by omega⟩]) | (rw [if_neg (by omega)]))) (J _ _ hW)
              · skip
                refine lv_aload_n hx hb dX5_written_85 rfl (lv_at hl 2 rfl) ?_
                refine rr_geta hx hb hts hinX5 hown hK hW 17 (by decide) rfl rfl (hts (.fieldLink RX5 55 "SeaPostModel" "markOf" "[I") (by decide +kernel)) dX5_written_86 ?_
                refine lv_iload hx hb dX5_written_89 (lv_at hl 0 rfl) ?_
                refine lv_iconst (v := nI 1) hx hb dX5_written_91 (by decide) ?_
                refine lv_isub hx hb dX5_written_92 (lv_tope (pk_sub (a := 200 * i + (σ 18 i - (n + 1))) (b := 1) (by omega)) ?_)
                refine rr_ald (j := (200 * i + (σ 18 i - (n + 1))) - 1) hx hb hK hW 17 rfl rfl (show (200 * i + (σ 18 i - (n + 1))) - 1 < 8000 by omega) dX5_written_93 ?_
                refine lv_tope (congrArg nI (show σ_7 17 ((200 * i + (σ 18 i - (n + 1))) - 1) = σ 17 ((200 * i + (σ 18 i - (n + 1))) - 1) by rw [eσ_7, st_f (by decide), eσ_1, st_f (by decide)])) ?_
                refine lv_bipush (v := nI 45) hx hb dX5_written_94 (by decide) ?_
                refine nv_icmp_ne (u := σ 17 ((200 * i + (σ 18 i - (n + 1))) - 1)) (v := 45) (tgt := 103) hx hb dX5_written_96 (by decide) (by omega) (by omega) (fun c_10 => ?_) (fun c_10 => ?_)
                · skip
                  refine lv_iconst (v := nI 0) hx hb dX5_written_103 (by decide) ?_
                  exact lv_tope (congrArg nI (show 0 = (if 0 < ptS σ i k ∧ σ 17 (200 * i + ptS σ i k - 1) = 45 then 1 else 0) by rw [hpt0]; first | (rw [if_pos ⟨by omega, by omega⟩]) | (rw [if_neg (by omega)]))) (J _ _ hW)
                · skip
                  refine lv_iconst (v := nI 1) hx hb dX5_written_99 (by decide) ?_
                  refine lv_goto (tgt := 104) hx hb dX5_written_100 (by decide) ?_
                  exact lv_tope (congrArg nI (show 1 = (if 0 < ptS σ i k ∧ σ 17 (200 * i + ptS σ i k - 1) = 45 then 1 else 0) by rw [hpt0]; first | (rw [if_pos ⟨by omega, by omega⟩]) | (rw [if_neg (by omega)]))) (J _ _ hW)
    · skip
      refine lv_iconst (v := nI 0) hx hb dX5_written_23 (by decide) ?_
      exact rr_iret hx hb hr hlk (Nat.le_refl 0) (Nat.le_refl 0) hW (rP_x (k := 1) (show thN σ i k = 1 from by unfold thN; rw [if_pos (by omega)]) (by decide) (by subst eσ_1; rfl)) dX5_written_24
