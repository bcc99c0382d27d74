/-! THE CLASS: the day is written (mine) -/

set_option maxHeartbeats 4000000 in
set_option maxRecDepth 100000 in
theorem uDay (l : Launch) (G : mG) (N : Mem) (Γ : Adr) (ς : Sg) (i : Nat) (hi : i < ς 33 1) (h18 : ς 18 i ≤ 124) (hd : ς 24 0 ≤ 1000) : cUv l yX0_writeDay wsX0_writeDay 1 0 0 G N Γ ς [.ref (Γ 10 i), .int (nI (ς 24 0))] (wDay ς i) := by
  intro M sz hR
  refine m_start cX0_writeDay 3 none (by decide) rfl (Nat.le_of_ble_eq_true rfl) ?_
  intro p e s m below meth c ls hx hb hr hml hown hlk hnm hts hK hsz hE hW hl
  have hA := mA_A (M := M) hsz
  have hW : cW G N Γ ς (mA M sz) s.heap s.heap [] := ⟨M, hW, hR⟩
  have hl : lv_has ls 3 [(0, .ref (Γ 10 i)), (1, .int (nI (ς 24 0)))] := hl
  have hinX0 : ∀ w ∈ u_ws RX0 TX0 2, w ∈ wsX0_writeDay := (fun _ h => List.mem_cons_of_mem _ (List.mem_append_right _ h))
  refine lv_sipush (v := nI 1000) hx hb dX0_writeDay_0 (by decide) ?_
  refine lv_istore_n (lv' := [(2, .int (nI 1000)), (0, .ref (Γ 10 i)), (1, .int (nI (ς 24 0)))]) hx hb dX0_writeDay_3 rfl hl (by decide) rfl (fun ls hl => ?_)
  refine lv_iload_n hx hb dX0_writeDay_4 rfl (lv_at hl 0 rfl) ?_
  refine lv_if_le (tgt := 40) hx hb dX0_writeDay_5 (by decide) (fun z => absurd z (by decide)) (fun _ => ?_)
  refine m_joinI (g' := F0 m 32 ls []) (fun H locs => cW G N Γ (wDg ς i 1000) (mA M sz) s.heap H locs) (fun H locs hW => ?_) (fun J => ?_)
  · skip
    obtain ⟨σ_1, eσ_1⟩ : ∃ z : Sg, z = wDg ς i 1000 := ⟨_, rfl⟩
    rw [← eσ_1] at hW
    have lσ_1 : σ_1 18 i ≤ ς 18 i + 1 := by have := wDg_18 (σ := ς) (i := i) (u := 1000); rw [← eσ_1] at this; omega
    have dσ_1 : σ_1 24 0 = ς 24 0 := by rw [eσ_1, wDg_f (by decide)]
    have iσ_1 : i < σ_1 33 1 := by rw [eσ_1, wDg_f (by decide)]; exact hi
    refine lv_iload_n hx hb dX0_writeDay_32 rfl (lv_at hl 0 rfl) ?_
    refine lv_bipush (v := nI 10) hx hb dX0_writeDay_33 (by decide) ?_
    refine lv_idiv hx hb dX0_writeDay_35 (nI_ne0 (by omega) (by omega)) (lv_tope (y := nI 100) (pk_div (a := 1000) (d := 10) (by omega) (by omega) (by omega)) ?_)
    refine lv_istore_n (lv' := [(2, .int (nI 100)), (0, .ref (Γ 10 i)), (1, .int (nI (ς 24 0)))]) hx hb dX0_writeDay_36 rfl hl (by decide) rfl (fun ls hl => ?_)
    refine lv_goto (tgt := 4) hx hb dX0_writeDay_37 (by decide) ?_
    refine lv_iload_n hx hb dX0_writeDay_4 rfl (lv_at hl 0 rfl) ?_
    refine lv_if_le (tgt := 40) hx hb dX0_writeDay_5 (by decide) (fun z => absurd z (by decide)) (fun _ => ?_)
    refine m_joinI (g' := F0 m 32 ls []) (fun H locs => cW G N Γ (wDg σ_1 i 100) (mA M sz) s.heap H locs) (fun H locs hW => ?_) (fun J => ?_)
    · skip
      obtain ⟨σ_2, eσ_2⟩ : ∃ z : Sg, z = wDg σ_1 i 100 := ⟨_, rfl⟩
      rw [← eσ_2] at hW
      have lσ_2 : σ_2 18 i ≤ ς 18 i + 2 := by have := wDg_18 (σ := σ_1) (i := i) (u := 100); rw [← eσ_2] at this; omega
      have dσ_2 : σ_2 24 0 = ς 24 0 := by rw [eσ_2, wDg_f (by decide), dσ_1]
      have iσ_2 : i < σ_2 33 1 := by rw [eσ_2, wDg_f (by decide)]; exact iσ_1
      refine lv_iload_n hx hb dX0_writeDay_32 rfl (lv_at hl 0 rfl) ?_
      refine lv_bipush (v := nI 10) hx hb dX0_writeDay_33 (by decide) ?_
      refine lv_idiv hx hb dX0_writeDay_35 (nI_ne0 (by omega) (by omega)) (lv_tope (y := nI 10) (pk_div (a := 100) (d := 10) (by omega) (by omega) (by omega)) ?_)
      refine lv_istore_n (lv' := [(2, .int (nI 10)), (0, .ref (Γ 10 i)), (1, .int (nI (ς 24 0)))]) hx hb dX0_writeDay_36 rfl hl (by decide) rfl (fun ls hl => ?_)
      refine lv_goto (tgt := 4) hx hb dX0_writeDay_37 (by decide) ?_
      refine lv_iload_n hx hb dX0_writeDay_4 rfl (lv_at hl 0 rfl) ?_
      refine lv_if_le (tgt := 40) hx hb dX0_writeDay_5 (by decide) (fun z => absurd z (by decide)) (fun _ => ?_)
      refine m_joinI (g' := F0 m 32 ls []) (fun H locs => cW G N Γ (wDg σ_2 i 10) (mA M sz) s.heap H locs) (fun H locs hW => ?_) (fun J => ?_)
      · skip
        obtain ⟨σ_3, eσ_3⟩ : ∃ z : Sg, z = wDg σ_2 i 10 := ⟨_, rfl⟩
        rw [← eσ_3] at hW
        have lσ_3 : σ_3 18 i ≤ ς 18 i + 3 := by have := wDg_18 (σ := σ_2) (i := i) (u := 10); rw [← eσ_3] at this; omega
        have dσ_3 : σ_3 24 0 = ς 24 0 := by rw [eσ_3, wDg_f (by decide), dσ_2]
        have iσ_3 : i < σ_3 33 1 := by rw [eσ_3, wDg_f (by decide)]; exact iσ_2
        refine lv_iload_n hx hb dX0_writeDay_32 rfl (lv_at hl 0 rfl) ?_
        refine lv_bipush (v := nI 10) hx hb dX0_writeDay_33 (by decide) ?_
        refine lv_idiv hx hb dX0_writeDay_35 (nI_ne0 (by omega) (by omega)) (lv_tope (y := nI 1) (pk_div (a := 10) (d := 10) (by omega) (by omega) (by omega)) ?_)
        refine lv_istore_n (lv' := [(2, .int (nI 1)), (0, .ref (Γ 10 i)), (1, .int (nI (ς 24 0)))]) hx hb dX0_writeDay_36 rfl hl (by decide) rfl (fun ls hl => ?_)
        refine lv_goto (tgt := 4) hx hb dX0_writeDay_37 (by decide) ?_
        refine lv_iload_n hx hb dX0_writeDay_4 rfl (lv_at hl 0 rfl) ?_
        refine lv_if_le (tgt := 40) hx hb dX0_writeDay_5 (by decide) (fun z => absurd z (by decide)) (fun _ => ?_)
        refine m_joinI (g' := F0 m 32 ls []) (fun H locs => cW G N Γ (wDg σ_3 i 1) (mA M sz) s.heap H locs) (fun H locs hW => ?_) (fun J => ?_)
        · skip
          obtain ⟨σ_4, eσ_4⟩ : ∃ z : Sg, z = wDg σ_3 i 1 := ⟨_, rfl⟩
          rw [← eσ_4] at hW
          have lσ_4 : σ_4 18 i ≤ ς 18 i + 4 := by have := wDg_18 (σ := σ_3) (i := i) (u := 1); rw [← eσ_4] at this; omega
          have dσ_4 : σ_4 24 0 = ς 24 0 := by rw [eσ_4, wDg_f (by decide), dσ_3]
          have iσ_4 : i < σ_4 33 1 := by rw [eσ_4, wDg_f (by decide)]; exact iσ_3
          refine lv_iload_n hx hb dX0_writeDay_32 rfl (lv_at hl 0 rfl) ?_
          refine lv_bipush (v := nI 10) hx hb dX0_writeDay_33 (by decide) ?_
          refine lv_idiv hx hb dX0_writeDay_35 (nI_ne0 (by omega) (by omega)) (lv_tope (y := nI 0) (pk_div (a := 1) (d := 10) (by omega) (by omega) (by omega)) ?_)
          refine lv_istore_n (lv' := [(2, .int (nI 0)), (0, .ref (Γ 10 i)), (1, .int (nI (ς 24 0)))]) hx hb dX0_writeDay_36 rfl hl (by decide) rfl (fun ls hl => ?_)
          refine lv_goto (tgt := 4) hx hb dX0_writeDay_37 (by decide) ?_
          refine lv_iload_n hx hb dX0_writeDay_4 rfl (lv_at hl 0 rfl) ?_
          refine lv_if_le (tgt := 40) hx hb dX0_writeDay_5 (by decide) (fun _ => ?_) (fun z => absurd (by decide) z)
          exact cr_vret hx hb hr hlk (Nat.le_of_ble_eq_true rfl) (Nat.le_of_ble_eq_true rfl) hW (by subst eσ_1; subst eσ_2; subst eσ_3; subst eσ_4; rfl) dX0_writeDay_40
        · skip
          refine lv_iload_n hx hb dX0_writeDay_8 rfl (lv_at hl 2 rfl) ?_
          refine lv_iload_n hx hb dX0_writeDay_9 rfl (lv_at hl 0 rfl) ?_
          refine nv_icmp_ge (u := ς 24 0) (v := 1) (tgt := 18) hx hb dX0_writeDay_10 (by decide) (by omega) (by omega) (fun c_5 => ?_) (fun c_5 => ?_)
          · skip
            refine lv_aload_n hx hb dX0_writeDay_18 rfl (lv_at hl 1 rfl) ?_
            refine lv_bipush (v := nI 48) hx hb dX0_writeDay_19 (by decide) ?_
            refine lv_iload_n hx hb dX0_writeDay_21 rfl (lv_at hl 2 rfl) ?_
            refine lv_iload_n hx hb dX0_writeDay_22 rfl (lv_at hl 0 rfl) ?_
            refine lv_idiv hx hb dX0_writeDay_23 (nI_ne0 (by omega) (by omega)) (lv_tope (pk_div (a := ς 24 0) (d := 1) (by omega) (by omega) (by omega)) ?_)
            refine lv_bipush (v := nI 10) hx hb dX0_writeDay_24 (by decide) ?_
            refine lv_irem hx hb dX0_writeDay_26 (nI_ne0 (by omega) (by omega)) (lv_tope (pk_rem (a := (ς 24 0) / 1) (d := 10) (by omega) (by omega) (by omega)) ?_)
            refine lv_iadd hx hb dX0_writeDay_27 (lv_tope (nI_add 48 (((ς 24 0) / 1) % 10)) ?_)
            refine lv_i2c (v := nI (48 + (((ς 24 0) / 1) % 10))) hx hb dX0_writeDay_28 (mc_char (by omega)) ?_
            refine ck_Vv (r := (RX0, TX0, 2)) (As := [.int (nI (48 + (((ς 24 0) / 1) % 10)))]) (nL := 3) ⟨hx, hb, hml, hown, hts⟩ (uWrite l G N Γ σ_3 i (48 + (((ς 24 0) / 1) % 10)) iσ_3 (by have l9 := lσ_3; omega) (by omega)) (cwV 1 hts gX0_writeDay_X0_write rfl rfl rfl (by decide +kernel) ⟨(Nat.le_of_ble_eq_true rfl), (Nat.le_of_ble_eq_true rfl)⟩) hK hE hW hA (fun M hM => hM.o10 (i := i) iσ_3) (by rfl) rfl hl.1 rfl (Nat.le_of_ble_eq_true rfl) dX0_writeDay_29 ⟨(Nat.le_of_ble_eq_true rfl), (Nat.le_of_ble_eq_true rfl)⟩ (fun H locs hW => ?_)
            refine W.eq (g2 := F0 m 32 ls []) rfl ?_
            exact J _ _ (by rw [show wDg σ_3 i 1 = (wr σ_3 i (48 + (((ς 24 0) / 1) % 10))) by unfold wDg; rw [dσ_3]; rw [if_pos (by omega)]]; exact hW)
          · skip
            refine lv_iload_n hx hb dX0_writeDay_13 rfl (lv_at hl 0 rfl) ?_
            refine lv_iconst (v := nI 1) hx hb dX0_writeDay_14 (by decide) ?_
            refine lv_icmp_ne (tgt := 32) hx hb dX0_writeDay_15 (by decide) (fun z => absurd rfl z) (fun _ => ?_)
            refine lv_aload_n hx hb dX0_writeDay_18 rfl (lv_at hl 1 rfl) ?_
            refine lv_bipush (v := nI 48) hx hb dX0_writeDay_19 (by decide) ?_
            refine lv_iload_n hx hb dX0_writeDay_21 rfl (lv_at hl 2 rfl) ?_
            refine lv_iload_n hx hb dX0_writeDay_22 rfl (lv_at hl 0 rfl) ?_
            refine lv_idiv hx hb dX0_writeDay_23 (nI_ne0 (by omega) (by omega)) (lv_tope (pk_div (a := ς 24 0) (d := 1) (by omega) (by omega) (by omega)) ?_)
            refine lv_bipush (v := nI 10) hx hb dX0_writeDay_24 (by decide) ?_
            refine lv_irem hx hb dX0_writeDay_26 (nI_ne0 (by omega) (by omega)) (lv_tope (pk_rem (a := (ς 24 0) / 1) (d := 10) (by omega) (by omega) (by omega)) ?_)
            refine lv_iadd hx hb dX0_writeDay_27 (lv_tope (nI_add 48 (((ς 24 0) / 1) % 10)) ?_)
            refine lv_i2c (v := nI (48 + (((ς 24 0) / 1) % 10))) hx hb dX0_writeDay_28 (mc_char (by omega)) ?_
            refine ck_Vv (r := (RX0, TX0, 2)) (As := [.int (nI (48 + (((ς 24 0) / 1) % 10)))]) (nL := 3) ⟨hx, hb, hml, hown, hts⟩ (uWrite l G N Γ σ_3 i (48 + (((ς 24 0) / 1) % 10)) iσ_3 (by have l9 := lσ_3; omega) (by omega)) (cwV 1 hts gX0_writeDay_X0_write rfl rfl rfl (by decide +kernel) ⟨(Nat.le_of_ble_eq_true rfl), (Nat.le_of_ble_eq_true rfl)⟩) hK hE hW hA (fun M hM => hM.o10 (i := i) iσ_3) (by rfl) rfl hl.1 rfl (Nat.le_of_ble_eq_true rfl) dX0_writeDay_29 ⟨(Nat.le_of_ble_eq_true rfl), (Nat.le_of_ble_eq_true rfl)⟩ (fun H locs hW => ?_)
            refine W.eq (g2 := F0 m 32 ls []) rfl ?_
            exact J _ _ (by rw [show wDg σ_3 i 1 = (wr σ_3 i (48 + (((ς 24 0) / 1) % 10))) by unfold wDg; rw [dσ_3]; rw [if_pos (by omega)]]; exact hW)
      · skip
        refine lv_iload_n hx hb dX0_writeDay_8 rfl (lv_at hl 2 rfl) ?_
        refine lv_iload_n hx hb dX0_writeDay_9 rfl (lv_at hl 0 rfl) ?_
        refine nv_icmp_ge (u := ς 24 0) (v := 10) (tgt := 18) hx hb dX0_writeDay_10 (by decide) (by omega) (by omega) (fun c_6 => ?_) (fun c_6 => ?_)
        · skip
          refine lv_aload_n hx hb dX0_writeDay_18 rfl (lv_at hl 1 rfl) ?_
          refine lv_bipush (v := nI 48) hx hb dX0_writeDay_19 (by decide) ?_
          refine lv_iload_n hx hb dX0_writeDay_21 rfl (lv_at hl 2 rfl) ?_
          refine lv_iload_n hx hb dX0_writeDay_22 rfl (lv_at hl 0 rfl) ?_
          refine lv_idiv hx hb dX0_writeDay_23 (nI_ne0 (by omega) (by omega)) (lv_tope (pk_div (a := ς 24 0) (d := 10) (by omega) (by omega) (by omega)) ?_)
          refine lv_bipush (v := nI 10) hx hb dX0_writeDay_24 (by decide) ?_
          refine lv_irem hx hb dX0_writeDay_26 (nI_ne0 (by omega) (by omega)) (lv_tope (pk_rem (a := (ς 24 0) / 10) (d := 10) (by omega) (by omega) (by omega)) ?_)
          refine lv_iadd hx hb dX0_writeDay_27 (lv_tope (nI_add 48 (((ς 24 0) / 10) % 10)) ?_)
          refine lv_i2c (v := nI (48 + (((ς 24 0) / 10) % 10))) hx hb dX0_writeDay_28 (mc_char (by omega)) ?_
          refine ck_Vv (r := (RX0, TX0, 2)) (As := [.int (nI (48 + (((ς 24 0) / 10) % 10)))]) (nL := 3) ⟨hx, hb, hml, hown, hts⟩ (uWrite l G N Γ σ_2 i (48 + (((ς 24 0) / 10) % 10)) iσ_2 (by have l9 := lσ_2; omega) (by omega)) (cwV 1 hts gX0_writeDay_X0_write rfl rfl rfl (by decide +kernel) ⟨(Nat.le_of_ble_eq_true rfl), (Nat.le_of_ble_eq_true rfl)⟩) hK hE hW hA (fun M hM => hM.o10 (i := i) iσ_2) (by rfl) rfl hl.1 rfl (Nat.le_of_ble_eq_true rfl) dX0_writeDay_29 ⟨(Nat.le_of_ble_eq_true rfl), (Nat.le_of_ble_eq_true rfl)⟩ (fun H locs hW => ?_)
          refine W.eq (g2 := F0 m 32 ls []) rfl ?_
          exact J _ _ (by rw [show wDg σ_2 i 10 = (wr σ_2 i (48 + (((ς 24 0) / 10) % 10))) by unfold wDg; rw [dσ_2]; rw [if_pos (by omega)]]; exact hW)
        · skip
          refine lv_iload_n hx hb dX0_writeDay_13 rfl (lv_at hl 0 rfl) ?_
          refine lv_iconst (v := nI 1) hx hb dX0_writeDay_14 (by decide) ?_
          refine lv_icmp_ne (tgt := 32) hx hb dX0_writeDay_15 (by decide) (fun _ => ?_) (fun z => absurd z (by decide))
          exact J _ _ (by rw [show wDg σ_2 i 10 = σ_2 by unfold wDg; rw [dσ_2]; rw [if_neg (by omega)]]; exact hW)
    · skip
      refine lv_iload_n hx hb dX0_writeDay_8 rfl (lv_at hl 2 rfl) ?_
      refine lv_iload_n hx hb dX0_writeDay_9 rfl (lv_at hl 0 rfl) ?_
      refine nv_icmp_ge (u := ς 24 0) (v := 100) (tgt := 18) hx hb dX0_writeDay_10 (by decide) (by omega) (by omega) (fun c_7 => ?_) (fun c_7 => ?_)
      · skip
        refine lv_aload_n hx hb dX0_writeDay_18 rfl (lv_at hl 1 rfl) ?_
        refine lv_bipush (v := nI 48) hx hb dX0_writeDay_19 (by decide) ?_
        refine lv_iload_n hx hb dX0_writeDay_21 rfl (lv_at hl 2 rfl) ?_
        refine lv_iload_n hx hb dX0_writeDay_22 rfl (lv_at hl 0 rfl) ?_
        refine lv_idiv hx hb dX0_writeDay_23 (nI_ne0 (by omega) (by omega)) (lv_tope (pk_div (a := ς 24 0) (d := 100) (by omega) (by omega) (by omega)) ?_)
        refine lv_bipush (v := nI 10) hx hb dX0_writeDay_24 (by decide) ?_
        refine lv_irem hx hb dX0_writeDay_26 (nI_ne0 (by omega) (by omega)) (lv_tope (pk_rem (a := (ς 24 0) / 100) (d := 10) (by omega) (by omega) (by omega)) ?_)
        refine lv_iadd hx hb dX0_writeDay_27 (lv_tope (nI_add 48 (((ς 24 0) / 100) % 10)) ?_)
        refine lv_i2c (v := nI (48 + (((ς 24 0) / 100) % 10))) hx hb dX0_writeDay_28 (mc_char (by omega)) ?_
        refine ck_Vv (r := (RX0, TX0, 2)) (As := [.int (nI (48 + (((ς 24 0) / 100) % 10)))]) (nL := 3) ⟨hx, hb, hml, hown, hts⟩ (uWrite l G N Γ σ_1 i (48 + (((ς 24 0) / 100) % 10)) iσ_1 (by have l9 := lσ_1; omega) (by omega)) (cwV 1 hts gX0_writeDay_X0_write rfl rfl rfl (by decide +kernel) ⟨(Nat.le_of_ble_eq_true rfl), (Nat.le_of_ble_eq_true rfl)⟩) hK hE hW hA (fun M hM => hM.o10 (i := i) iσ_1) (by rfl) rfl hl.1 rfl (Nat.le_of_ble_eq_true rfl) dX0_writeDay_29 ⟨(Nat.le_of_ble_eq_true rfl), (Nat.le_of_ble_eq_true rfl)⟩ (fun H locs hW => ?_)
        refine W.eq (g2 := F0 m 32 ls []) rfl ?_
        exact J _ _ (by rw [show wDg σ_1 i 100 = (wr σ_1 i (48 + (((ς 24 0) / 100) % 10))) by unfold wDg; rw [dσ_1]; rw [if_pos (by omega)]]; exact hW)
      · skip
        refine lv_iload_n hx hb dX0_writeDay_13 rfl (lv_at hl 0 rfl) ?_
        refine lv_iconst (v := nI 1) hx hb dX0_writeDay_14 (by decide) ?_
        refine lv_icmp_ne (tgt := 32) hx hb dX0_writeDay_15 (by decide) (fun _ => ?_) (fun z => absurd z (by decide))
        exact J _ _ (by rw [show wDg σ_1 i 100 = σ_1 by unfold wDg; rw [dσ_1]; rw [if_neg (by omega)]]; exact hW)
  · skip
    refine lv_iload_n hx hb dX0_writeDay_8 rfl (lv_at hl 2 rfl) ?_
    refine lv_iload_n hx hb dX0_writeDay_9 rfl (lv_at hl 0 rfl) ?_
    refine nv_icmp_ge (u := ς 24 0) (v := 1000) (tgt := 18) hx hb dX0_writeDay_10 (by decide) (by omega) (by omega) (fun c_8 => ?_) (fun c_8 => ?_)
    · skip
      refine lv_aload_n hx hb dX0_writeDay_18 rfl (lv_at hl 1 rfl) ?_
      refine lv_bipush (v := nI 48) hx hb dX0_writeDay_19 (by decide) ?_
      refine lv_iload_n hx hb dX0_writeDay_21 rfl (lv_at hl 2 rfl) ?_
      refine lv_iload_n hx hb dX0_writeDay_22 rfl (lv_at hl 0 rfl) ?_
      refine lv_idiv hx hb dX0_writeDay_23 (nI_ne0 (by omega) (by omega)) (lv_tope (pk_div (a := ς 24 0) (d := 1000) (by omega) (by omega) (by omega)) ?_)
      refine lv_bipush (v := nI 10) hx hb dX0_writeDay_24 (by decide) ?_
      refine lv_irem hx hb dX0_writeDay_26 (nI_ne0 (by omega) (by omega)) (lv_tope (pk_rem (a := (ς 24 0) / 1000) (d := 10) (by omega) (by omega) (by omega)) ?_)
      refine lv_iadd hx hb dX0_writeDay_27 (lv_tope (nI_add 48 (((ς 24 0) / 1000) % 10)) ?_)
      refine lv_i2c (v := nI (48 + (((ς 24 0) / 1000) % 10))) hx hb dX0_writeDay_28 (mc_char (by omega)) ?_
      refine ck_Vv (r := (RX0, TX0, 2)) (As := [.int (nI (48 + (((ς 24 0) / 1000) % 10)))]) (nL := 3) ⟨hx, hb, hml, hown, hts⟩ (uWrite l G N Γ ς i (48 + (((ς 24 0) / 1000) % 10)) hi (by omega) (by omega)) (cwV 1 hts gX0_writeDay_X0_write rfl rfl rfl (by decide +kernel) ⟨(Nat.le_of_ble_eq_true rfl), (Nat.le_of_ble_eq_true rfl)⟩) hK hE hW hA (fun M hM => hM.o10 (i := i) hi) (by rfl) rfl hl.1 rfl (Nat.le_of_ble_eq_true rfl) dX0_writeDay_29 ⟨(Nat.le_of_ble_eq_true rfl), (Nat.le_of_ble_eq_true rfl)⟩ (fun H locs hW => ?_)
      refine W.eq (g2 := F0 m 32 ls []) rfl ?_
      exact J _ _ (by rw [show wDg ς i 1000 = (wr ς i (48 + (((ς 24 0) / 1000) % 10))) by unfold wDg; rw [if_pos (by omega)]]; exact hW)
    · skip
      refine lv_iload_n hx hb dX0_writeDay_13 rfl (lv_at hl 0 rfl) ?_
      refine lv_iconst (v := nI 1) hx hb dX0_writeDay_14 (by decide) ?_
      refine lv_icmp_ne (tgt := 32) hx hb dX0_writeDay_15 (by decide) (fun _ => ?_) (fun z => absurd z (by decide))
      exact J _ _ (by rw [show wDg ς i 1000 = ς by unfold wDg; rw [if_neg (by omega)]]; exact hW)
