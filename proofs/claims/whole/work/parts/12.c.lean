/-! THE CLASS: marks are written (mine; the rows are laid by wip/whole/gen) -/

set_option maxHeartbeats 4000000 in
set_option maxRecDepth 100000 in
theorem uWrite (l : Launch) (G : mG) (N : Mem) (Γ : Adr) (ς : Sg) (i ch : Nat) (hi : i < ς 33 1) (h18 : ς 18 i < 128) (hch : ch < 65536) : cUv l yX0_write wsX0_write 0 0 0 G N Γ ς [.ref (Γ 10 i), .int (nI ch)] (wr ς i ch) := by
  intro M sz hR
  refine m_start cX0_write 2 none (by decide) rfl (Nat.le_of_ble_eq_true rfl) ?_
  intro p e s m below meth c ls hx hb hr hml hown hlk hnm hts hK hsz hE hW hl
  have hA := mA_A (M := M) hsz
  have hW : cW G N Γ ς (mA M sz) s.heap s.heap [] := ⟨M, hW, hR⟩
  have hl : lv_has ls 2 [(0, .ref (Γ 10 i)), (1, .int (nI ch))] := hl
  have hinX0 : ∀ w ∈ u_ws RX0 TX0 2, w ∈ wsX0_write := (fun _ h => List.mem_cons_of_mem _ (List.mem_append_right _ h))
  refine lv_aload_n hx hb dX0_write_0 rfl (lv_at hl 0 rfl) ?_
  refine cr_get hx hb hts hinX0 hown hK hW (fun M hM => hM.o10 (i := i) hi) (by rfl) 1 (by decide) (hts (.fieldLink RX0 15 "SeaPost$Cover" "length" "I") (by decide +kernel)) (fun _ h => h) rfl dX0_write_1 ?_
  refine lv_sipush (v := nI 128) hx hb dX0_write_4 (by decide) ?_
  refine nv_icmp_ge (u := ς 18 i) (v := 128) (tgt := 30) hx hb dX0_write_7 (by decide) (by omega) (by omega) (fun c_1 => ?_) (fun c_1 => ?_)
  · skip
    exact cr_vret hx hb hr hlk (Nat.le_of_ble_eq_true rfl) (Nat.le_of_ble_eq_true rfl) hW (by exfalso; omega) dX0_write_30
  · skip
    refine lv_aload_n hx hb dX0_write_10 rfl (lv_at hl 0 rfl) ?_
    refine cr_get hx hb hts hinX0 hown hK hW (fun M hM => hM.o10 (i := i) hi) (by rfl) 0 (by decide) (hts (.fieldLink RX0 9 "SeaPost$Cover" "signs" "[C") (by decide +kernel)) (fun _ h => h) rfl dX0_write_11 ?_
    refine lv_aload_n hx hb dX0_write_14 rfl (lv_at hl 0 rfl) ?_
    refine cr_get hx hb hts hinX0 hown hK hW (fun M hM => hM.o10 (i := i) hi) (by rfl) 1 (by decide) (hts (.fieldLink RX0 15 "SeaPost$Cover" "length" "I") (by decide +kernel)) (fun _ h => h) rfl dX0_write_15 ?_
    refine lv_iload_n hx hb dX0_write_18 rfl (lv_at hl 1 rfl) ?_
    refine cr_cast (j := ς 18 i) (x := ch) (ς' := st ς 17 (200 * i + (ς 18 i)) ch) hx hb hK hW (fun M hM => by obtain ⟨f, h1, h2⟩ := hM.o11 (i := i) hi; exact ⟨f, h1, hM.a11 hi (by omega) h2⟩) (by omega) (by omega) (mc_char (by omega)) dX0_write_19 (fun H locs hW => ?_)
    obtain ⟨σ_2, eσ_2⟩ : ∃ z : Sg, z = st ς 17 (200 * i + (ς 18 i)) ch := ⟨_, rfl⟩
    rw [← eσ_2] at hW
    refine lv_aload_n hx hb dX0_write_20 rfl (lv_at hl 0 rfl) ?_
    refine lv_dup hx hb dX0_write_21 rfl ?_
    refine cr_get hx hb hts hinX0 hown hK hW (fun M hM => hM.o10 (i := i) (by subst eσ_2; exact hi)) (by rfl) 1 (by decide) (hts (.fieldLink RX0 15 "SeaPost$Cover" "length" "I") (by decide +kernel)) (fun _ h => h) rfl dX0_write_22 ?_
    refine lv_tope (congrArg nI (show σ_2 18 i = ς 18 i by rw [eσ_2, st_f (by decide)])) ?_
    refine lv_iconst (v := nI 1) hx hb dX0_write_25 (by decide) ?_
    refine lv_iadd hx hb dX0_write_26 (lv_tope (nI_add (ς 18 i) 1) ?_)
    refine cr_put (ty := .int) (ς' := st σ_2 18 i (ς 18 i + 1)) hx hb hts hinX0 tyX0 tyX0_ok nmX0 hown hK hW (fun M hM => hM.o10 (i := i) (by subst eσ_2; exact hi)) (by rfl) 1 (by decide) (hts (.fieldLink RX0 15 "SeaPost$Cover" "length" "I") (by decide +kernel)) (fun _ h => h) rfl (by decide +kernel) rfl rfl (Nat.le_of_ble_eq_true rfl) rfl (fun M hM => hM.p10 (i := i) (v := ς 18 i + 1) (by subst eσ_2; exact hi)) dX0_write_27 (fun H locs hW => ?_)
    obtain ⟨σ_3, eσ_3⟩ : ∃ z : Sg, z = st σ_2 18 i (ς 18 i + 1) := ⟨_, rfl⟩
    rw [← eσ_3] at hW
    exact cr_vret hx hb hr hlk (Nat.le_of_ble_eq_true rfl) (Nat.le_of_ble_eq_true rfl) hW (by subst eσ_2; subst eσ_3; rfl) dX0_write_30

set_option maxHeartbeats 4000000 in
set_option maxRecDepth 100000 in
theorem uPort (l : Launch) (G : mG) (N : Mem) (Γ : Adr) (ς : Sg) (i q : Nat) (hi : i < ς 33 1) (h18 : ς 18 i < 128) (hq : q < 10) : cUv l yX0_writePort wsX0_writePort 1 0 0 G N Γ ς [.ref (Γ 10 i), .int (nI q)] (wr ς i (65 + q)) := by
  intro M sz hR
  refine m_start cX0_writePort 2 none (by decide) rfl (Nat.le_of_ble_eq_true rfl) ?_
  intro p e s m below meth c ls hx hb hr hml hown hlk hnm hts hK hsz hE hW hl
  have hA := mA_A (M := M) hsz
  have hW : cW G N Γ ς (mA M sz) s.heap s.heap [] := ⟨M, hW, hR⟩
  have hl : lv_has ls 2 [(0, .ref (Γ 10 i)), (1, .int (nI q))] := hl
  have hinX0 : ∀ w ∈ u_ws RX0 TX0 2, w ∈ wsX0_writePort := (fun _ h => List.mem_cons_of_mem _ (List.mem_append_right _ h))
  refine lv_aload_n hx hb dX0_writePort_0 rfl (lv_at hl 0 rfl) ?_
  refine lv_bipush (v := nI 65) hx hb dX0_writePort_1 (by decide) ?_
  refine lv_iload_n hx hb dX0_writePort_3 rfl (lv_at hl 1 rfl) ?_
  refine lv_iadd hx hb dX0_writePort_4 (lv_tope (nI_add 65 q) ?_)
  refine lv_i2c (v := nI (65 + q)) hx hb dX0_writePort_5 (mc_char (by omega)) ?_
  refine ck_Vv (r := (RX0, TX0, 2)) (As := [.int (nI (65 + q))]) (nL := 2) ⟨hx, hb, hml, hown, hts⟩ (uWrite l G N Γ ς i (65 + q) hi (by omega) (by omega)) (cwV 1 hts gX0_writePort_X0_write rfl rfl rfl (by decide +kernel) ⟨(Nat.le_of_ble_eq_true rfl), (Nat.le_of_ble_eq_true rfl)⟩) hK hE hW hA (fun M hM => hM.o10 (i := i) hi) (by rfl) rfl hl.1 rfl (Nat.le_of_ble_eq_true rfl) dX0_writePort_6 ⟨(Nat.le_of_ble_eq_true rfl), (Nat.le_of_ble_eq_true rfl)⟩ (fun H locs hW => ?_)
  obtain ⟨σ_1, eσ_1⟩ : ∃ z : Sg, z = wr ς i (65 + q) := ⟨_, rfl⟩
  rw [← eσ_1] at hW
  refine W.eq (g2 := F0 m 9 ls []) rfl ?_
  exact cr_vret hx hb hr hlk (Nat.le_of_ble_eq_true rfl) (Nat.le_of_ble_eq_true rfl) hW (by subst eσ_1; rfl) dX0_writePort_9
