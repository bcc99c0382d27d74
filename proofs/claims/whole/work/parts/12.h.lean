/-! THE CLASS: a letter is delivered, buried, handled by the word (mine) -/
def dvC (ς : Sg) (i : Nat) : Sg := st (st (st (wr (st (st ς 12 i 1) 16 i (ς 24 0)) i 33) 31 (64 * (20 + ς 9 i) + ς 30 (20 + ς 9 i)) i) 30 (20 + ς 9 i) (ς 30 (20 + ς 9 i) + 1)) 22 0 (ς 22 0 + 1)
def buC (ς : Sg) (i : Nat) : Sg := st (st (wr (st ς 12 i 5) i 43) 31 (64 * 2 + ς 30 2) i) 30 2 (ς 30 2 + 1)
def hwC (ς : Sg) (i wo vb vm : Nat) : Sg := if wo = 4294967295 then st ς 12 i 4 else if vb ≠ 0 then st ς 12 i 2 else if vm = 4294967295 then st ς 12 i 4 else if ς 15 i < 6 then sdC ς i vm else buC ς i

set_option maxHeartbeats 4000000 in
set_option maxRecDepth 100000 in
theorem uDeliver (l : Launch) (G : mG) (N : Mem) (Γ : Adr) (ς : Sg) (i : Nat) (hi : i < ς 33 1) (h9 : ς 9 i < ς 33 0) (h8 : ς 33 0 ≤ 8) (h18 : ς 18 i ≤ 127) (hn : ς 30 (20 + ς 9 i) ≤ 40) (hel : ∀ j, j < ς 30 (20 + ς 9 i) → ς 31 (64 * (20 + ς 9 i) + j) < ς 33 1) : cUv l yX4_deliver wsX4_deliver 7 1 64 G N Γ ς [.ref (Γ 0 0), .ref (Γ 9 i)] (dvC ς i) := by
  intro M sz hR
  refine m_start cX4_deliver 2 none (by decide) rfl (Nat.le_of_ble_eq_true rfl) ?_
  intro p e s m below meth c ls hx hb hr hml hown hlk hnm hts hK hsz hE hW hl
  have hA := mA_A (M := M) hsz
  have hW : cW G N Γ ς (mA M sz) s.heap s.heap [] := ⟨M, hW, hR⟩
  have hl : lv_has ls 2 [(0, .ref (Γ 0 0)), (1, .ref (Γ 9 i))] := hl
  have hinX0 : ∀ w ∈ u_ws RX0 TX0 2, w ∈ wsX4_deliver := (fun _ h => List.mem_cons_of_mem _ (List.mem_append_left _ (List.mem_append_right _ h)))
  have hinX1 : ∀ w ∈ u_ws RX1 TX1 10, w ∈ wsX4_deliver := (fun _ h => List.mem_cons_of_mem _ (List.mem_append_left _ (List.mem_append_left _ (List.mem_append_left _ (List.mem_append_left _ (List.mem_append_right _ h))))))
  have hinX3 : ∀ w ∈ u_ws RX3 TX3 3, w ∈ wsX4_deliver := (fun _ h => List.mem_cons_of_mem _ (List.mem_append_left _ (List.mem_append_left _ (List.mem_append_right _ h))))
  have hinX4 : ∀ w ∈ u_ws RX4 TX4 6, w ∈ wsX4_deliver := (fun _ h => List.mem_cons_of_mem _ (List.mem_append_left _ (List.mem_append_left _ (List.mem_append_left _ (List.mem_append_right _ h)))))
  have hinJx4a65c : ∀ w ∈ u_ws RJx4a65c TJx4a65c 3, w ∈ wsX4_deliver := (fun _ h => List.mem_cons_of_mem _ (List.mem_append_right _ h))
  refine lv_aload_n hx hb dX4_deliver_0 rfl (lv_at hl 1 rfl) ?_
  refine lv_iconst (v := nI 1) hx hb dX4_deliver_1 (by decide) ?_
  refine cr_put (ty := .int) (ς' := st ς 12 i 1) hx hb hts hinX1 tyX1 tyX1_ok nmX1 hown hK hW (fun M hM => hM.o9 (i := i) hi) (by rfl) 5 (by decide) (hts (.fieldLink RX4 145 "SeaPost$Letter" "condition" "I") (by decide +kernel)) (fun _ h => h) rfl (by decide +kernel) rfl rfl (Nat.le_of_ble_eq_true rfl) rfl (fun M hM => hM.p9_12 (i := i) (v := 1) hi) dX4_deliver_2 (fun H locs hW => ?_)
  obtain ⟨σ_1, eσ_1⟩ : ∃ z : Sg, z = st ς 12 i 1 := ⟨_, rfl⟩
  rw [← eσ_1] at hW
  refine lv_aload_n hx hb dX4_deliver_5 rfl (lv_at hl 1 rfl) ?_
  refine lv_aload_n hx hb dX4_deliver_6 rfl (lv_at hl 0 rfl) ?_
  refine cr_get hx hb hts hinX4 hown hK hW (fun M hM => hM.o0) (by rfl) 4 (by decide) (hts (.fieldLink RX4 84 "SeaPost" "day" "I") (by decide +kernel)) (fun _ h => h) rfl dX4_deliver_7 ?_
  refine lv_tope (congrArg nI (show σ_1 24 0 = ς 24 0 by rw [eσ_1, st_f (by decide)])) ?_
  refine cr_put (ty := .int) (ς' := st σ_1 16 i (ς 24 0)) hx hb hts hinX1 tyX1 tyX1_ok nmX1 hown hK hW (fun M hM => hM.o9 (i := i) (by subst eσ_1; exact hi)) (by rfl) 9 (by decide) (hts (.fieldLink RX4 255 "SeaPost$Letter" "deliveredOn" "I") (by decide +kernel)) (fun _ h => h) rfl (by decide +kernel) rfl rfl (Nat.le_of_ble_eq_true rfl) rfl (fun M hM => hM.p9_16 (i := i) (v := ς 24 0) (by subst eσ_1; exact hi)) dX4_deliver_10 (fun H locs hW => ?_)
  obtain ⟨σ_2, eσ_2⟩ : ∃ z : Sg, z = st σ_1 16 i (ς 24 0) := ⟨_, rfl⟩
  rw [← eσ_2] at hW
  have l18 : σ_2 18 i = ς 18 i := by subst eσ_1; subst eσ_2; rfl
  refine lv_aload_n hx hb dX4_deliver_13 rfl (lv_at hl 1 rfl) ?_
  refine cr_get hx hb hts hinX1 hown hK hW (fun M hM => hM.o9 (i := i) (by subst eσ_1; subst eσ_2; exact hi)) (by rfl) 4 (by decide) (hts (.fieldLink RX4 106 "SeaPost$Letter" "cover" "LSeaPost$Cover;") (by decide +kernel)) (fun _ h => h) rfl dX4_deliver_14 ?_
  refine lv_bipush (v := nI 33) hx hb dX4_deliver_17 (by decide) ?_
  refine ck_Vv (r := (RX0, TX0, 2)) (As := [.int (nI 33)]) (nL := 2) ⟨hx, hb, hml, hown, hts⟩ (uWrite l G N Γ σ_2 i (33) (by subst eσ_1; subst eσ_2; exact hi) (by omega) (by omega)) (cwV 1 hts gX4_deliver_X0_write rfl rfl rfl (by decide +kernel) ⟨(Nat.le_of_ble_eq_true rfl), (Nat.le_of_ble_eq_true rfl)⟩) hK hE hW hA (fun M hM => hM.o10 (i := i) (by subst eσ_1; subst eσ_2; exact hi)) (by rfl) rfl hl.1 rfl (Nat.le_of_ble_eq_true rfl) dX4_deliver_19 ⟨(Nat.le_of_ble_eq_true rfl), (Nat.le_of_ble_eq_true rfl)⟩ (fun H locs hW => ?_)
  obtain ⟨σ_3, eσ_3⟩ : ∃ z : Sg, z = wr σ_2 i (33) := ⟨_, rfl⟩
  rw [← eσ_3] at hW
  refine W.eq (g2 := F0 m 22 ls []) rfl ?_
  refine lv_aload_n hx hb dX4_deliver_22 rfl (lv_at hl 1 rfl) ?_
  refine cr_get hx hb hts hinX1 hown hK hW (fun M hM => hM.o9 (i := i) (by subst eσ_1; subst eσ_2; subst eσ_3; exact hi)) (by rfl) 1 (by decide) (hts (.fieldLink RX4 163 "SeaPost$Letter" "ship" "LSeaPost$Ship;") (by decide +kernel)) (fun _ h => h) rfl dX4_deliver_23 ?_
  refine W.eq (g2 := F0 m 26 ls [.ref (Γ 4 (ς 9 i))]) (by rw [show σ_3 9 i = ς 9 i by rw [eσ_3, wr_f (by decide), eσ_2, st_f (by decide), eσ_1, st_f (by decide)]]) ?_
  refine cr_get hx hb hts hinX3 hown hK hW (fun M hM => hM.o4 (i := ς 9 i) (by subst eσ_1; subst eσ_2; subst eσ_3; exact h9)) (by rfl) 1 (by decide) (hts (.fieldLink RX4 185 "SeaPost$Ship" "received" "Ljava/util/ArrayList;") (by decide +kernel)) (fun _ h => h) rfl dX4_deliver_26 ?_
  refine lv_aload_n hx hb dX4_deliver_29 rfl (lv_at hl 1 rfl) ?_
  refine ck_addL (x := 20 + ς 9 i) (n := ς 30 (20 + ς 9 i)) (i := i) ⟨hx, hb, hml, hown, hts⟩ (cwV 1 hts gX4_deliver_Jx4a65c_add_9ea2d rfl rfl rfl (by decide +kernel) ⟨(Nat.le_of_ble_eq_true rfl), (Nat.le_of_ble_eq_true rfl)⟩) hK hE hW hA (by subst eσ_1; subst eσ_2; subst eσ_3; exact isL_r h9) (by omega) (by subst eσ_1; subst eσ_2; subst eσ_3; exact h8) (by subst eσ_1; subst eσ_2; subst eσ_3; rfl) (by omega) (by subst eσ_1; subst eσ_2; subst eσ_3; exact hi) (by subst eσ_1; subst eσ_2; subst eσ_3; exact hel) hl.1 (Nat.le_of_ble_eq_true rfl) dX4_deliver_30 ⟨(Nat.le_of_ble_eq_true rfl), (Nat.le_of_ble_eq_true rfl)⟩ (fun H locs hW => ?_)
  obtain ⟨σ_4, eσ_4⟩ : ∃ z : Sg, z = st (st σ_3 31 (64 * (20 + ς 9 i) + ς 30 (20 + ς 9 i)) i) 30 (20 + ς 9 i) (ς 30 (20 + ς 9 i) + 1) := ⟨_, rfl⟩
  rw [← eσ_4] at hW
  refine W.eq (g2 := F0 m 33 ls [.int (nI 1)]) rfl ?_
  refine lv_pop hx hb dX4_deliver_33 rfl ?_
  refine lv_aload_n hx hb dX4_deliver_34 rfl (lv_at hl 0 rfl) ?_
  refine lv_dup hx hb dX4_deliver_35 rfl ?_
  refine cr_get hx hb hts hinX4 hown hK hW (fun M hM => hM.o0) (by rfl) 5 (by decide) (hts (.fieldLink RX4 136 "SeaPost" "deliveries" "I") (by decide +kernel)) (fun _ h => h) rfl dX4_deliver_36 ?_
  refine lv_tope (congrArg nI (show σ_4 22 0 = ς 22 0 by subst eσ_1; subst eσ_2; subst eσ_3; subst eσ_4; rfl)) ?_
  refine lv_iconst (v := nI 1) hx hb dX4_deliver_39 (by decide) ?_
  refine lv_iadd hx hb dX4_deliver_40 (lv_tope (nI_add (ς 22 0) 1) ?_)
  refine cr_put (ty := .int) (ς' := st σ_4 22 0 (ς 22 0 + 1)) hx hb hts hinX4 tyX4 tyX4_ok nmX4 hown hK hW (fun M hM => hM.o0) (by rfl) 5 (by decide) (hts (.fieldLink RX4 136 "SeaPost" "deliveries" "I") (by decide +kernel)) (fun _ h => h) rfl (by decide +kernel) rfl rfl (Nat.le_of_ble_eq_true rfl) rfl (fun M hM => hM.p0_22) dX4_deliver_41 (fun H locs hW => ?_)
  obtain ⟨σ_5, eσ_5⟩ : ∃ z : Sg, z = st σ_4 22 0 (ς 22 0 + 1) := ⟨_, rfl⟩
  rw [← eσ_5] at hW
  exact cr_vret hx hb hr hlk (Nat.le_of_ble_eq_true rfl) (Nat.le_of_ble_eq_true rfl) hW (by subst eσ_1; subst eσ_2; subst eσ_3; subst eσ_4; subst eσ_5; rfl) dX4_deliver_44

set_option maxHeartbeats 4000000 in
set_option maxRecDepth 100000 in
theorem uBury (l : Launch) (G : mG) (N : Mem) (Γ : Adr) (ς : Sg) (i : Nat) (hi : i < ς 33 1) (h8 : ς 33 0 ≤ 8) (h18 : ς 18 i ≤ 127) (hn : ς 30 2 ≤ 40) (hel : ∀ j, j < ς 30 2 → ς 31 (64 * 2 + j) < ς 33 1) : cUv l yX4_bury wsX4_bury 7 1 64 G N Γ ς [.ref (Γ 0 0), .ref (Γ 9 i)] (buC ς i) := by
  intro M sz hR
  refine m_start cX4_bury 2 none (by decide) rfl (Nat.le_of_ble_eq_true rfl) ?_
  intro p e s m below meth c ls hx hb hr hml hown hlk hnm hts hK hsz hE hW hl
  have hA := mA_A (M := M) hsz
  have hW : cW G N Γ ς (mA M sz) s.heap s.heap [] := ⟨M, hW, hR⟩
  have hl : lv_has ls 2 [(0, .ref (Γ 0 0)), (1, .ref (Γ 9 i))] := hl
  have hinX0 : ∀ w ∈ u_ws RX0 TX0 2, w ∈ wsX4_bury := (fun _ h => List.mem_cons_of_mem _ (List.mem_append_left _ (List.mem_append_right _ h)))
  have hinX1 : ∀ w ∈ u_ws RX1 TX1 10, w ∈ wsX4_bury := (fun _ h => List.mem_cons_of_mem _ (List.mem_append_left _ (List.mem_append_left _ (List.mem_append_left _ (List.mem_append_right _ h)))))
  have hinX4 : ∀ w ∈ u_ws RX4 TX4 6, w ∈ wsX4_bury := (fun _ h => List.mem_cons_of_mem _ (List.mem_append_left _ (List.mem_append_left _ (List.mem_append_right _ h))))
  have hinJx4a65c : ∀ w ∈ u_ws RJx4a65c TJx4a65c 3, w ∈ wsX4_bury := (fun _ h => List.mem_cons_of_mem _ (List.mem_append_right _ h))
  refine lv_aload_n hx hb dX4_bury_0 rfl (lv_at hl 1 rfl) ?_
  refine lv_iconst (v := nI 5) hx hb dX4_bury_1 (by decide) ?_
  refine cr_put (ty := .int) (ς' := st ς 12 i 5) hx hb hts hinX1 tyX1 tyX1_ok nmX1 hown hK hW (fun M hM => hM.o9 (i := i) hi) (by rfl) 5 (by decide) (hts (.fieldLink RX4 145 "SeaPost$Letter" "condition" "I") (by decide +kernel)) (fun _ h => h) rfl (by decide +kernel) rfl rfl (Nat.le_of_ble_eq_true rfl) rfl (fun M hM => hM.p9_12 (i := i) (v := 5) hi) dX4_bury_2 (fun H locs hW => ?_)
  obtain ⟨σ_1, eσ_1⟩ : ∃ z : Sg, z = st ς 12 i 5 := ⟨_, rfl⟩
  rw [← eσ_1] at hW
  have l18 : σ_1 18 i = ς 18 i := by subst eσ_1; rfl
  refine lv_aload_n hx hb dX4_bury_5 rfl (lv_at hl 1 rfl) ?_
  refine cr_get hx hb hts hinX1 hown hK hW (fun M hM => hM.o9 (i := i) (by subst eσ_1; exact hi)) (by rfl) 4 (by decide) (hts (.fieldLink RX4 106 "SeaPost$Letter" "cover" "LSeaPost$Cover;") (by decide +kernel)) (fun _ h => h) rfl dX4_bury_6 ?_
  refine lv_bipush (v := nI 43) hx hb dX4_bury_9 (by decide) ?_
  refine ck_Vv (r := (RX0, TX0, 2)) (As := [.int (nI 43)]) (nL := 2) ⟨hx, hb, hml, hown, hts⟩ (uWrite l G N Γ σ_1 i (43) (by subst eσ_1; exact hi) (by omega) (by omega)) (cwV 1 hts gX4_bury_X0_write rfl rfl rfl (by decide +kernel) ⟨(Nat.le_of_ble_eq_true rfl), (Nat.le_of_ble_eq_true rfl)⟩) hK hE hW hA (fun M hM => hM.o10 (i := i) (by subst eσ_1; exact hi)) (by rfl) rfl hl.1 rfl (Nat.le_of_ble_eq_true rfl) dX4_bury_11 ⟨(Nat.le_of_ble_eq_true rfl), (Nat.le_of_ble_eq_true rfl)⟩ (fun H locs hW => ?_)
  obtain ⟨σ_2, eσ_2⟩ : ∃ z : Sg, z = wr σ_1 i (43) := ⟨_, rfl⟩
  rw [← eσ_2] at hW
  refine W.eq (g2 := F0 m 14 ls []) rfl ?_
  refine lv_aload_n hx hb dX4_bury_14 rfl (lv_at hl 0 rfl) ?_
  refine cr_get hx hb hts hinX4 hown hK hW (fun M hM => hM.o0) (by rfl) 2 (by decide) (hts (.fieldLink RX4 19 "SeaPost" "deadMail" "Ljava/util/ArrayList;") (by decide +kernel)) (fun _ h => h) rfl dX4_bury_15 ?_
  refine lv_aload_n hx hb dX4_bury_18 rfl (lv_at hl 1 rfl) ?_
  refine ck_addL (x := 2) (n := ς 30 2) (i := i) ⟨hx, hb, hml, hown, hts⟩ (cwV 1 hts gX4_bury_Jx4a65c_add_9ea2d rfl rfl rfl (by decide +kernel) ⟨(Nat.le_of_ble_eq_true rfl), (Nat.le_of_ble_eq_true rfl)⟩) hK hE hW hA (by subst eσ_1; subst eσ_2; exact Or.inl (by omega)) (by omega) (by subst eσ_1; subst eσ_2; exact h8) (by subst eσ_1; subst eσ_2; rfl) (by omega) (by subst eσ_1; subst eσ_2; exact hi) (by subst eσ_1; subst eσ_2; exact hel) hl.1 (Nat.le_of_ble_eq_true rfl) dX4_bury_19 ⟨(Nat.le_of_ble_eq_true rfl), (Nat.le_of_ble_eq_true rfl)⟩ (fun H locs hW => ?_)
  obtain ⟨σ_3, eσ_3⟩ : ∃ z : Sg, z = st (st σ_2 31 (64 * 2 + ς 30 2) i) 30 2 (ς 30 2 + 1) := ⟨_, rfl⟩
  rw [← eσ_3] at hW
  refine W.eq (g2 := F0 m 22 ls [.int (nI 1)]) rfl ?_
  refine lv_pop hx hb dX4_bury_22 rfl ?_
  exact cr_vret hx hb hr hlk (Nat.le_of_ble_eq_true rfl) (Nat.le_of_ble_eq_true rfl) hW (by subst eσ_1; subst eσ_2; subst eσ_3; rfl) dX4_bury_23

set_option maxHeartbeats 4000000 in
set_option maxRecDepth 100000 in
theorem uByWord (l : Launch) (G : mG) (N : Mem) (Γ : Adr) (ς : Sg) (i wo vb vm : Nat) (hi : i < ς 33 1) (h9 : ς 9 i < ς 33 0) (h8 : ς 33 0 ≤ 8) (h13 : ς 13 i < 10) (ht : ς 30 (10 + ς 9 i) ≤ 20) (h12 : ∀ r, r < 168 → ς 1 r ≤ 9 ∧ ς 2 r ≤ 1000) (hd : ς 24 0 ≤ 1000) (h18 : ς 18 i ≤ 125) (hlp : lpS ς i < ς 18 i) (hs : ∀ j, j < 128 → ς 17 (200 * i + j) < 65536) (h15 : ς 15 i < 2147483648) (hnd : ς 30 2 ≤ 40) (hed : ∀ j, j < ς 30 2 → ς 31 (64 * 2 + j) < ς 33 1) (hwo : woF ς (ς 13 i) (ς 9 i) (ς 30 (10 + ς 9 i)) = wo) (hwb : wo < 4294967296) (hw0 : wo ≠ 4294967295 → wo < ς 30 (10 + ς 9 i) ∧ isR ς (21 * ς 9 i + wo) ∧ ς 3 (21 * ς 9 i + wo) ≤ 6 ∧ (∀ j, j < 6 → ς 4 (6 * (21 * ς 9 i + wo) + j) < 10 ∧ ς 5 (6 * (21 * ς 9 i + wo) + j) < 2147483648 ∧ ς 6 (6 * (21 * ς 9 i + wo) + j) < 2147483648) ∧ FS (fun j => ς 4 (6 * (21 * ς 9 i + wo) + j) = ς 13 i ∧ ς 24 0 < ς 5 (6 * (21 * ς 9 i + wo) + j)) (fun j => 1) (ς 3 (21 * ς 9 i + wo)) 0 vb ∧ FS (fun j => ς 4 (6 * (21 * ς 9 i + wo) + j) ≠ ς 13 i ∧ ς 24 0 + dist (ς 13 i) (ς 4 (6 * (21 * ς 9 i + wo) + j)) + 1 ≤ ς 6 (6 * (21 * ς 9 i + wo) + j)) (fun j => ς 4 (6 * (21 * ς 9 i + wo) + j)) (ς 3 (21 * ς 9 i + wo)) 4294967295 vm) (mc : Nat) (hmc : wo ≠ 4294967295 → vb = 0 → vm ≠ 4294967295 → 6 ≤ ς 15 i → 1 ≤ mc) : cUv l yX4_handleByWord wsX4_handleByWord 8 mc (64 * mc) G N Γ ς [.ref (Γ 0 0), .ref (Γ 9 i)] (hwC ς i wo vb vm) := by
  intro M sz hR
  refine m_start cX4_handleByWord 5 none (by decide) rfl (Nat.le_of_ble_eq_true rfl) ?_
  intro p e s m below meth c ls hx hb hr hml hown hlk hnm hts hK hsz hE hW hl
  have hA := mA_A (M := M) hsz
  have hW : cW G N Γ ς (mA M sz) s.heap s.heap [] := ⟨M, hW, hR⟩
  have hl : lv_has ls 5 [(0, .ref (Γ 0 0)), (1, .ref (Γ 9 i))] := hl
  have hinX0 : ∀ w ∈ u_ws RX0 TX0 2, w ∈ wsX4_handleByWord := (fun _ h => List.mem_cons_of_mem _ (List.mem_append_right _ h))
  have hinX1 : ∀ w ∈ u_ws RX1 TX1 10, w ∈ wsX4_handleByWord := (fun _ h => List.mem_cons_of_mem _ (List.mem_append_left _ (List.mem_append_left _ (List.mem_append_left _ (List.mem_append_left _ (List.mem_append_left _ (List.mem_append_right _ h)))))))
  have hinX2 : ∀ w ∈ u_ws RX2 TX2 6, w ∈ wsX4_handleByWord := (fun _ h => List.mem_cons_of_mem _ (List.mem_append_left _ (List.mem_append_left _ (List.mem_append_right _ h))))
  have hinX3 : ∀ w ∈ u_ws RX3 TX3 3, w ∈ wsX4_handleByWord := (fun _ h => List.mem_cons_of_mem _ (List.mem_append_left _ (List.mem_append_left _ (List.mem_append_left _ (List.mem_append_right _ h)))))
  have hinX4 : ∀ w ∈ u_ws RX4 TX4 6, w ∈ wsX4_handleByWord := (fun _ h => List.mem_cons_of_mem _ (List.mem_append_left _ (List.mem_append_left _ (List.mem_append_left _ (List.mem_append_left _ (List.mem_append_right _ h))))))
  have hinJx4a65c : ∀ w ∈ u_ws RJx4a65c TJx4a65c 3, w ∈ wsX4_handleByWord := (fun _ h => List.mem_cons_of_mem _ (List.mem_append_left _ (List.mem_append_right _ h)))
  refine lv_aload_n hx hb dX4_handleByWord_0 rfl (lv_at hl 1 rfl) ?_
  refine cr_get hx hb hts hinX1 hown hK hW (fun M hM => hM.o9 (i := i) hi) (by rfl) 1 (by decide) (hts (.fieldLink RX4 163 "SeaPost$Letter" "ship" "LSeaPost$Ship;") (by decide +kernel)) (fun _ h => h) rfl dX4_handleByWord_1 ?_
  refine lv_aload_n hx hb dX4_handleByWord_4 rfl (lv_at hl 1 rfl) ?_
  refine cr_get hx hb hts hinX1 hown hK hW (fun M hM => hM.o9 (i := i) hi) (by rfl) 6 (by decide) (hts (.fieldLink RX4 157 "SeaPost$Letter" "port" "I") (by decide +kernel)) (fun _ h => h) rfl dX4_handleByWord_5 ?_
  refine lv_aload_n hx hb dX4_handleByWord_8 rfl (lv_at hl 0 rfl) ?_
  refine cr_get hx hb hts hinX4 hown hK hW (fun M hM => hM.o0) (by rfl) 4 (by decide) (hts (.fieldLink RX4 84 "SeaPost" "day" "I") (by decide +kernel)) (fun _ h => h) rfl dX4_handleByWord_9 ?_
  obtain ⟨M9x, hW, hR⟩ := hW
  refine mk_i (va_runV (As := [.int (nI (ς 13 i)), .int (nI (ς 24 0))]) (nL := 5) ⟨hx, hb, hml, hown, hts⟩ (kWordIn l G N Γ ς (ς 9 i) (ς 13 i) h9 h8 h13 ht h12 hd _ _ hR) (cwV 2 hts gX4_handleByWord_X3_wordIn rfl rfl rfl (by decide +kernel) ⟨(Nat.le_of_ble_eq_true rfl), (Nat.le_of_ble_eq_true rfl)⟩) (mp_V hK hE hW hA (mW_recv hK hW.1 (hR.o4 h9) (by rfl))) rfl rfl hl.1 rfl (lv_room (Nat.le_of_ble_eq_true rfl)) dX4_handleByWord_12 ⟨Nat.zero_le _, Nat.zero_le _⟩) hW hA (fun r9 M9 H locs hp hW => ?_)
  obtain ⟨e91, e92⟩ := hp
  rw [hwo] at e91
  subst e91
  rw [e92] at hW
  clear e92
  refine W.eq (g2 := F0 m 15 ls [.int (nI wo)]) rfl ?_
  have hW : cW G N Γ ς (mA M sz) s.heap H locs := ⟨_, hW, hR⟩
  refine lv_istore_n (lv' := [(2, .int (nI wo)), (0, .ref (Γ 0 0)), (1, .ref (Γ 9 i))]) hx hb dX4_handleByWord_15 rfl hl (by decide) rfl (fun ls hl => ?_)
  refine lv_iload_n hx hb dX4_handleByWord_16 rfl (lv_at hl 0 rfl) ?_
  refine lv_iconst (v := nI 4294967295) hx hb dX4_handleByWord_17 (by decide) ?_
  refine nv_icmp_ne (u := wo) (v := 4294967295) (tgt := 27) hx hb dX4_handleByWord_18 (by decide) (by omega) (by omega) (fun c_1 => ?_) (fun c_1 => ?_)
  · skip
    obtain ⟨hwl, hrow, h3, hb4, hvb, hvm⟩ := hw0 (by omega)
    have hvbb : vb ≤ 1 := by
      rcases hvb with ⟨j, j1, j2, j3, j4⟩ | ⟨-, j4⟩
      · have j4 : vb = 1 := j4; omega
      · omega
    have hvmb : vm < 10 ∨ vm = 4294967295 := by
      rcases hvm with ⟨j, j1, j2, j3, j4⟩ | ⟨-, j4⟩
      · have := (hb4 j (by omega)).1; have j4 : vm = ς 4 (6 * (21 * ς 9 i + wo) + j) := j4; omega
      · omega
    refine lv_aload_n hx hb dX4_handleByWord_27 rfl (lv_at hl 2 rfl) ?_
    refine cr_get hx hb hts hinX1 hown hK hW (fun M hM => hM.o9 (i := i) hi) (by rfl) 1 (by decide) (hts (.fieldLink RX4 163 "SeaPost$Letter" "ship" "LSeaPost$Ship;") (by decide +kernel)) (fun _ h => h) rfl dX4_handleByWord_28 ?_
    refine cr_get hx hb hts hinX3 hown hK hW (fun M hM => hM.o4 (i := ς 9 i) h9) (by rfl) 0 (by decide) (hts (.fieldLink RX4 79 "SeaPost$Ship" "told" "Ljava/util/ArrayList;") (by decide +kernel)) (fun _ h => h) rfl dX4_handleByWord_31 ?_
    refine lv_iload_n hx hb dX4_handleByWord_34 rfl (lv_at hl 0 rfl) ?_
    obtain ⟨M9x, hW, hR⟩ := hW
    obtain ⟨z_2m, z_2a, z_2f, z_2, -, -⟩ := hR.o2 (x := 10 + (ς 9 i)) (isL_t h9)
    refine mk_q (va_runV (As := [.int (nI wo)]) (nL := 5) ⟨hx, hb, hml, hown, hts⟩ (kGetT l G N Γ ς (ς 9 i) wo h9 h8 hwl _ _ hR) (cwV 1 hts gX4_handleByWord_Jx4a65c_get_915e3 rfl rfl rfl (by decide +kernel) ⟨(Nat.le_of_ble_eq_true rfl), (Nat.le_of_ble_eq_true rfl)⟩) (mp_V hK hE hW hA (mW_recv hK hW.1 z_2 (by rfl))) rfl rfl hl.1 rfl (lv_room (Nat.le_of_ble_eq_true rfl)) dX4_handleByWord_35 ⟨(by first | exact Nat.le_of_ble_eq_true rfl | exact Nat.zero_le _ | (show _ ≤ mc; omega) | (show _ ≤ 64 * mc; omega)), (by first | exact Nat.le_of_ble_eq_true rfl | exact Nat.zero_le _ | (show _ ≤ mc; omega) | (show _ ≤ 64 * mc; omega))⟩) hW hA (fun r9 M9 H locs hp_3 hW => ?_)
    obtain ⟨e91, e92⟩ := hp_3
    subst e91
    rw [e92] at hW
    clear e92
    refine W.eq (g2 := F0 m 38 ls [.ref (Γ 5 (21 * ς 9 i + wo))]) rfl ?_
    have hW : cW G N Γ (ς) (mA M sz) s.heap H locs := ⟨_, hW, hR⟩
    obtain ⟨M9x, hW, hR⟩ := hW
    refine va_castS hx hb hown (hts (.classLink RX4 64 RX2) (by decide +kernel)) (hK.1 3 _ rfl).2 (mW_recv hK hW.1 (hR.o5 (i := 21 * ς 9 i + wo) hrow) (by rfl)) dX4_handleByWord_38 ?_
    have hW : cW G N Γ (ς) (mA M sz) s.heap _ _ := ⟨_, hW, hR⟩
    refine lv_astore_n (lv' := [(3, .ref (Γ 5 (21 * ς 9 i + wo))), (2, .int (nI wo)), (0, .ref (Γ 0 0)), (1, .ref (Γ 9 i))]) hx hb dX4_handleByWord_41 rfl hl (by decide) rfl (fun ls hl => ?_)
    refine lv_aload_n hx hb dX4_handleByWord_42 rfl (lv_at hl 0 rfl) ?_
    refine lv_aload_n hx hb dX4_handleByWord_43 rfl (lv_at hl 3 rfl) ?_
    refine cr_get hx hb hts hinX1 hown hK hW (fun M hM => hM.o9 (i := i) hi) (by rfl) 6 (by decide) (hts (.fieldLink RX4 157 "SeaPost$Letter" "port" "I") (by decide +kernel)) (fun _ h => h) rfl dX4_handleByWord_44 ?_
    refine lv_aload_n hx hb dX4_handleByWord_47 rfl (lv_at hl 2 rfl) ?_
    refine cr_get hx hb hts hinX4 hown hK hW (fun M hM => hM.o0) (by rfl) 4 (by decide) (hts (.fieldLink RX4 84 "SeaPost" "day" "I") (by decide +kernel)) (fun _ h => h) rfl dX4_handleByWord_48 ?_
    obtain ⟨M9x, hW, hR⟩ := hW
    refine mk_i (va_runV (As := [.int (nI (ς 13 i)), .int (nI (ς 24 0))]) (nL := 5) ⟨hx, hb, hml, hown, hts⟩ (kBehind l G N Γ ς (21 * ς 9 i + wo) (ς 13 i) (ς 24 0) vb hrow h3 hb4 (by omega) h13 hvb _ _ hR) (cwV 2 hts gX4_handleByWord_X2_arrivesBehind rfl rfl rfl (by decide +kernel) ⟨(Nat.le_of_ble_eq_true rfl), (Nat.le_of_ble_eq_true rfl)⟩) (mp_V hK hE hW hA (mW_recv hK hW.1 (hR.o5 (i := 21 * ς 9 i + wo) hrow) (by rfl))) rfl rfl hl.1 rfl (lv_room (Nat.le_of_ble_eq_true rfl)) dX4_handleByWord_51 ⟨(by first | exact Nat.le_of_ble_eq_true rfl | exact Nat.zero_le _ | (show _ ≤ mc; omega) | (show _ ≤ 64 * mc; omega)), (by first | exact Nat.le_of_ble_eq_true rfl | exact Nat.zero_le _ | (show _ ≤ mc; omega) | (show _ ≤ 64 * mc; omega))⟩) hW hA (fun r9 M9 H locs hp_4 hW => ?_)
    obtain ⟨e91, e92⟩ := hp_4
    subst e91
    rw [e92] at hW
    clear e92
    refine W.eq (g2 := F0 m 54 ls [.int (nI vb)]) rfl ?_
    have hW : cW G N Γ (ς) (mA M sz) s.heap H locs := ⟨_, hW, hR⟩
    refine nv_if_eq (tgt := 63) hx hb dX4_handleByWord_54 (by decide) (by omega) (fun c_5 => ?_) (fun c_5 => ?_)
    · skip
      refine lv_aload_n hx hb dX4_handleByWord_63 rfl (lv_at hl 0 rfl) ?_
      refine lv_aload_n hx hb dX4_handleByWord_64 rfl (lv_at hl 3 rfl) ?_
      refine cr_get hx hb hts hinX1 hown hK hW (fun M hM => hM.o9 (i := i) hi) (by rfl) 6 (by decide) (hts (.fieldLink RX4 157 "SeaPost$Letter" "port" "I") (by decide +kernel)) (fun _ h => h) rfl dX4_handleByWord_65 ?_
      refine lv_aload_n hx hb dX4_handleByWord_68 rfl (lv_at hl 2 rfl) ?_
      refine cr_get hx hb hts hinX4 hown hK hW (fun M hM => hM.o0) (by rfl) 4 (by decide) (hts (.fieldLink RX4 84 "SeaPost" "day" "I") (by decide +kernel)) (fun _ h => h) rfl dX4_handleByWord_69 ?_
      obtain ⟨M9x, hW, hR⟩ := hW
      refine mk_i (va_runV (As := [.int (nI (ς 13 i)), .int (nI (ς 24 0))]) (nL := 5) ⟨hx, hb, hml, hown, hts⟩ (kMeet l G N Γ ς (21 * ς 9 i + wo) (ς 13 i) (ς 24 0) vm hrow h3 hb4 (by omega) h13 (by omega) hvm _ _ hR) (cwV 2 hts gX4_handleByWord_X2_portOfMeeting rfl rfl rfl (by decide +kernel) ⟨(Nat.le_of_ble_eq_true rfl), (Nat.le_of_ble_eq_true rfl)⟩) (mp_V hK hE hW hA (mW_recv hK hW.1 (hR.o5 (i := 21 * ς 9 i + wo) hrow) (by rfl))) rfl rfl hl.1 rfl (lv_room (Nat.le_of_ble_eq_true rfl)) dX4_handleByWord_72 ⟨(by first | exact Nat.le_of_ble_eq_true rfl | exact Nat.zero_le _ | (show _ ≤ mc; omega) | (show _ ≤ 64 * mc; omega)), (by first | exact Nat.le_of_ble_eq_true rfl | exact Nat.zero_le _ | (show _ ≤ mc; omega) | (show _ ≤ 64 * mc; omega))⟩) hW hA (fun r9 M9 H locs hp_6 hW => ?_)
      obtain ⟨e91, e92⟩ := hp_6
      subst e91
      rw [e92] at hW
      clear e92
      refine W.eq (g2 := F0 m 75 ls [.int (nI vm)]) rfl ?_
      have hW : cW G N Γ (ς) (mA M sz) s.heap H locs := ⟨_, hW, hR⟩
      refine lv_istore (lv' := [(4, .int (nI vm)), (3, .ref (Γ 5 (21 * ς 9 i + wo))), (2, .int (nI wo)), (0, .ref (Γ 0 0)), (1, .ref (Γ 9 i))]) hx hb dX4_handleByWord_75 hl (by decide) rfl (fun ls hl => ?_)
      refine lv_iload hx hb dX4_handleByWord_77 (lv_at hl 0 rfl) ?_
      refine lv_iconst (v := nI 4294967295) hx hb dX4_handleByWord_79 (by decide) ?_
      refine nv_icmp_ne (u := vm) (v := 4294967295) (tgt := 91) hx hb dX4_handleByWord_80 (by decide) (by omega) (by omega) (fun c_7 => ?_) (fun c_7 => ?_)
      · skip
        refine lv_aload_n hx hb dX4_handleByWord_91 rfl (lv_at hl 4 rfl) ?_
        refine cr_get hx hb hts hinX1 hown hK hW (fun M hM => hM.o9 (i := i) hi) (by rfl) 8 (by decide) (hts (.fieldLink RX4 160 "SeaPost$Letter" "sendings" "I") (by decide +kernel)) (fun _ h => h) rfl dX4_handleByWord_92 ?_
        refine lv_bipush (v := nI 6) hx hb dX4_handleByWord_95 (by decide) ?_
        refine nv_icmp_lt (u := ς 15 i) (v := 6) (tgt := 108) hx hb dX4_handleByWord_97 (by decide) (by omega) (by omega) (fun c_8 => ?_) (fun c_8 => ?_)
        · skip
          have hvq : vm < 10 := by omega
          refine lv_aload_n hx hb dX4_handleByWord_108 rfl (lv_at hl 4 rfl) ?_
          refine lv_iload hx hb dX4_handleByWord_109 (lv_at hl 0 rfl) ?_
          refine lv_aload_n hx hb dX4_handleByWord_111 rfl (lv_at hl 3 rfl) ?_
          refine cr_get hx hb hts hinX4 hown hK hW (fun M hM => hM.o0) (by rfl) 4 (by decide) (hts (.fieldLink RX4 84 "SeaPost" "day" "I") (by decide +kernel)) (fun _ h => h) rfl dX4_handleByWord_112 ?_
          refine ck_Vv (r := (RX1, TX1, 10)) (As := [.int (nI vm), .int (nI (ς 24 0))]) (nL := 5) ⟨hx, hb, hml, hown, hts⟩ (uSend l G N Γ ς i vm hi h13 hvq (by omega) h18 hlp hs) (cwV 2 hts gX4_handleByWord_X1_sendTo rfl rfl rfl (by decide +kernel) ⟨(Nat.le_of_ble_eq_true rfl), (Nat.le_of_ble_eq_true rfl)⟩) hK hE hW hA (fun M hM => hM.o9 (i := i) hi) (by rfl) rfl hl.1 rfl (Nat.le_of_ble_eq_true rfl) dX4_handleByWord_115 ⟨(by first | exact Nat.le_of_ble_eq_true rfl | exact Nat.zero_le _ | (show _ ≤ mc; omega) | (show _ ≤ 64 * mc; omega)), (by first | exact Nat.le_of_ble_eq_true rfl | exact Nat.zero_le _ | (show _ ≤ mc; omega) | (show _ ≤ 64 * mc; omega))⟩ (fun H locs hW => ?_)
          obtain ⟨σ_9, eσ_9⟩ : ∃ z : Sg, z = sdC ς i vm := ⟨_, rfl⟩
          rw [← eσ_9] at hW
          refine W.eq (g2 := F0 m 118 ls []) rfl ?_
          exact cr_vret hx hb hr hlk (by first | exact Nat.le_of_ble_eq_true rfl | exact Nat.zero_le _ | (show _ ≤ mc; omega) | (show _ ≤ 64 * mc; omega)) (by first | exact Nat.le_of_ble_eq_true rfl | exact Nat.zero_le _ | (show _ ≤ mc; omega) | (show _ ≤ 64 * mc; omega)) hW (by subst eσ_9; unfold hwC; repeat (first | rw [if_pos (by first | assumption | omega)] | rw [if_neg (by first | assumption | omega)])) dX4_handleByWord_118
        · skip
          have hmc9 : 1 ≤ mc := hmc (by omega) (by omega) (by omega) (by omega)
          refine lv_aload_n hx hb dX4_handleByWord_100 rfl (lv_at hl 3 rfl) ?_
          refine lv_aload_n hx hb dX4_handleByWord_101 rfl (lv_at hl 4 rfl) ?_
          refine ck_Vv (r := (RX4, TX4, 6)) (As := [.ref (Γ 9 i)]) (nL := 5) ⟨hx, hb, hml, hown, hts⟩ (uBury l G N Γ ς i hi h8 (by omega) hnd hed) (cwV 1 hts gX4_handleByWord_X4_bury rfl rfl rfl (by decide +kernel) ⟨(Nat.le_of_ble_eq_true rfl), (Nat.le_of_ble_eq_true rfl)⟩) hK hE hW hA (fun M hM => hM.o0) (by rfl) rfl hl.1 rfl (Nat.le_of_ble_eq_true rfl) dX4_handleByWord_102 ⟨(by first | exact Nat.le_of_ble_eq_true rfl | exact Nat.zero_le _ | (show _ ≤ mc; omega) | (show _ ≤ 64 * mc; omega)), (by first | exact Nat.le_of_ble_eq_true rfl | exact Nat.zero_le _ | (show _ ≤ mc; omega) | (show _ ≤ 64 * mc; omega))⟩ (fun H locs hW => ?_)
          obtain ⟨σ_10, eσ_10⟩ : ∃ z : Sg, z = buC ς i := ⟨_, rfl⟩
          rw [← eσ_10] at hW
          refine W.eq (g2 := F0 m 105 ls []) rfl ?_
          refine lv_goto (tgt := 118) hx hb dX4_handleByWord_105 (by decide) ?_
          exact cr_vret hx hb hr hlk (by first | exact Nat.le_of_ble_eq_true rfl | exact Nat.zero_le _ | (show _ ≤ mc; omega) | (show _ ≤ 64 * mc; omega)) (by first | exact Nat.le_of_ble_eq_true rfl | exact Nat.zero_le _ | (show _ ≤ mc; omega) | (show _ ≤ 64 * mc; omega)) hW (by subst eσ_10; unfold hwC; repeat (first | rw [if_pos (by first | assumption | omega)] | rw [if_neg (by first | assumption | omega)])) dX4_handleByWord_118
      · skip
        refine lv_aload_n hx hb dX4_handleByWord_83 rfl (lv_at hl 4 rfl) ?_
        refine lv_iconst (v := nI 4) hx hb dX4_handleByWord_84 (by decide) ?_
        refine cr_put (ty := .int) (ς' := st ς 12 i 4) hx hb hts hinX1 tyX1 tyX1_ok nmX1 hown hK hW (fun M hM => hM.o9 (i := i) hi) (by rfl) 5 (by decide) (hts (.fieldLink RX4 145 "SeaPost$Letter" "condition" "I") (by decide +kernel)) (fun _ h => h) rfl (by decide +kernel) rfl rfl (Nat.le_of_ble_eq_true rfl) rfl (fun M hM => hM.p9_12 (i := i) (v := 4) hi) dX4_handleByWord_85 (fun H locs hW => ?_)
        obtain ⟨σ_11, eσ_11⟩ : ∃ z : Sg, z = st ς 12 i 4 := ⟨_, rfl⟩
        rw [← eσ_11] at hW
        refine lv_goto (tgt := 118) hx hb dX4_handleByWord_88 (by decide) ?_
        exact cr_vret hx hb hr hlk (by first | exact Nat.le_of_ble_eq_true rfl | exact Nat.zero_le _ | (show _ ≤ mc; omega) | (show _ ≤ 64 * mc; omega)) (by first | exact Nat.le_of_ble_eq_true rfl | exact Nat.zero_le _ | (show _ ≤ mc; omega) | (show _ ≤ 64 * mc; omega)) hW (by subst eσ_11; unfold hwC; repeat (first | rw [if_pos (by first | assumption | omega)] | rw [if_neg (by first | assumption | omega)])) dX4_handleByWord_118
    · skip
      refine lv_aload_n hx hb dX4_handleByWord_57 rfl (lv_at hl 3 rfl) ?_
      refine lv_iconst (v := nI 2) hx hb dX4_handleByWord_58 (by decide) ?_
      refine cr_put (ty := .int) (ς' := st ς 12 i 2) hx hb hts hinX1 tyX1 tyX1_ok nmX1 hown hK hW (fun M hM => hM.o9 (i := i) hi) (by rfl) 5 (by decide) (hts (.fieldLink RX4 145 "SeaPost$Letter" "condition" "I") (by decide +kernel)) (fun _ h => h) rfl (by decide +kernel) rfl rfl (Nat.le_of_ble_eq_true rfl) rfl (fun M hM => hM.p9_12 (i := i) (v := 2) hi) dX4_handleByWord_59 (fun H locs hW => ?_)
      obtain ⟨σ_12, eσ_12⟩ : ∃ z : Sg, z = st ς 12 i 2 := ⟨_, rfl⟩
      rw [← eσ_12] at hW
      exact cr_vret hx hb hr hlk (by first | exact Nat.le_of_ble_eq_true rfl | exact Nat.zero_le _ | (show _ ≤ mc; omega) | (show _ ≤ 64 * mc; omega)) (by first | exact Nat.le_of_ble_eq_true rfl | exact Nat.zero_le _ | (show _ ≤ mc; omega) | (show _ ≤ 64 * mc; omega)) hW (by subst eσ_12; unfold hwC; repeat (first | rw [if_pos (by first | assumption | omega)] | rw [if_neg (by first | assumption | omega)])) dX4_handleByWord_62
  · skip
    refine lv_aload_n hx hb dX4_handleByWord_21 rfl (lv_at hl 2 rfl) ?_
    refine lv_iconst (v := nI 4) hx hb dX4_handleByWord_22 (by decide) ?_
    refine cr_put (ty := .int) (ς' := st ς 12 i 4) hx hb hts hinX1 tyX1 tyX1_ok nmX1 hown hK hW (fun M hM => hM.o9 (i := i) hi) (by rfl) 5 (by decide) (hts (.fieldLink RX4 145 "SeaPost$Letter" "condition" "I") (by decide +kernel)) (fun _ h => h) rfl (by decide +kernel) rfl rfl (Nat.le_of_ble_eq_true rfl) rfl (fun M hM => hM.p9_12 (i := i) (v := 4) hi) dX4_handleByWord_23 (fun H locs hW => ?_)
    obtain ⟨σ_13, eσ_13⟩ : ∃ z : Sg, z = st ς 12 i 4 := ⟨_, rfl⟩
    rw [← eσ_13] at hW
    exact cr_vret hx hb hr hlk (by first | exact Nat.le_of_ble_eq_true rfl | exact Nat.zero_le _ | (show _ ≤ mc; omega) | (show _ ≤ 64 * mc; omega)) (by first | exact Nat.le_of_ble_eq_true rfl | exact Nat.zero_le _ | (show _ ≤ mc; omega) | (show _ ≤ 64 * mc; omega)) hW (by subst eσ_13; unfold hwC; repeat (first | rw [if_pos (by first | assumption | omega)] | rw [if_neg (by first | assumption | omega)])) dX4_handleByWord_26
