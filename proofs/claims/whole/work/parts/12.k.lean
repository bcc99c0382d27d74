/-! THE CLASS: a letter is handled (mine) -/
theorem kSailC (l : Launch) (G : mG) (N : Mem) (Γ : Adr) (ς : Sg) (u d v : Nat) (hs : u < ς 33 0) (h8 : ς 33 0 ≤ 8) (hd : d < 2147483648) (hpv : (ς 30 (10 + u) = 0 ∧ v = 4294967295) ∨ ∃ k, ς 30 (10 + u) = k + 1 ∧ k < 20 ∧ ς 3 (21 * u + k) ≤ 6 ∧ (∀ j, j < 6 → ς 4 (6 * (21 * u + k) + j) < 10 ∧ ς 5 (6 * (21 * u + k) + j) < 2147483648 ∧ ς 6 (6 * (21 * u + k) + j) < 2147483648) ∧ FS (fun j => ς 5 (6 * (21 * u + k) + j) ≤ d ∧ d ≤ ς 6 (6 * (21 * u + k) + j)) (fun j => ς 4 (6 * (21 * u + k) + j)) (ς 3 (21 * u + k)) 4294967295 v) (M : Mem) (sz : Nat) (hR : Rp G N Γ ς M) : cMi l yX3_portOn wsX3_portOn 3 0 0 G M sz [.ref (Γ 4 u), .int (nI d)] (fun y9 M' => y9 = nI (v) ∧ M' = M) := by
  rcases hpv with ⟨h1, rfl⟩ | ⟨k, h1, h2, h3, h4, h5⟩
  · exact kSail0 l G N Γ ς u d hs h8 h1 M sz hR
  · exact kSail l G N Γ ς u d k v hs h8 h1 h2 h3 h4 hd h5 M sz hR
def haC (ς : Sg) (i pv wo vb vm : Nat) : Sg := if ς 24 0 < ς 23 (ς 13 i) then hld ς i else if pv = ς 13 i then dvC ς i else hwC ς i wo vb vm

set_option maxHeartbeats 4000000 in
set_option maxRecDepth 100000 in
theorem uHandle (l : Launch) (G : mG) (N : Mem) (Γ : Adr) (ς : Sg) (i pv wo vb vm : Nat) (hi : i < ς 33 1) (h9 : ς 9 i < ς 33 0) (h8 : ς 33 0 ≤ 8) (h13 : ς 13 i < 10) (ht : ς 30 (10 + ς 9 i) ≤ 20) (h12 : ∀ r, r < 168 → ς 1 r ≤ 9 ∧ ς 2 r ≤ 1000) (hd : ς 24 0 ≤ 1000) (h18 : ς 18 i ≤ 125) (hlp : lpS ς i < ς 18 i) (hs : ∀ j, j < 128 → ς 17 (200 * i + j) < 65536) (h15 : ς 15 i < 2147483648) (hnd : ς 30 2 ≤ 40) (hed : ∀ j, j < ς 30 2 → ς 31 (64 * 2 + j) < ς 33 1) (h12b : ς 12 i < 4294967296) (h23 : ς 23 (ς 13 i) < 2147483648) (hnr : ς 30 (20 + ς 9 i) ≤ 40) (her : ∀ j, j < ς 30 (20 + ς 9 i) → ς 31 (64 * (20 + ς 9 i) + j) < ς 33 1) (hpb : pv < 4294967296) (hpv : (ς 30 (10 + ς 9 i) = 0 ∧ pv = 4294967295) ∨ ∃ k, ς 30 (10 + ς 9 i) = k + 1 ∧ k < 20 ∧ ς 3 (21 * ς 9 i + k) ≤ 6 ∧ (∀ j, j < 6 → ς 4 (6 * (21 * ς 9 i + k) + j) < 10 ∧ ς 5 (6 * (21 * ς 9 i + k) + j) < 2147483648 ∧ ς 6 (6 * (21 * ς 9 i + k) + j) < 2147483648) ∧ FS (fun j => ς 5 (6 * (21 * ς 9 i + k) + j) ≤ ς 24 0 ∧ ς 24 0 ≤ ς 6 (6 * (21 * ς 9 i + k) + j)) (fun j => ς 4 (6 * (21 * ς 9 i + k) + j)) (ς 3 (21 * ς 9 i + k)) 4294967295 pv) (hwo : woF ς (ς 13 i) (ς 9 i) (ς 30 (10 + ς 9 i)) = wo) (hwb : wo < 4294967296) (hw0 : wo ≠ 4294967295 → wo < ς 30 (10 + ς 9 i) ∧ isR ς (21 * ς 9 i + wo) ∧ ς 3 (21 * ς 9 i + wo) ≤ 6 ∧ (∀ j, j < 6 → ς 4 (6 * (21 * ς 9 i + wo) + j) < 10 ∧ ς 5 (6 * (21 * ς 9 i + wo) + j) < 2147483648 ∧ ς 6 (6 * (21 * ς 9 i + wo) + j) < 2147483648) ∧ FS (fun j => ς 4 (6 * (21 * ς 9 i + wo) + j) = ς 13 i ∧ ς 24 0 < ς 5 (6 * (21 * ς 9 i + wo) + j)) (fun j => 1) (ς 3 (21 * ς 9 i + wo)) 0 vb ∧ FS (fun j => ς 4 (6 * (21 * ς 9 i + wo) + j) ≠ ς 13 i ∧ ς 24 0 + dist (ς 13 i) (ς 4 (6 * (21 * ς 9 i + wo) + j)) + 1 ≤ ς 6 (6 * (21 * ς 9 i + wo) + j)) (fun j => ς 4 (6 * (21 * ς 9 i + wo) + j)) (ς 3 (21 * ς 9 i + wo)) 4294967295 vm) (mc : Nat) (hmc : ¬ ς 24 0 < ς 23 (ς 13 i) → (pv = ς 13 i → 1 ≤ mc) ∧ (pv ≠ ς 13 i → wo ≠ 4294967295 → vb = 0 → vm ≠ 4294967295 → 6 ≤ ς 15 i → 1 ≤ mc)) : cUv l yX4_handle wsX4_handle 9 mc (64 * mc) G N Γ ς [.ref (Γ 0 0), .ref (Γ 9 i)] (haC ς i pv wo vb vm) := by
  intro M sz hR
  refine m_start cX4_handle 2 none (by decide) rfl (Nat.le_of_ble_eq_true rfl) ?_
  intro p e s m below meth c ls hx hb hr hml hown hlk hnm hts hK hsz hE hW hl
  have hA := mA_A (M := M) hsz
  have hW : cW G N Γ ς (mA M sz) s.heap s.heap [] := ⟨M, hW, hR⟩
  have hl : lv_has ls 2 [(0, .ref (Γ 0 0)), (1, .ref (Γ 9 i))] := hl
  have hinX0 : ∀ w ∈ u_ws RX0 TX0 2, w ∈ wsX4_handle := (fun _ h => List.mem_cons_of_mem _ (List.mem_append_left _ (List.mem_append_left _ (List.mem_append_left _ (List.mem_append_right _ h)))))
  have hinX1 : ∀ w ∈ u_ws RX1 TX1 10, w ∈ wsX4_handle := (fun _ h => List.mem_cons_of_mem _ (List.mem_append_left _ (List.mem_append_left _ (List.mem_append_left _ (List.mem_append_left _ (List.mem_append_left _ (List.mem_append_right _ h)))))))
  have hinX2 : ∀ w ∈ u_ws RX2 TX2 6, w ∈ wsX4_handle := (fun _ h => List.mem_cons_of_mem _ (List.mem_append_right _ h))
  have hinX3 : ∀ w ∈ u_ws RX3 TX3 3, w ∈ wsX4_handle := (fun _ h => List.mem_cons_of_mem _ (List.mem_append_left _ (List.mem_append_left _ (List.mem_append_right _ h))))
  have hinX4 : ∀ w ∈ u_ws RX4 TX4 6, w ∈ wsX4_handle := (fun _ h => List.mem_cons_of_mem _ (List.mem_append_left _ (List.mem_append_left _ (List.mem_append_left _ (List.mem_append_left _ (List.mem_append_right _ h))))))
  have hinJx4a65c : ∀ w ∈ u_ws RJx4a65c TJx4a65c 3, w ∈ wsX4_handle := (fun _ h => List.mem_cons_of_mem _ (List.mem_append_left _ (List.mem_append_right _ h)))
  refine lv_aload_n hx hb dX4_handle_0 rfl (lv_at hl 0 rfl) ?_
  refine lv_aload_n hx hb dX4_handle_1 rfl (lv_at hl 1 rfl) ?_
  refine cr_get hx hb hts hinX1 hown hK hW (fun M hM => hM.o9 (i := i) hi) (by rfl) 6 (by decide) (hts (.fieldLink RX4 157 "SeaPost$Letter" "port" "I") (by decide +kernel)) (fun _ h => h) rfl dX4_handle_2 ?_
  obtain ⟨M9x, hW, hR⟩ := hW
  refine mk_i (va_runV (As := [.int (nI (ς 13 i))]) (nL := 2) ⟨hx, hb, hml, hown, hts⟩ (kShut l G N Γ ς (ς 13 i) (by omega) (by omega) h23 _ _ hR) (cwV 1 hts gX4_handle_X4_isShut rfl rfl rfl (by decide +kernel) ⟨(Nat.le_of_ble_eq_true rfl), (Nat.le_of_ble_eq_true rfl)⟩) (mp_V hK hE hW hA (mW_recv hK hW.1 (hR.o0) (by rfl))) rfl rfl hl.1 rfl (lv_room (Nat.le_of_ble_eq_true rfl)) dX4_handle_5 ⟨(by first | exact Nat.le_of_ble_eq_true rfl | exact Nat.zero_le _ | (show _ ≤ mc; omega) | (show _ ≤ 64 * mc; omega)), (by first | exact Nat.le_of_ble_eq_true rfl | exact Nat.zero_le _ | (show _ ≤ mc; omega) | (show _ ≤ 64 * mc; omega))⟩) hW hA (fun r9 M9 H locs hp_1 hW => ?_)
  obtain ⟨e91, e92⟩ := hp_1
  subst e91
  rw [e92] at hW
  clear e92
  refine W.eq (g2 := F0 m 8 ls [.int (nI (if ς 24 0 < ς 23 (ς 13 i) then 1 else 0))]) rfl ?_
  have hW : cW G N Γ (ς) (mA M sz) s.heap H locs := ⟨_, hW, hR⟩
  refine nb_if_eq (tgt := 18) hx hb dX4_handle_8 (by decide) (fun c_2 => ?_) (fun c_2 => ?_)
  · skip
    refine lv_aload_n hx hb dX4_handle_18 rfl (lv_at hl 1 rfl) ?_
    refine cr_get hx hb hts hinX1 hown hK hW (fun M hM => hM.o9 (i := i) hi) (by rfl) 1 (by decide) (hts (.fieldLink RX4 163 "SeaPost$Letter" "ship" "LSeaPost$Ship;") (by decide +kernel)) (fun _ h => h) rfl dX4_handle_19 ?_
    refine lv_aload_n hx hb dX4_handle_22 rfl (lv_at hl 0 rfl) ?_
    refine cr_get hx hb hts hinX4 hown hK hW (fun M hM => hM.o0) (by rfl) 4 (by decide) (hts (.fieldLink RX4 84 "SeaPost" "day" "I") (by decide +kernel)) (fun _ h => h) rfl dX4_handle_23 ?_
    obtain ⟨M9x, hW, hR⟩ := hW
    refine mk_i (va_runV (As := [.int (nI (ς 24 0))]) (nL := 2) ⟨hx, hb, hml, hown, hts⟩ (kSailC l G N Γ ς (ς 9 i) (ς 24 0) pv h9 h8 (by omega) hpv _ _ hR) (cwV 1 hts gX4_handle_X3_portOn rfl rfl rfl (by decide +kernel) ⟨(Nat.le_of_ble_eq_true rfl), (Nat.le_of_ble_eq_true rfl)⟩) (mp_V hK hE hW hA (mW_recv hK hW.1 (hR.o4 (i := ς 9 i) h9) (by rfl))) rfl rfl hl.1 rfl (lv_room (Nat.le_of_ble_eq_true rfl)) dX4_handle_26 ⟨(by first | exact Nat.le_of_ble_eq_true rfl | exact Nat.zero_le _ | (show _ ≤ mc; omega) | (show _ ≤ 64 * mc; omega)), (by first | exact Nat.le_of_ble_eq_true rfl | exact Nat.zero_le _ | (show _ ≤ mc; omega) | (show _ ≤ 64 * mc; omega))⟩) hW hA (fun r9 M9 H locs hp_3 hW => ?_)
    obtain ⟨e91, e92⟩ := hp_3
    subst e91
    rw [e92] at hW
    clear e92
    refine W.eq (g2 := F0 m 29 ls [.int (nI pv)]) rfl ?_
    have hW : cW G N Γ (ς) (mA M sz) s.heap H locs := ⟨_, hW, hR⟩
    refine lv_aload_n hx hb dX4_handle_29 rfl (lv_at hl 1 rfl) ?_
    refine cr_get hx hb hts hinX1 hown hK hW (fun M hM => hM.o9 (i := i) hi) (by rfl) 6 (by decide) (hts (.fieldLink RX4 157 "SeaPost$Letter" "port" "I") (by decide +kernel)) (fun _ h => h) rfl dX4_handle_30 ?_
    refine nv_icmp_ne (u := pv) (v := ς 13 i) (tgt := 44) hx hb dX4_handle_33 (by decide) (by omega) (by omega) (fun c_4 => ?_) (fun c_4 => ?_)
    · skip
      refine lv_aload_n hx hb dX4_handle_44 rfl (lv_at hl 0 rfl) ?_
      refine lv_aload_n hx hb dX4_handle_45 rfl (lv_at hl 1 rfl) ?_
      refine ck_Vv (r := (RX4, TX4, 6)) (As := [.ref (Γ 9 i)]) (nL := 2) ⟨hx, hb, hml, hown, hts⟩ (uByWord l G N Γ ς i wo vb vm hi h9 h8 h13 ht h12 hd h18 hlp hs h15 hnd hed hwo hwb hw0 mc ((hmc (by assumption)).2 (by omega))) (cwV 1 hts gX4_handle_X4_handleByWord rfl rfl rfl (by decide +kernel) ⟨(Nat.le_of_ble_eq_true rfl), (Nat.le_of_ble_eq_true rfl)⟩) hK hE hW hA (fun M hM => hM.o0) (by rfl) rfl hl.1 rfl (Nat.le_of_ble_eq_true rfl) dX4_handle_46 ⟨(by first | exact Nat.le_of_ble_eq_true rfl | exact Nat.zero_le _ | (show _ ≤ mc; omega) | (show _ ≤ 64 * mc; omega)), (by first | exact Nat.le_of_ble_eq_true rfl | exact Nat.zero_le _ | (show _ ≤ mc; omega) | (show _ ≤ 64 * mc; omega))⟩ (fun H locs hW => ?_)
      obtain ⟨σ_5, eσ_5⟩ : ∃ z : Sg, z = hwC ς i wo vb vm := ⟨_, rfl⟩
      rw [← eσ_5] at hW
      refine W.eq (g2 := F0 m 49 ls []) rfl ?_
      exact cr_vret hx hb hr hlk (by first | exact Nat.le_of_ble_eq_true rfl | exact Nat.zero_le _ | (show _ ≤ mc; omega) | (show _ ≤ 64 * mc; omega)) (by first | exact Nat.le_of_ble_eq_true rfl | exact Nat.zero_le _ | (show _ ≤ mc; omega) | (show _ ≤ 64 * mc; omega)) hW (by subst eσ_5; unfold haC; repeat (first | rw [if_pos (by first | assumption | omega)] | rw [if_neg (by first | assumption | omega)])) dX4_handle_49
    · skip
      have hmc9 : 1 ≤ mc := (hmc (by assumption)).1 (by omega)
      refine lv_aload_n hx hb dX4_handle_36 rfl (lv_at hl 0 rfl) ?_
      refine lv_aload_n hx hb dX4_handle_37 rfl (lv_at hl 1 rfl) ?_
      refine ck_Vv (r := (RX4, TX4, 6)) (As := [.ref (Γ 9 i)]) (nL := 2) ⟨hx, hb, hml, hown, hts⟩ (uDeliver l G N Γ ς i hi h9 h8 (by omega) hnr her) (cwV 1 hts gX4_handle_X4_deliver rfl rfl rfl (by decide +kernel) ⟨(Nat.le_of_ble_eq_true rfl), (Nat.le_of_ble_eq_true rfl)⟩) hK hE hW hA (fun M hM => hM.o0) (by rfl) rfl hl.1 rfl (Nat.le_of_ble_eq_true rfl) dX4_handle_38 ⟨(by first | exact Nat.le_of_ble_eq_true rfl | exact Nat.zero_le _ | (show _ ≤ mc; omega) | (show _ ≤ 64 * mc; omega)), (by first | exact Nat.le_of_ble_eq_true rfl | exact Nat.zero_le _ | (show _ ≤ mc; omega) | (show _ ≤ 64 * mc; omega))⟩ (fun H locs hW => ?_)
      obtain ⟨σ_6, eσ_6⟩ : ∃ z : Sg, z = dvC ς i := ⟨_, rfl⟩
      rw [← eσ_6] at hW
      refine W.eq (g2 := F0 m 41 ls []) rfl ?_
      refine lv_goto (tgt := 49) hx hb dX4_handle_41 (by decide) ?_
      exact cr_vret hx hb hr hlk (by first | exact Nat.le_of_ble_eq_true rfl | exact Nat.zero_le _ | (show _ ≤ mc; omega) | (show _ ≤ 64 * mc; omega)) (by first | exact Nat.le_of_ble_eq_true rfl | exact Nat.zero_le _ | (show _ ≤ mc; omega) | (show _ ≤ 64 * mc; omega)) hW (by subst eσ_6; unfold haC; repeat (first | rw [if_pos (by first | assumption | omega)] | rw [if_neg (by first | assumption | omega)])) dX4_handle_49
  · skip
    refine lv_aload_n hx hb dX4_handle_11 rfl (lv_at hl 1 rfl) ?_
    refine ck_Vv (r := (RX1, TX1, 10)) (As := []) (nL := 2) ⟨hx, hb, hml, hown, hts⟩ (uHold l G N Γ ς i hi h12b (by omega)) (cwV 0 hts gX4_handle_X1_hold rfl rfl rfl (by decide +kernel) ⟨(Nat.le_of_ble_eq_true rfl), (Nat.le_of_ble_eq_true rfl)⟩) hK hE hW hA (fun M hM => hM.o9 (i := i) hi) (by rfl) rfl hl.1 rfl (Nat.le_of_ble_eq_true rfl) dX4_handle_12 ⟨(by first | exact Nat.le_of_ble_eq_true rfl | exact Nat.zero_le _ | (show _ ≤ mc; omega) | (show _ ≤ 64 * mc; omega)), (by first | exact Nat.le_of_ble_eq_true rfl | exact Nat.zero_le _ | (show _ ≤ mc; omega) | (show _ ≤ 64 * mc; omega))⟩ (fun H locs hW => ?_)
    obtain ⟨σ_7, eσ_7⟩ : ∃ z : Sg, z = hld ς i := ⟨_, rfl⟩
    rw [← eσ_7] at hW
    refine W.eq (g2 := F0 m 15 ls []) rfl ?_
    refine lv_goto (tgt := 49) hx hb dX4_handle_15 (by decide) ?_
    exact cr_vret hx hb hr hlk (by first | exact Nat.le_of_ble_eq_true rfl | exact Nat.zero_le _ | (show _ ≤ mc; omega) | (show _ ≤ 64 * mc; omega)) (by first | exact Nat.le_of_ble_eq_true rfl | exact Nat.zero_le _ | (show _ ≤ mc; omega) | (show _ ≤ 64 * mc; omega)) hW (by subst eσ_7; unfold haC; repeat (first | rw [if_pos (by first | assumption | omega)] | rw [if_neg (by first | assumption | omega)])) dX4_handle_49

/-- what a handling starts from -/
def PH (σ ρ : Sg) (i : Nat) : Prop := RV σ ∧ RI σ ∧ Cr σ ρ ∧ HR σ i ∧ σ 20 0 < 40 ∧ σ 22 0 < 40 ∧ LX 19 20 5 σ ∧ LX 21 22 1 σ
abbrev vbS (σ : Sg) (i : Nat) : Nat := if chF σ (6 * roW σ i) (σ 13 i) (σ 3 (roW σ i)) = true then 1 else 0
abbrev vmS (σ : Sg) (i : Nat) : Nat := if meS σ i = 4294967295 then 4294967295 else σ 4 (meS σ i)
theorem haC_eq {σ ρ : Sg} {i : Nat} (h : PH σ ρ i) : haC (cs σ ρ) i (plS σ (σ 9 i)) (woS σ (σ 13 i) (σ 9 i)) (vbS σ i) (vmS σ i) = cs (ha σ i) ρ := by
  obtain ⟨hV, hI, hC, hR, h20, h22, hS, hD⟩ := h
  obtain ⟨q1, q2, q3, q4, q5, q6, q7, q8, q9⟩ := hR
  have b0 : σ 0 0 ≤ 8 := hV 0 0
  have b8 : σ 8 0 ≤ 40 := hV 8 0
  have b15 : σ 15 i ≤ 6 := hV 15 i
  have h6 : σ 12 i ≠ 6 := q5.2.2.1
  have e13 : cs σ ρ 13 i = σ 13 i := if_neg h6
  unfold haC
  rw [e13]
  show (if σ 24 0 < σ 23 (σ 13 i) then hld (cs σ ρ) i else if plS σ (σ 9 i) = σ 13 i then dvC (cs σ ρ) i else hwC (cs σ ρ) i (woS σ (σ 13 i) (σ 9 i)) (vbS σ i) (vmS σ i)) = _
  by_cases c1 : shut σ (σ 13 i)
  · rw [if_pos c1, ha_1 c1, cs_hld h6]
  · rw [if_neg c1]
    by_cases c2 : plS σ (σ 9 i) = σ 13 i
    · rw [if_pos c2, ha_2 c1 c2, cs_dv h6 (by omega) (by omega) (fun j => by have : σ 21 j < 40 := hV 21 j; omega) (by omega)]
    · rw [if_neg c2]
      unfold hwC
      by_cases c3 : woS σ (σ 13 i) (σ 9 i) = 4294967295
      · rw [if_pos c3, ha_5 c1 c2 (Or.inl c3), cs_12 h6 (by decide) (by decide)]
      · rw [if_neg c3]
        by_cases c4 : chF σ (6 * roW σ i) (σ 13 i) (σ 3 (roW σ i)) = true
        · rw [if_pos (show vbS σ i ≠ 0 by unfold vbS; rw [if_pos c4]; decide), ha_3 c1 c2 c3 c4, cs_12 h6 (by decide) (by decide)]
        · rw [if_neg (show ¬ vbS σ i ≠ 0 by unfold vbS; rw [if_neg c4]; decide)]
          by_cases c5 : meS σ i = 4294967295
          · rw [if_pos (show vmS σ i = 4294967295 by unfold vmS; rw [if_pos c5]), ha_5 c1 c2 (Or.inr ⟨c4, c5⟩), cs_12 h6 (by decide) (by decide)]
          · have e4 : vmS σ i = σ 4 (meS σ i) := by unfold vmS; rw [if_neg c5]
            have b4 : σ 4 (meS σ i) ≤ 9 := hV 4 _
            rw [if_neg (show ¬ vmS σ i = 4294967295 by omega), ha_4 c1 c2 c3 c4 c5, e4]
            show (if σ 15 i < 6 then sdC (cs σ ρ) i (σ 4 (meS σ i)) else buC (cs σ ρ) i) = _
            by_cases c6 : σ 15 i = 6
            · rw [if_neg (by omega), cs_bu h6 (by omega)]
              unfold go
              rw [if_pos c6]
            · rw [if_pos (by omega), cs_sd h6 c6]
theorem vHandle (l : Launch) (G : mG) (N : Mem) (Γ : Adr) (σ ρ : Sg) (i : Nat) (hp : PH σ ρ i) (mc : Nat) (hmc : ha σ i 12 i = 1 ∨ ha σ i 12 i = 5 → 1 ≤ mc) : cUv l yX4_handle wsX4_handle 9 mc (64 * mc) G N Γ (cs σ ρ) [.ref (Γ 0 0), .ref (Γ 9 i)] (cs (ha σ i) ρ) := by
  rw [← haC_eq hp]
  obtain ⟨hV, hI, hC, hR, h20, h22, hS, hD⟩ := hp
  obtain ⟨q1, q2, q3, q4, q5, q6, q7, q8, q9⟩ := hR
  have b0 : σ 0 0 ≤ 8 := hV 0 0
  have b8 : σ 8 0 ≤ 40 := hV 8 0
  have b12 : σ 12 i ≤ 8 := hV 12 i
  have b13 : σ 13 i ≤ 9 := hV 13 i
  have b15 : σ 15 i ≤ 6 := hV 15 i
  have b24 : σ 24 0 ≤ 1000 := hV 24 0
  have b23 : σ 23 (σ 13 i) ≤ 1060 := hV 23 _
  have b7 : σ 7 (σ 9 i) ≤ 20 := hV 7 _
  have h6 : σ 12 i ≠ 6 := q5.2.2.1
  have e13 : cs σ ρ 13 i = σ 13 i := if_neg h6
  have e30 : cs σ ρ 30 (10 + σ 9 i) = σ 7 (σ 9 i) := cs_30t (by omega)
  have e30r : cs σ ρ 30 (20 + σ 9 i) = rcF σ (σ 9 i) (σ 22 0) := cs_30r
  have hrl := rcF_le (σ := σ) (u := σ 9 i) (σ 22 0)
  have hl18 : σ 18 i ≤ 120 := by
    by_cases z : σ 12 i = 0
    · have := q8 z; omega
    · have := q9 z; omega
  have hwl := woF_lt (σ := σ) (q := σ 13 i) (u := σ 9 i) (σ 7 (σ 9 i))
  have hb : ∀ r j, ρ 4 (6 * r + j) < 10 ∧ ρ 5 (6 * r + j) < 2147483648 ∧ ρ 6 (6 * r + j) < 2147483648 := fun r j => by have := hC.2.2 (6 * r + j); omega
  have hpl := plS_b (σ := σ) (s := σ 9 i) (fun k => hV 4 k)
  refine uHandle l G N Γ (cs σ ρ) i (plS σ (σ 9 i)) (woS σ (σ 13 i) (σ 9 i)) (vbS σ i) (vmS σ i) q1 q2 b0 (by rw [e13]; omega) (by show cs σ ρ 30 (10 + σ 9 i) ≤ 20; rw [e30]; exact b7) (fun r _ => ⟨(hC.2.2 r).1, (hC.2.2 r).2.1⟩) b24 (by show σ 18 i ≤ 125; omega) (by rw [cs_lpS]; exact q6.lp) (fun j _ => hV 17 _) (by show σ 15 i < 2147483648; omega) (by show σ 20 0 ≤ 40; omega) (fun j hj => ?_) ?_ (by rw [e13]; show σ 23 (σ 13 i) < _; omega) (by show cs σ ρ 30 (20 + σ 9 i) ≤ 40; rw [e30r]; omega) (fun j hj => ?_) (by omega) ?_ ?_ (by show woF σ (σ 13 i) (σ 9 i) (σ 7 (σ 9 i)) < _; omega) (fun hn => ?_) mc (fun hs => ⟨fun he => ?_, fun h1 h2 h3 h4 h5 => ?_⟩)
  · have hj : j < σ 20 0 := hj
    rw [cs_31d (by omega)]
    exact (hS.mem hj).1
  · show (if σ 12 i = 8 then 4294967295 else σ 12 i) < 4294967296
    split <;> omega
  · have hj : j < cs σ ρ 30 (20 + σ 9 i) := hj
    rw [e30r] at hj
    show cs σ ρ 31 (64 * (20 + σ 9 i) + j) < σ 8 0
    rw [cs_31r (by omega)]
    have h1 := (dvF_lt (σ := σ) (u := σ 9 i) (k := j) (fun j => by have : σ 21 j < 40 := hV 21 j; omega) (σ 22 0)).mpr hj
    rcases dvF_v (σ := σ) (u := σ 9 i) (k := j) (P := fun x => x < σ 8 0) (σ 22 0) (fun j hj => (hD.mem hj).1) with h2 | h2
    · exact absurd h2 h1
    · exact h2
  · rw [show cs σ ρ 9 i = σ 9 i from rfl, e30]
    by_cases z : σ 7 (σ 9 i) = 0
    · refine Or.inl ⟨z, ?_⟩
      unfold plS
      rw [if_neg (by omega)]
    · obtain ⟨c3, -, c4⟩ := hC.1 (σ 9 i) (σ 7 (σ 9 i) - 1) (by omega)
      refine Or.inr ⟨σ 7 (σ 9 i) - 1, by omega, by omega, (hC.2.2 _).2.2.1, fun j _ => hb _ j, ?_⟩
      have e : plS σ (σ 9 i) = plF σ (6 * (21 * σ 9 i + (σ 7 (σ 9 i) - 1))) (σ 3 (21 * σ 9 i + (σ 7 (σ 9 i) - 1))) := by
        unfold plS
        rw [if_pos (by omega)]
      rw [e, show cs σ ρ 3 (21 * σ 9 i + (σ 7 (σ 9 i) - 1)) = σ 3 (21 * σ 9 i + (σ 7 (σ 9 i) - 1)) from c3]
      refine (plF_FS _ (hI.1 _)).c (fun j hj => ?_) (fun j hj => (c4 j hj).1)
      show (ρ 5 (6 * (21 * σ 9 i + (σ 7 (σ 9 i) - 1)) + j) ≤ σ 24 0 ∧ σ 24 0 ≤ ρ 6 (6 * (21 * σ 9 i + (σ 7 (σ 9 i) - 1)) + j)) ↔ _
      rw [(c4 j hj).2.1, (c4 j hj).2.2]
  · rw [e13]
    show woF (cs σ ρ) (σ 13 i) (σ 9 i) (cs σ ρ 30 (10 + σ 9 i)) = _
    rw [e30]
    exact cs_woF hC _ (Nat.le_refl _)
  · have hn : woF σ (σ 13 i) (σ 9 i) (σ 7 (σ 9 i)) ≠ 4294967295 := hn
    have hro : roW σ i = 21 * σ 9 i + woS σ (σ 13 i) (σ 9 i) := by
      show 21 * σ 9 i + (if woS σ (σ 13 i) (σ 9 i) = 4294967295 then 0 else woS σ (σ 13 i) (σ 9 i)) = _
      rw [if_neg (show ¬ woS σ (σ 13 i) (σ 9 i) = 4294967295 from hn)]
    have hlt : woS σ (σ 13 i) (σ 9 i) < σ 7 (σ 9 i) := by
      show woF σ (σ 13 i) (σ 9 i) (σ 7 (σ 9 i)) < _
      omega
    rw [show cs σ ρ 9 i = σ 9 i from rfl]
    obtain ⟨c3, -, c4⟩ := hC.1 (σ 9 i) _ hlt
    rw [show cs σ ρ 3 (21 * σ 9 i + woS σ (σ 13 i) (σ 9 i)) = σ 3 (21 * σ 9 i + woS σ (σ 13 i) (σ 9 i)) from c3]
    refine ⟨by rw [e30]; exact hlt, isR_of q2 (by rw [e30]; exact hlt) (by omega), hV 3 _, fun j _ => hb _ j, ?_, ?_⟩
    · rw [e13]
      have h9 := chF_FS (σ := σ) (b := 6 * roW σ i) (q := σ 13 i) (σ 3 (roW σ i))
      rw [hro] at h9
      have e9 : vbS σ i = if chF σ (6 * (21 * σ 9 i + woS σ (σ 13 i) (σ 9 i))) (σ 13 i) (σ 3 (21 * σ 9 i + woS σ (σ 13 i) (σ 9 i))) = true then 1 else 0 := by
        unfold vbS
        rw [hro]
      rw [e9]
      refine h9.c (fun j hj => ?_) (fun _ _ => rfl)
      show (ρ 4 (6 * (21 * σ 9 i + woS σ (σ 13 i) (σ 9 i)) + j) = σ 13 i ∧ σ 24 0 < ρ 5 (6 * (21 * σ 9 i + woS σ (σ 13 i) (σ 9 i)) + j)) ↔ _
      rw [(c4 j hj).1, (c4 j hj).2.1]
    · rw [e13]
      have h9 := mtF_FS (σ := σ) (b := 6 * roW σ i) (q := σ 13 i) (by rw [hro]; omega) (σ 3 (roW σ i)) (hV 3 _) (hI.1 _)
      have em : meS σ i = (mtF σ (6 * roW σ i) (σ 13 i) (σ 3 (roW σ i))).1 := rfl
      have h10 : FS (fun j => σ 4 (6 * roW σ i + j) ≠ σ 13 i ∧ thr σ (σ 13 i) (6 * roW σ i + j) ≤ σ 6 (6 * roW σ i + j)) (fun j => σ 4 (6 * roW σ i + j)) (σ 3 (roW σ i)) 4294967295 (vmS σ i) := by
        have b3 : σ 3 (roW σ i) ≤ 6 := hV 3 _
        rcases h9 with ⟨k, g1, g2, g3, g4, g5⟩ | ⟨g1, g2⟩
        · refine Or.inl ⟨k, g1, g2, g3, ?_⟩
          unfold vmS
          rw [em, g4, if_neg (by rw [hro]; omega)]
        · refine Or.inr ⟨g1, ?_⟩
          unfold vmS
          rw [em, if_pos g2]
      rw [hro] at h10
      refine h10.c (fun j hj => ?_) (fun j hj => (c4 j hj).1)
      show (ρ 4 (6 * (21 * σ 9 i + woS σ (σ 13 i) (σ 9 i)) + j) ≠ σ 13 i ∧ σ 24 0 + dist (σ 13 i) (ρ 4 (6 * (21 * σ 9 i + woS σ (σ 13 i) (σ 9 i)) + j)) + 1 ≤ ρ 6 (6 * (21 * σ 9 i + woS σ (σ 13 i) (σ 9 i)) + j)) ↔ _
      rw [(c4 j hj).1, (c4 j hj).2.2]
  · rw [e13] at hs he
    have hs : ¬ shut σ (σ 13 i) := hs
    apply hmc
    rw [ha_2 hs he]
    exact Or.inl (dlv_ok (σ := σ) (i := i) (by omega)).2.2.1
  · rw [e13] at hs h1
    have hs : ¬ shut σ (σ 13 i) := hs
    have c4 : ¬ chF σ (6 * roW σ i) (σ 13 i) (σ 3 (roW σ i)) = true := fun z => by unfold vbS at h3; rw [if_pos z] at h3; cases h3
    have c5 : ¬ meS σ i = 4294967295 := fun z => h4 (by unfold vmS; rw [if_pos z])
    have h5 : 6 ≤ σ 15 i := h5
    apply hmc
    rw [ha_4 hs h1 h2 c4 c5]
    unfold go
    rw [if_pos (by omega)]
    exact Or.inr (di_ok (σ := σ) (i := i) (by omega)).2.2.1
