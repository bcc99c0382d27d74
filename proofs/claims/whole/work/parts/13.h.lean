/-! THE CLASS: call, tell, pass, post (mine; the rows are laid by wip/whole/gen) -/
theorem poW_LX {σ : Sg} {p s h : Nat} (hI : IV σ) (h8 : σ 8 0 < 40) (hp : p < 10) (hs : s < σ 0 0) (hh : h < 10 ∨ h = 4294967295) : LX 19 20 5 (poW σ p s h) ∧ LX 21 22 1 (poW σ p s h) := by
  obtain ⟨b1, b2, b3, b4, b5⟩ := poW_ok hI h8 hp hs hh
  obtain ⟨h1, h2, h3, h4, h5, h6⟩ := hI
  obtain ⟨q9, q10, q11, q13, q12⟩ := poN_i (σ := σ) (p := p) (s := s) (h := h)
  have e8 : poW σ p s h 8 0 = σ 8 0 + 1 := by rw [b4 _ _ (by decide), poN_8]
  have l12 : poW σ p s h 12 (σ 8 0) = 8 := by rw [b4 _ _ (by decide), q12]
  have hL : ∀ f n v, f ≠ 8 → f ≠ 9 → f ≠ 10 → f ≠ 11 → f ≠ 12 → f ≠ 13 → f ≠ 17 → f ≠ 18 → n ≠ 8 → n ≠ 9 → n ≠ 10 → n ≠ 11 → n ≠ 12 → n ≠ 13 → n ≠ 17 → n ≠ 18 → v ≠ 8 → LX f n v σ → LX f n v (poW σ p s h) := by
    intro f n v f8 f9 f10 f11 f12 f13 f17 f18 n8 n9 n10 n11 n12 n13 n17 n18 hv hX P
    have ef : ∀ j, poW σ p s h f j = σ f j := fun j => by rw [b4 f j ⟨f17, f18⟩, poN_f ⟨f8, f9, f10, f11, f12, f13⟩]
    rw [show (fun k => P (poW σ p s h f k)) = fun k => P (σ f k) from funext fun k => by rw [ef], b4 n 0 ⟨n17, n18⟩, poN_f ⟨n8, n9, n10, n11, n12, n13⟩, hX P, e8]
    show _ = cnt (fun i => decide (poW σ p s h 12 i = v) && P i) (σ 8 0) + (if (decide (poW σ p s h 12 (σ 8 0) = v) && P (σ 8 0)) = true then 1 else 0)
    rw [if_neg (by rw [l12, decide_eq_false (Ne.symm hv)]; simp), Nat.add_zero]
    exact cnt_congr _ (fun i hi => by rw [b4 12 i (by decide), poN_o (by decide) (by omega)])
  exact ⟨hL 19 20 5 (by decide) (by decide) (by decide) (by decide) (by decide) (by decide) (by decide) (by decide) (by decide) (by decide) (by decide) (by decide) (by decide) (by decide) (by decide) (by decide) (by decide) h2, hL 21 22 1 (by decide) (by decide) (by decide) (by decide) (by decide) (by decide) (by decide) (by decide) (by decide) (by decide) (by decide) (by decide) (by decide) (by decide) (by decide) (by decide) (by decide) h3⟩

theorem m1_lt : ∀ a, a < 1001 → nI 4294967295 < nI a := by decide +kernel
theorem kLastC (l : Launch) (G : mG) (N : Mem) (Γ : Adr) (σ ρ : Sg) (u lv : Nat) (hH : HS σ ρ) (hu : u < σ 0 0) (hlv : lv = if 0 < σ 3 (21 * u + 20) then σ 6 (6 * (21 * u + 20) + (σ 3 (21 * u + 20) - 1)) else 4294967295) (M : Mem) (sz : Nat) (hR : Rp G N Γ (cs σ ρ) M) : cMi l yX2_lastLeaving wsX2_lastLeaving 0 0 0 G M sz [.ref (Γ 5 (21 * u + σ 7 u))] (fun y9 M' => y9 = nI lv ∧ M' = M) := by
  obtain ⟨⟨hV, hS, hD, hL, hZ, hI⟩, -, hC⟩ := hH
  have b7 : σ 7 u ≤ 20 := hV 7 u
  obtain ⟨c3, c4⟩ := hC.2.1 u hu
  have e3 : cs σ ρ 3 (21 * u + σ 7 u) = σ 3 (21 * u + 20) := c3
  have hr : isR (cs σ ρ) (21 * u + σ 7 u) := by
    unfold isR
    rw [show (21 * u + σ 7 u) / 21 = u by omega, show (21 * u + σ 7 u) % 21 = σ 7 u by omega]
    exact ⟨hu, Or.inr rfl⟩
  have h := kLast l G N Γ (cs σ ρ) (21 * u + σ 7 u) hr (by rw [e3]; exact hV 3 _) M sz hR
  rw [e3] at h
  rw [hlv]
  by_cases z : 0 < σ 3 (21 * u + 20)
  · rw [if_pos z] at h ⊢
    rw [show cs σ ρ 6 (6 * (21 * u + σ 7 u) + (σ 3 (21 * u + 20) - 1)) = σ 6 (6 * (21 * u + 20) + (σ 3 (21 * u + 20) - 1)) from (c4 _ (by omega)).2.2] at h
    exact h
  · rw [if_neg z] at h ⊢
    exact h

set_option maxHeartbeats 4000000 in
set_option maxRecDepth 100000 in
theorem wCall (l : Launch) (hst : l.stackTraces = false) (G : mG) (N : Mem) (Γ : Adr) (σ ρ : Sg) (u : Nat) (hu : u < 4294967296) (q : Nat) (hq : q < 4294967296) (a : Nat) (ha : a < 4294967296) (d : Nat) (hd : d < 4294967296) (hH : HS σ ρ) : pXi l yX4_call wsX4_call 7 5 30 G N Γ σ ρ [.ref (Γ 0 0), .int (nI u), .int (nI q), .int (nI a), .int (nI d)] (thC σ u q a d) (σ 3 (21 * u + 20) + 1) (nxC σ u q a d) ["java/lang/IndexOutOfBoundsException", "java/lang/IllegalArgumentException", "java/lang/IllegalStateException"] := by
  intro M sz hR
  refine m_startX cX4_call 6 (some .int) (by decide) rfl (Nat.le_of_ble_eq_true rfl) ?_
  intro p e s m below meth c ls hx hb hr hml hown hlk hnm hts hK hsz hE hW hl htab
  have hA := mA_A (M := M) hsz
  have hl : lv_has ls 6 [(0, .ref (Γ 0 0)), (1, .int (nI u)), (2, .int (nI q)), (3, .int (nI a)), (4, .int (nI d))] := hl
  have hinX2 : ∀ w ∈ u_ws RX2 TX2 6, w ∈ wsX4_call := (fun _ h => List.mem_cons_of_mem _ (List.mem_append_left _ (List.mem_append_left _ (List.mem_append_left _ (List.mem_append_left _ (List.mem_append_right _ h))))))
  have hinX3 : ∀ w ∈ u_ws RX3 TX3 3, w ∈ wsX4_call := (fun _ h => List.mem_cons_of_mem _ (List.mem_append_left _ (List.mem_append_left _ (List.mem_append_left _ (List.mem_append_left _ (List.mem_append_left _ (List.mem_append_right _ h)))))))
  have hinX4 : ∀ w ∈ u_ws RX4 TX4 6, w ∈ wsX4_call := (fun _ h => List.mem_cons_of_mem _ (List.mem_append_left _ (List.mem_append_left _ (List.mem_append_left _ (List.mem_append_left _ (List.mem_append_left _ (List.mem_append_left _ (List.mem_append_right _ h))))))))
  have hinJx4a65c : ∀ w ∈ u_ws RJx4a65c TJx4a65c 3, w ∈ wsX4_call := (fun _ h => List.mem_cons_of_mem _ (List.mem_append_left _ (List.mem_append_left _ (List.mem_append_left _ (List.mem_append_right _ h)))))
  have hI := hH.1
  obtain ⟨hV, hS, hD, hL, hZ, hRI⟩ := id hI
  have b0 : σ 0 0 ≤ 8 := hV 0 0
  have b8 : σ 8 0 ≤ 40 := hV 8 0
  have b24 : σ 24 0 ≤ 1000 := hV 24 0
  have hct := hH.cnt
  refine lv_aload_n hx hb dX4_call_0 rfl (lv_at hl 0 rfl) ?_
  refine lv_iload_n hx hb dX4_call_1 rfl (lv_at hl 1 rfl) ?_
  refine mx_v (vx_runV (As := [.int (nI u)]) (nL := 6) ⟨hx, hb, hml, hown, hts⟩ (xShip l hst G N Γ (cs σ ρ) u (by omega) (show σ 0 0 < 2147483648 by omega) _ _ hR) (cwV 1 hts gX4_call_X4_needShip rfl rfl rfl (by decide +kernel) ⟨(Nat.le_of_ble_eq_true rfl), (Nat.le_of_ble_eq_true rfl)⟩) (mp_V hK hE hW hA (mW_recv hK hW.1 hR.o0 (by rfl))) rfl rfl hl.1 rfl (lv_room (Nat.le_of_ble_eq_true rfl)) dX4_call_2 ⟨(Nat.le_of_ble_eq_true rfl), (Nat.le_of_ble_eq_true rfl)⟩) hW hsz htab hlk (fun E hE9 => by have hu1 := hE9.1; have hu1 : ¬ u < σ 0 0 := hu1; obtain ⟨h1, rfl⟩ := hE9; exact xOk.of (k := 1) (by unfold thC; first | (rw [if_pos (by omega)]; done) | (rw [if_neg (by omega)]; done) | (rw [if_neg (by omega), if_pos (by omega)]; done) | (rw [if_neg (by omega), if_neg (by omega)]; done) | (rw [if_neg (by omega), if_neg (by omega), if_neg (by omega)]; done)) (by decide) rfl) (Nat.le_of_ble_eq_true rfl) (Nat.le_of_ble_eq_true rfl) (fun M9 H locs hp_1 hW => ?_)
  obtain ⟨hu0, e92⟩ := hp_1
  rw [e92] at hW
  clear e92
  refine W.eq (g2 := F0 m 5 ls []) rfl ?_
  have hu0 : u < σ 0 0 := hu0
  refine lv_iload_n hx hb dX4_call_5 rfl (lv_at hl 2 rfl) ?_
  refine mx_v (vx_runS (As := [.int (nI q)]) (nL := 6) ⟨hx, hb, hml, hown, hts⟩ (xPort l hst G _ _ q (by omega)) (va_cwS 1 hts gX4_call_X4_needPort rfl rfl rfl (by decide +kernel) ⟨(Nat.le_of_ble_eq_true rfl), (Nat.le_of_ble_eq_true rfl)⟩) (mp_S hK hE hW hA) rfl rfl hl.1 rfl (lv_room (Nat.le_of_ble_eq_true rfl)) dX4_call_6 ⟨(Nat.le_of_ble_eq_true rfl), (Nat.le_of_ble_eq_true rfl)⟩) hW hsz htab hlk (fun E hE9 => by obtain ⟨h1, rfl⟩ := hE9; exact xOk.of (k := 1) (by unfold thC; first | (rw [if_pos (by omega)]; done) | (rw [if_neg (by omega)]; done) | (rw [if_neg (by omega), if_pos (by omega)]; done) | (rw [if_neg (by omega), if_neg (by omega)]; done) | (rw [if_neg (by omega), if_neg (by omega), if_neg (by omega)]; done)) (by decide) rfl) (Nat.le_of_ble_eq_true rfl) (Nat.le_of_ble_eq_true rfl) (fun M9 H locs hp_2 hW => ?_)
  obtain ⟨hq0, e92⟩ := hp_2
  rw [e92] at hW
  clear e92
  refine W.eq (g2 := F0 m 9 ls []) rfl ?_
  refine lv_iload_n hx hb dX4_call_9 rfl (lv_at hl 3 rfl) ?_
  refine lv_iconst (v := nI 0) hx hb dX4_call_10 (by decide) ?_
  refine lv_sipush (v := nI 1000) hx hb dX4_call_11 (by decide) ?_
  refine mx_v (vx_runS (As := [.int (nI a), .int (nI 0), .int (nI 1000)]) (nL := 6) ⟨hx, hb, hml, hown, hts⟩ (xRange l hst G _ _ a 0 1000 (by omega) (by omega) (by omega)) (va_cwS 3 hts gX4_call_X4_needRange rfl rfl rfl (by decide +kernel) ⟨(Nat.le_of_ble_eq_true rfl), (Nat.le_of_ble_eq_true rfl)⟩) (mp_S hK hE hW hA) rfl rfl hl.1 rfl (lv_room (Nat.le_of_ble_eq_true rfl)) dX4_call_14 ⟨(Nat.le_of_ble_eq_true rfl), (Nat.le_of_ble_eq_true rfl)⟩) hW hsz htab hlk (fun E hE9 => by obtain ⟨h1, rfl⟩ := hE9; exact xOk.of (k := 2) (by unfold thC; first | (rw [if_pos (by omega)]; done) | (rw [if_neg (by omega)]; done) | (rw [if_neg (by omega), if_pos (by omega)]; done) | (rw [if_neg (by omega), if_neg (by omega)]; done) | (rw [if_neg (by omega), if_neg (by omega), if_neg (by omega)]; done)) (by decide) rfl) (Nat.le_of_ble_eq_true rfl) (Nat.le_of_ble_eq_true rfl) (fun M9 H locs hp_3 hW => ?_)
  obtain ⟨ha0, e92⟩ := hp_3
  rw [e92] at hW
  clear e92
  refine W.eq (g2 := F0 m 17 ls []) rfl ?_
  refine lv_iload hx hb dX4_call_17 (lv_at hl 4 rfl) ?_
  refine lv_iconst (v := nI 0) hx hb dX4_call_19 (by decide) ?_
  refine lv_bipush (v := nI 30) hx hb dX4_call_20 (by decide) ?_
  refine mx_v (vx_runS (As := [.int (nI d), .int (nI 0), .int (nI 30)]) (nL := 6) ⟨hx, hb, hml, hown, hts⟩ (xRange l hst G _ _ d 0 30 (by omega) (by omega) (by omega)) (va_cwS 3 hts gX4_call_X4_needRange rfl rfl rfl (by decide +kernel) ⟨(Nat.le_of_ble_eq_true rfl), (Nat.le_of_ble_eq_true rfl)⟩) (mp_S hK hE hW hA) rfl rfl hl.1 rfl (lv_room (Nat.le_of_ble_eq_true rfl)) dX4_call_22 ⟨(Nat.le_of_ble_eq_true rfl), (Nat.le_of_ble_eq_true rfl)⟩) hW hsz htab hlk (fun E hE9 => by obtain ⟨h1, rfl⟩ := hE9; exact xOk.of (k := 2) (by unfold thC; first | (rw [if_pos (by omega)]; done) | (rw [if_neg (by omega)]; done) | (rw [if_neg (by omega), if_pos (by omega)]; done) | (rw [if_neg (by omega), if_neg (by omega)]; done) | (rw [if_neg (by omega), if_neg (by omega), if_neg (by omega)]; done)) (by decide) rfl) (Nat.le_of_ble_eq_true rfl) (Nat.le_of_ble_eq_true rfl) (fun M9 H locs hp_4 hW => ?_)
  obtain ⟨hd0, e92⟩ := hp_4
  rw [e92] at hW
  clear e92
  refine W.eq (g2 := F0 m 25 ls []) rfl ?_
  have hu0 : u < σ 0 0 := hu0
  have b7 : σ 7 u ≤ 20 := hV 7 u
  have b3 : σ 3 (21 * u + 20) ≤ 6 := hV 3 _
  have hC := hH.2.2
  have hdr : isR (cs σ ρ) (21 * u + σ 7 u) := by
    unfold isR
    rw [show (21 * u + σ 7 u) / 21 = u by omega, show (21 * u + σ 7 u) % 21 = σ 7 u by omega]
    exact ⟨hu0, Or.inr rfl⟩
  have e3 : cs σ ρ 3 (21 * u + σ 7 u) = σ 3 (21 * u + 20) := (hC.2.1 u hu0).1
  obtain ⟨lv, hlv⟩ : ∃ z : Nat, z = if 0 < σ 3 (21 * u + 20) then σ 6 (6 * (21 * u + 20) + (σ 3 (21 * u + 20) - 1)) else 4294967295 := ⟨_, rfl⟩
  have hlv2 : (σ 3 (21 * u + 20) = 0 ∧ lv = 4294967295) ∨ (0 < σ 3 (21 * u + 20) ∧ lv = σ 6 (6 * (21 * u + 20) + σ 3 (21 * u + 20) - 1) ∧ lv ≤ 1030) := by
    by_cases z : 0 < σ 3 (21 * u + 20)
    · rw [if_pos z] at hlv
      have b6 : σ 6 (6 * (21 * u + 20) + (σ 3 (21 * u + 20) - 1)) ≤ 1030 := hV 6 _
      rw [show 6 * (21 * u + 20) + σ 3 (21 * u + 20) - 1 = 6 * (21 * u + 20) + (σ 3 (21 * u + 20) - 1) by omega]
      exact Or.inr ⟨z, hlv, by omega⟩
    · rw [if_neg z] at hlv
      exact Or.inl ⟨by omega, hlv⟩
  have hlvb : lv < 4294967296 := by rcases hlv2 with h9 | h9 <;> omega
  refine lv_aload_n hx hb dX4_call_25 rfl (lv_at hl 0 rfl) ?_
  refine mr_get hx hb hts hinX4 hown hK hW (hR.o0) (by rfl) 0 (by decide) (hts (.fieldLink RX4 10 "SeaPost" "fleet" "Ljava/util/ArrayList;") (by decide +kernel)) (fun _ h => h) rfl dX4_call_26 ?_
  refine lv_iload_n hx hb dX4_call_29 rfl (lv_at hl 1 rfl) ?_
  obtain ⟨z_5m, z_5a, z_5f, z_5, -, -⟩ := hR.o2 (x := 0) (Or.inl (by decide))
  refine mk_q (va_runV (As := [.int (nI u)]) (nL := 6) ⟨hx, hb, hml, hown, hts⟩ (kGetF l G N Γ (cs σ ρ) u (show u < σ 0 0 by omega) _ _ hR) (cwV 1 hts gX4_call_Jx4a65c_get_915e3 rfl rfl rfl (by decide +kernel) ⟨(Nat.le_of_ble_eq_true rfl), (Nat.le_of_ble_eq_true rfl)⟩) (mp_V hK hE hW hA (mW_recv hK hW.1 z_5 (by rfl))) rfl rfl hl.1 rfl (lv_room (Nat.le_of_ble_eq_true rfl)) dX4_call_30 ⟨(Nat.le_of_ble_eq_true rfl), (Nat.le_of_ble_eq_true rfl)⟩) hW hA (fun r9 M9 H locs hp_6 hW => ?_)
  obtain ⟨e91, e92⟩ := hp_6
  subst e91
  rw [e92] at hW
  clear e92
  refine W.eq (g2 := F0 m 33 ls [.ref (Γ 4 u)]) rfl ?_
  refine va_castS hx hb hown (hts (.classLink RX4 37 RX3) (by decide +kernel)) (hK.1 4 _ rfl).2 (mW_recv hK hW.1 (hR.o4 (i := u) (show u < σ 0 0 by omega)) (by rfl)) dX4_call_33 ?_
  refine mr_get hx hb hts hinX3 hown hK hW (hR.o4 (i := u) (show u < σ 0 0 by omega)) (by rfl) 2 (by decide) (hts (.fieldLink RX4 59 "SeaPost$Ship" "draft" "LSeaPost$Route;") (by decide +kernel)) (fun _ h => h) rfl dX4_call_36 ?_
  refine W.eq (g2 := F0 m 39 ls [.ref (Γ 5 (21 * u + σ 7 u))]) rfl ?_
  refine lv_astore (lv' := [(5, .ref (Γ 5 (21 * u + σ 7 u))), (0, .ref (Γ 0 0)), (1, .int (nI u)), (2, .int (nI q)), (3, .int (nI a)), (4, .int (nI d))]) hx hb dX4_call_39 hl (by decide) rfl (fun ls hl => ?_)
  refine lv_aload hx hb dX4_call_41 (lv_at hl 0 rfl) ?_
  refine mr_get hx hb hts hinX2 hown hK hW (hR.o5 (i := 21 * u + σ 7 u) hdr) (by rfl) 3 (by decide) (hts (.fieldLink RX4 63 "SeaPost$Route" "calls" "I") (by decide +kernel)) (fun _ h => h) rfl dX4_call_43 ?_
  refine lv_tope (congrArg nI (show (cs σ ρ) 3 (21 * u + σ 7 u) = σ 3 (21 * u + 20) from e3)) ?_
  refine lv_bipush (v := nI 6) hx hb dX4_call_46 (by decide) ?_
  refine nv_icmp_lt (u := σ 3 (21 * u + 20)) (v := 6) (tgt := 61) hx hb dX4_call_48 (by decide) (by omega) (by omega) (fun c_7 => ?_) (fun c_7 => ?_)
  · skip
    refine lv_iload_n hx hb dX4_call_61 rfl (lv_at hl 4 rfl) ?_
    refine lv_aload hx hb dX4_call_62 (lv_at hl 0 rfl) ?_
    refine mk_i (va_runV (As := []) (nL := 6) ⟨hx, hb, hml, hown, hts⟩ (kLastC l G N Γ σ ρ u lv hH hu0 hlv _ _ hR) (cwV 0 hts gX4_call_X2_lastLeaving rfl rfl rfl (by decide +kernel) ⟨(Nat.le_of_ble_eq_true rfl), (Nat.le_of_ble_eq_true rfl)⟩) (mp_V hK hE hW hA (mW_recv hK hW.1 (hR.o5 (i := 21 * u + σ 7 u) hdr) (by rfl))) rfl rfl hl.1 rfl (lv_room (Nat.le_of_ble_eq_true rfl)) dX4_call_64 ⟨(Nat.le_of_ble_eq_true rfl), (Nat.le_of_ble_eq_true rfl)⟩) hW hA (fun r9 M9 H locs hp_8 hW => ?_)
    obtain ⟨e91, e92⟩ := hp_8
    subst e91
    rw [e92] at hW
    clear e92
    refine W.eq (g2 := F0 m 67 ls [.int (nI lv), .int (nI a)]) rfl ?_
    rcases hlv2 with ⟨hz9, hlz⟩ | ⟨hz9, hlz, hlb⟩
    · skip
      refine lv_icmp_gt (tgt := 80) hx hb dX4_call_67 (by decide) (fun _ => ?_) (fun z => absurd (by rw [hlz]; exact m1_lt a (by omega)) z)
      have hW : cW G N Γ (cs σ ρ) (mA M sz) s.heap _ _ := ⟨M, hW, hR⟩
      refine lv_aload hx hb dX4_call_80 (lv_at hl 0 rfl) ?_
      refine lv_iload_n hx hb dX4_call_82 rfl (lv_at hl 3 rfl) ?_
      refine lv_iload_n hx hb dX4_call_83 rfl (lv_at hl 4 rfl) ?_
      refine lv_iload_n hx hb dX4_call_84 rfl (lv_at hl 4 rfl) ?_
      refine lv_iload hx hb dX4_call_85 (lv_at hl 5 rfl) ?_
      refine lv_iadd hx hb dX4_call_87 (lv_tope (nI_add a d) ?_)
      refine ck_Vv (r := (RX2, TX2, 6)) (As := [.int (nI q), .int (nI a), .int (nI (a + d))]) (nL := 6) ⟨hx, hb, hml, hown, hts⟩ (uCall l G N Γ (cs σ ρ) (21 * u + σ 7 u) q a (a + d) hdr (by rw [e3]; omega)) (cwV 3 hts gX4_call_X2_addCall rfl rfl rfl (by decide +kernel) ⟨(Nat.le_of_ble_eq_true rfl), (Nat.le_of_ble_eq_true rfl)⟩) hK hE hW hA (fun M hM => hM.o5 (i := 21 * u + σ 7 u) hdr) (by rfl) rfl hl.1 rfl (Nat.le_of_ble_eq_true rfl) dX4_call_88 ⟨(Nat.le_of_ble_eq_true rfl), (Nat.le_of_ble_eq_true rfl)⟩ (fun H locs hW => ?_)
      obtain ⟨σ_9, eσ_9⟩ : ∃ z : Sg, z = acC (cs σ ρ) (21 * u + σ 7 u) q a (a + d) := ⟨_, rfl⟩
      rw [← eσ_9] at hW
      refine W.eq (g2 := F0 m 91 ls []) rfl ?_
      have hnx := ac_eq (q := q) (a := a) (d := d) hC hu0
      have e39 : σ_9 3 (21 * u + σ 7 u) = σ 3 (21 * u + 20) + 1 := by rw [eσ_9]; unfold acC; rw [st_s, e3]
      have hdr9 : isR σ_9 (21 * u + σ 7 u) := by subst eσ_9; exact hdr
      refine lv_aload hx hb dX4_call_91 (lv_at hl 0 rfl) ?_
      refine cr_get hx hb hts hinX2 hown hK hW (fun M hM => hM.o5 (i := 21 * u + σ 7 u) hdr9) (by rfl) 3 (by decide) (hts (.fieldLink RX4 63 "SeaPost$Route" "calls" "I") (by decide +kernel)) (fun _ h => h) rfl dX4_call_93 ?_
      refine lv_tope (congrArg nI (show σ_9 3 (21 * u + σ 7 u) = σ 3 (21 * u + 20) + 1 from e39)) ?_
      obtain ⟨M9x, hW, hR9⟩ := hW
      exact vx_ret (mr_iret hx hb hr hlk (Nat.le_of_ble_eq_true rfl) (Nat.le_of_ble_eq_true rfl) hW ⟨by unfold thC; first | (rw [if_neg (by omega), if_neg (by omega), if_pos (by omega)]; done) | (rw [if_neg (by omega), if_neg (by omega), if_neg (by omega)]; done) | (rw [if_neg (by omega), if_pos (by omega)]; done) | (rw [if_pos (by omega)]; done), rfl, Γ, ρC ρ (21 * u + σ 7 u) (σ 3 (21 * u + 20)) q a (a + d), rfl, by rw [← hnx, ← eσ_9]; exact hR9, hH.call hu0 (by omega) (by omega) (by omega) (by omega) (by omega)⟩ dX4_call_96)
    · skip
      refine nv_icmp_gt (u := a) (v := lv) (tgt := 80) hx hb dX4_call_67 (by decide) (by omega) (by omega) (fun c_10 => ?_) (fun c_10 => ?_)
      · skip
        have hW : cW G N Γ (cs σ ρ) (mA M sz) s.heap _ _ := ⟨M, hW, hR⟩
        refine lv_aload hx hb dX4_call_80 (lv_at hl 0 rfl) ?_
        refine lv_iload_n hx hb dX4_call_82 rfl (lv_at hl 3 rfl) ?_
        refine lv_iload_n hx hb dX4_call_83 rfl (lv_at hl 4 rfl) ?_
        refine lv_iload_n hx hb dX4_call_84 rfl (lv_at hl 4 rfl) ?_
        refine lv_iload hx hb dX4_call_85 (lv_at hl 5 rfl) ?_
        refine lv_iadd hx hb dX4_call_87 (lv_tope (nI_add a d) ?_)
        refine ck_Vv (r := (RX2, TX2, 6)) (As := [.int (nI q), .int (nI a), .int (nI (a + d))]) (nL := 6) ⟨hx, hb, hml, hown, hts⟩ (uCall l G N Γ (cs σ ρ) (21 * u + σ 7 u) q a (a + d) hdr (by rw [e3]; omega)) (cwV 3 hts gX4_call_X2_addCall rfl rfl rfl (by decide +kernel) ⟨(Nat.le_of_ble_eq_true rfl), (Nat.le_of_ble_eq_true rfl)⟩) hK hE hW hA (fun M hM => hM.o5 (i := 21 * u + σ 7 u) hdr) (by rfl) rfl hl.1 rfl (Nat.le_of_ble_eq_true rfl) dX4_call_88 ⟨(Nat.le_of_ble_eq_true rfl), (Nat.le_of_ble_eq_true rfl)⟩ (fun H locs hW => ?_)
        obtain ⟨σ_11, eσ_11⟩ : ∃ z : Sg, z = acC (cs σ ρ) (21 * u + σ 7 u) q a (a + d) := ⟨_, rfl⟩
        rw [← eσ_11] at hW
        refine W.eq (g2 := F0 m 91 ls []) rfl ?_
        have hnx := ac_eq (q := q) (a := a) (d := d) hC hu0
        have e39 : σ_11 3 (21 * u + σ 7 u) = σ 3 (21 * u + 20) + 1 := by rw [eσ_11]; unfold acC; rw [st_s, e3]
        have hdr9 : isR σ_11 (21 * u + σ 7 u) := by subst eσ_11; exact hdr
        refine lv_aload hx hb dX4_call_91 (lv_at hl 0 rfl) ?_
        refine cr_get hx hb hts hinX2 hown hK hW (fun M hM => hM.o5 (i := 21 * u + σ 7 u) hdr9) (by rfl) 3 (by decide) (hts (.fieldLink RX4 63 "SeaPost$Route" "calls" "I") (by decide +kernel)) (fun _ h => h) rfl dX4_call_93 ?_
        refine lv_tope (congrArg nI (show σ_11 3 (21 * u + σ 7 u) = σ 3 (21 * u + 20) + 1 from e39)) ?_
        obtain ⟨M9x, hW, hR9⟩ := hW
        exact vx_ret (mr_iret hx hb hr hlk (Nat.le_of_ble_eq_true rfl) (Nat.le_of_ble_eq_true rfl) hW ⟨by unfold thC; first | (rw [if_neg (by omega), if_neg (by omega), if_pos (by omega)]; done) | (rw [if_neg (by omega), if_neg (by omega), if_neg (by omega)]; done) | (rw [if_neg (by omega), if_pos (by omega)]; done) | (rw [if_pos (by omega)]; done), rfl, Γ, ρC ρ (21 * u + σ 7 u) (σ 3 (21 * u + 20)) q a (a + d), rfl, by rw [← hnx, ← eσ_11]; exact hR9, hH.call hu0 (by omega) (by omega) (by omega) (by omega) (by omega)⟩ dX4_call_96)
      · skip
        exact mx_throw (cls := "java/lang/IllegalStateException") (text := "the call before leaves on this day or later") (ik := 30) (is := 74) (ic := 34) hx hb hst (hml.trans hl.1.symm) hown hts hlk htab hE (by decide +kernel) (by decide +kernel) (by decide +kernel) (by decide +kernel) (fun _ h => List.mem_cons_of_mem _ (List.mem_append_left _ (List.mem_append_left _ (List.mem_append_right _ h)))) tb_3 tg_3 (by decide +kernel) hW (xOk.of (k := 3) (by unfold thC; first | (rw [if_neg (by omega), if_neg (by omega), if_pos (by omega)]; done) | (rw [if_neg (by omega), if_neg (by omega), if_neg (by omega)]; done) | (rw [if_neg (by omega), if_pos (by omega)]; done) | (rw [if_pos (by omega)]; done)) (by decide) rfl) dX4_call_70 dX4_call_73 dX4_call_74 dX4_call_76 dX4_call_79 (Nat.le_of_ble_eq_true rfl) (Nat.le_of_ble_eq_true rfl) (Nat.le_of_ble_eq_true rfl) (Nat.le_of_ble_eq_true rfl) (Nat.le_of_ble_eq_true rfl) (Nat.le_of_ble_eq_true rfl)
  · skip
    exact mx_throw (cls := "java/lang/IllegalStateException") (text := "the draft has 6 calls") (ik := 30) (is := 69) (ic := 34) hx hb hst (hml.trans hl.1.symm) hown hts hlk htab hE (by decide +kernel) (by decide +kernel) (by decide +kernel) (by decide +kernel) (fun _ h => List.mem_cons_of_mem _ (List.mem_append_left _ (List.mem_append_left _ (List.mem_append_right _ h)))) tb_3 tg_3 (by decide +kernel) hW (xOk.of (k := 3) (by unfold thC; first | (rw [if_neg (by omega), if_neg (by omega), if_pos (by omega)]; done) | (rw [if_neg (by omega), if_neg (by omega), if_neg (by omega)]; done) | (rw [if_neg (by omega), if_pos (by omega)]; done) | (rw [if_pos (by omega)]; done)) (by decide) rfl) dX4_call_51 dX4_call_54 dX4_call_55 dX4_call_57 dX4_call_60 (Nat.le_of_ble_eq_true rfl) (Nat.le_of_ble_eq_true rfl) (Nat.le_of_ble_eq_true rfl) (Nat.le_of_ble_eq_true rfl) (Nat.le_of_ble_eq_true rfl) (Nat.le_of_ble_eq_true rfl)

theorem fin_dy {σ : Sg} (hI : IV σ) (hd : σ 24 0 < 1000) : fin (dy σ) = fin (dyA σ) := by
  unfold dy
  split
  · obtain ⟨r1, r2, r3, r4, r5, r6, r7⟩ := ((IM.of hI hd).go (σ 8 0) (by rw [st_f (by decide)]; exact Nat.le_refl _)).1
    have k2 := ((IM.of hI hd).go (σ 8 0) (by rw [st_f (by decide)]; exact Nat.le_refl _)).2
    have e8 : dyA σ 8 0 = σ 8 0 := (k2 8 0 (Or.inl (by decide))).trans (st_f (by decide))
    obtain ⟨a1, a2, a3, a4⟩ := opN_ok (σ := dyA σ) r1 r2 (fun i hi h5 => by obtain ⟨_, _, c, _, _, f⟩ := r4 i (by rw [e8] at hi; exact hi) hi; exact ⟨f.2.2.2.1 h5, c⟩) (dyA σ 20 0) (Nat.le_refl _)
    have o : ∀ g j, g ≠ 20 → off (dyA σ) g j = opN (dyA σ) (dyA σ 20 0) g j := fun g j h => st_f h
    unfold fin
    rw [o 8 0 (by decide), a2 8 0 (by decide) (by decide) (by decide)]
    refine cnt_congr _ (fun i hi => ?_)
    rw [o 12 i (by decide)]
    by_cases z : ∃ k, k < dyA σ 20 0 ∧ dyA σ 19 k = i
    · obtain ⟨k, hk, rfl⟩ := z
      have h5 : dyA σ 12 (dyA σ 19 k) = 5 := (LX.mem r2 hk).2
      rcases (a4 k hk).1 with h | h
      · rw [h, h5]; rfl
      · rw [h, h5]; rfl
    · rw [(a3 i (fun j hj w => z ⟨j, hj, w⟩)).1]
  · rfl

set_option maxHeartbeats 4000000 in
set_option maxRecDepth 100000 in
theorem wPass (l : Launch) (hst : l.stackTraces = false) (G : mG) (N : Mem) (Γ : Adr) (σ ρ : Sg) (d : Nat) (hd : d < 4294967296) (hH : HS σ ρ) : pXi l yX4_pass wsX4_pass 11 47 3000 G N Γ σ ρ [.ref (Γ 0 0), .int (nI d)] (thD σ d) (dyN σ d 22 0 + 4294967296 - σ 22 0) (dyN σ d) ["java/lang/IllegalArgumentException", "java/lang/IllegalStateException"] := by
  intro M sz hR
  refine m_startX cX4_pass 4 (some .int) (by decide) rfl (Nat.le_of_ble_eq_true rfl) ?_
  intro p e s m below meth c ls hx hb hr hml hown hlk hnm hts hK hsz hE hW hl htab
  have hA := mA_A (M := M) hsz
  have hl : lv_has ls 4 [(0, .ref (Γ 0 0)), (1, .int (nI d))] := hl
  have hinX0 : ∀ w ∈ u_ws RX0 TX0 2, w ∈ wsX4_pass := (fun _ h => List.mem_cons_of_mem _ (List.mem_append_left _ (List.mem_append_left _ (List.mem_append_left _ (List.mem_append_left _ (List.mem_append_right _ h))))))
  have hinX1 : ∀ w ∈ u_ws RX1 TX1 10, w ∈ wsX4_pass := (fun _ h => List.mem_cons_of_mem _ (List.mem_append_left _ (List.mem_append_left _ (List.mem_append_left _ (List.mem_append_left _ (List.mem_append_left _ (List.mem_append_left _ (List.mem_append_right _ h))))))))
  have hinX2 : ∀ w ∈ u_ws RX2 TX2 6, w ∈ wsX4_pass := (fun _ h => List.mem_cons_of_mem _ (List.mem_append_left _ (List.mem_append_left _ (List.mem_append_right _ h))))
  have hinX3 : ∀ w ∈ u_ws RX3 TX3 3, w ∈ wsX4_pass := (fun _ h => List.mem_cons_of_mem _ (List.mem_append_left _ (List.mem_append_left _ (List.mem_append_left _ (List.mem_append_right _ h)))))
  have hinX4 : ∀ w ∈ u_ws RX4 TX4 6, w ∈ wsX4_pass := (fun _ h => List.mem_cons_of_mem _ (List.mem_append_left _ (List.mem_append_left _ (List.mem_append_left _ (List.mem_append_left _ (List.mem_append_left _ (List.mem_append_left _ (List.mem_append_left _ (List.mem_append_right _ h)))))))))
  have hinJx4a65c : ∀ w ∈ u_ws RJx4a65c TJx4a65c 3, w ∈ wsX4_pass := (fun _ h => List.mem_cons_of_mem _ (List.mem_append_left _ (List.mem_append_left _ (List.mem_append_left _ (List.mem_append_left _ (List.mem_append_left _ (List.mem_append_right _ h)))))))
  have hI := hH.1
  obtain ⟨hV, hS, hD, hL, hZ, hRI⟩ := id hI
  have b0 : σ 0 0 ≤ 8 := hV 0 0
  have b8 : σ 8 0 ≤ 40 := hV 8 0
  have b24 : σ 24 0 ≤ 1000 := hV 24 0
  have hct := hH.cnt
  refine lv_iload_n hx hb dX4_pass_0 rfl (lv_at hl 1 rfl) ?_
  refine lv_iconst (v := nI 1) hx hb dX4_pass_1 (by decide) ?_
  refine lv_bipush (v := nI 60) hx hb dX4_pass_2 (by decide) ?_
  refine mx_v (vx_runS (As := [.int (nI d), .int (nI 1), .int (nI 60)]) (nL := 4) ⟨hx, hb, hml, hown, hts⟩ (xRange l hst G _ _ d 1 60 (by omega) (by omega) (by omega)) (va_cwS 3 hts gX4_pass_X4_needRange rfl rfl rfl (by decide +kernel) ⟨(Nat.le_of_ble_eq_true rfl), (Nat.le_of_ble_eq_true rfl)⟩) (mp_S hK hE hW hA) rfl rfl hl.1 rfl (lv_room (Nat.le_of_ble_eq_true rfl)) dX4_pass_4 ⟨(Nat.le_of_ble_eq_true rfl), (Nat.le_of_ble_eq_true rfl)⟩) hW hsz htab hlk (fun E hE9 => by obtain ⟨h1, rfl⟩ := hE9; exact xOk.of (k := 1) (by unfold thD; first | (rw [if_pos (by omega)]; done) | (rw [if_neg (by omega)]; done) | (rw [if_neg (by omega), if_pos (by omega)]; done) | (rw [if_neg (by omega), if_neg (by omega)]; done) | (rw [if_neg (by omega), if_neg (by omega), if_neg (by omega)]; done)) (by decide) rfl) (Nat.le_of_ble_eq_true rfl) (Nat.le_of_ble_eq_true rfl) (fun M9 H locs hp_1 hW => ?_)
  obtain ⟨hd0, e92⟩ := hp_1
  rw [e92] at hW
  clear e92
  refine W.eq (g2 := F0 m 7 ls []) rfl ?_
  refine lv_aload_n hx hb dX4_pass_7 rfl (lv_at hl 0 rfl) ?_
  refine mr_get hx hb hts hinX4 hown hK hW (hR.o0) (by rfl) 4 (by decide) (hts (.fieldLink RX4 84 "SeaPost" "day" "I") (by decide +kernel)) (fun _ h => h) rfl dX4_pass_8 ?_
  refine lv_tope (congrArg nI (show (cs σ ρ) 24 0 = σ 24 0 from rfl)) ?_
  refine lv_iload_n hx hb dX4_pass_11 rfl (lv_at hl 1 rfl) ?_
  refine lv_iadd hx hb dX4_pass_12 (lv_tope (nI_add (σ 24 0) d) ?_)
  refine lv_sipush (v := nI 1000) hx hb dX4_pass_13 (by decide) ?_
  refine nv_icmp_le (u := σ 24 0 + d) (v := 1000) (tgt := 29) hx hb dX4_pass_16 (by decide) (by omega) (by omega) (fun c_2 => ?_) (fun c_2 => ?_)
  · skip
    have hW : cW G N Γ (cs σ ρ) (mA M sz) s.heap _ _ := ⟨M, hW, hR⟩
    refine lv_aload_n hx hb dX4_pass_29 rfl (lv_at hl 0 rfl) ?_
    refine cr_get hx hb hts hinX4 hown hK hW (fun M hM => hM.o0) (by rfl) 5 (by decide) (hts (.fieldLink RX4 136 "SeaPost" "deliveries" "I") (by decide +kernel)) (fun _ h => h) rfl dX4_pass_30 ?_
    refine lv_tope (congrArg nI (show (cs σ ρ) 22 0 = σ 22 0 from rfl)) ?_
    refine lv_istore_n (lv' := [(2, .int (nI (σ 22 0))), (0, .ref (Γ 0 0)), (1, .int (nI d))]) hx hb dX4_pass_33 rfl hl (by decide) rfl (fun ls hl => ?_)
    refine lv_iconst (v := nI 0) hx hb dX4_pass_34 (by decide) ?_
    refine lv_istore_n (lv' := [(3, .int (nI 0)), (2, .int (nI (σ 22 0))), (0, .ref (Γ 0 0)), (1, .int (nI d))]) hx hb dX4_pass_35 rfl hl (by decide) rfl (fun ls hl => ?_)
    refine m_loopC d (fun n H locs ls c9 s9 => cW G N Γ (cs (dyN σ n) ρ) (mA M sz) s.heap H locs ∧ lv_has ls 4 [(3, .int (nI n)), (0, .ref (Γ 0 0)), (1, .int (nI d)), (2, .int (nI (σ 22 0)))] ∧ c9 + fin σ ≤ 1 + fin (dyN σ n) ∧ s9 ≤ 6 + 64 * c9) 0 (Nat.zero_le _) ⟨hW, lv_sub hl [0, 2, 3, 1] rfl, (show 0 + 1 + fin σ ≤ 1 + fin σ by omega), (by decide)⟩ (fun n H locs ls c9 s9 hn hI9 ih => ?_)
    obtain ⟨hW, hl, hc9, hs9⟩ := hI9
    obtain ⟨hHn, hdn⟩ := hH.days (ρ := ρ) n (by omega)
    refine lv_iload_n hx hb dX4_pass_36 rfl (lv_at hl 0 rfl) ?_
    refine lv_iload_n hx hb dX4_pass_37 rfl (lv_at hl 2 rfl) ?_
    refine nv_icmp_ge (u := n) (v := d) (tgt := 51) hx hb dX4_pass_38 (by decide) (by omega) (by omega) (fun c_3 => ?_) (fun c_3 => ?_)
    · skip
      refine lv_aload_n hx hb dX4_pass_51 rfl (lv_at hl 1 rfl) ?_
      refine cr_get hx hb hts hinX4 hown hK hW (fun M hM => hM.o0) (by rfl) 5 (by decide) (hts (.fieldLink RX4 136 "SeaPost" "deliveries" "I") (by decide +kernel)) (fun _ h => h) rfl dX4_pass_52 ?_
      refine lv_tope (congrArg nI (show (cs (dyN σ n) ρ) 22 0 = dyN σ n 22 0 from rfl)) ?_
      refine lv_iload_n hx hb dX4_pass_55 rfl (lv_at hl 3 rfl) ?_
      have hn9 : n = d := by omega
      refine lv_isub hx hb dX4_pass_56 (lv_tope (nI_subw (a := dyN σ n 22 0) (b := σ 22 0) (by omega)) ?_)
      obtain ⟨M9x, hW, hR9⟩ := hW
      subst hn9
      exact vx_ret (mr_iret hx hb hr hlk (show c9 ≤ 47 by have hf40 : fin (dyN σ n) ≤ 40 := fin_le hHn.1.1; omega) (show s9 ≤ 3000 by have hf40 : fin (dyN σ n) ≤ 40 := fin_le hHn.1.1; omega) hW ⟨by unfold thD; rw [if_neg (by omega), if_neg (by omega)], rfl, Γ, ρ, rfl, hR9, hHn⟩ dX4_pass_57)
    · skip
      refine lv_aload_n hx hb dX4_pass_41 rfl (lv_at hl 1 rfl) ?_
      have hd9 : dyN σ n 24 0 < 1000 := by omega
      have hfm := fin_mono hHn.1 hd9 (dyN σ n 8 0) (Nat.le_refl _)
      have hfm : fin (dyN σ n) ≤ fin (dyA (dyN σ n)) := hfm
      have hmcD : ∀ k, k ≤ dyN σ n 8 0 → fin (daN (st (dyN σ n) 24 0 (dyN σ n 24 0 + 1)) k) ≤ fin (dyN σ n) + (fin (dyA (dyN σ n)) - fin (dyN σ n)) := fun k hk => by
        have h1 := fin_up hHn.1 hd9 k (dyN σ n 8 0 - k) (by omega)
        rw [show k + (dyN σ n 8 0 - k) = dyN σ n 8 0 by omega] at h1
        have h1 : fin (daN (st (dyN σ n) 24 0 (dyN σ n 24 0 + 1)) k) ≤ fin (dyA (dyN σ n)) := h1
        omega
      have hfd : fin (dyN σ (n + 1)) = fin (dyA (dyN σ n)) := fin_dy hHn.1 hd9
      have hf40 : fin (dyN σ (n + 1)) ≤ 40 := by
        have := (hH.days (ρ := ρ) (n + 1) (by omega)).1
        exact fin_le this.1.1
      have hc41 : c9 + (fin (dyA (dyN σ n)) - fin (dyN σ n)) ≤ 41 := by omega
      refine ck_Vv (r := (RX4, TX4, 6)) (As := []) (nL := 4) ⟨hx, hb, hml, hown, hts⟩ (vDay l G N Γ (dyN σ n) ρ hHn.1 (by omega) hHn.2.2 (fin (dyA (dyN σ n)) - fin (dyN σ n)) hmcD) (cwV 0 hts gX4_pass_X4_passOneDay rfl rfl rfl (by decide +kernel) ⟨(Nat.le_of_ble_eq_true rfl), (Nat.le_of_ble_eq_true rfl)⟩) hK hE hW hA (fun M hM => hM.o0) (by rfl) rfl hl.1 rfl (Nat.le_of_ble_eq_true rfl) dX4_pass_42 ⟨(show c9 + _ ≤ 47 by omega), (show s9 + _ ≤ 3000 by omega)⟩ (fun H locs hW => ?_)
      obtain ⟨σ_4, eσ_4⟩ : ∃ z : Sg, z = cs (dy (dyN σ n)) ρ := ⟨_, rfl⟩
      rw [← eσ_4] at hW
      refine W.eq (g2 := F0 m 45 ls []) rfl ?_
      refine lv_iinc (v := nI (n + 1)) (lv' := [(3, .int (nI (n + 1))), (0, .ref (Γ 0 0)), (1, .int (nI d)), (2, .int (nI (σ 22 0)))]) hx hb dX4_pass_45 hl (k := 0) rfl (by rw [show (Int32.ofInt 1) = nI 1 by decide, nI_add]) (by decide) rfl (fun ls hl => ?_)
      refine lv_goto (tgt := 36) hx hb dX4_pass_48 (by decide) ?_
      exact ih _ _ _ _ _ (by omega) ⟨by rw [eσ_4] at hW; exact hW, lv_sub hl [0, 1, 2, 3] rfl, by omega, by omega⟩
  · skip
    exact mx_throw (cls := "java/lang/IllegalStateException") (text := "today would be above 1000") (ik := 30) (is := 134) (ic := 34) hx hb hst (hml.trans hl.1.symm) hown hts hlk htab hE (by decide +kernel) (by decide +kernel) (by decide +kernel) (by decide +kernel) (fun _ h => List.mem_cons_of_mem _ (List.mem_append_left _ (List.mem_append_right _ h))) tb_3 tg_3 (by decide +kernel) hW (xOk.of (k := 2) (by unfold thD; rw [if_neg (by omega), if_pos (by omega)]) (by decide) rfl) dX4_pass_19 dX4_pass_22 dX4_pass_23 dX4_pass_25 dX4_pass_28 (Nat.le_of_ble_eq_true rfl) (Nat.le_of_ble_eq_true rfl) (Nat.le_of_ble_eq_true rfl) (Nat.le_of_ble_eq_true rfl) (Nat.le_of_ble_eq_true rfl) (Nat.le_of_ble_eq_true rfl)
