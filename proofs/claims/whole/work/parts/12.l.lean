/-! THE CLASS: dead letters are opened, a day passes (mine) -/
theorem kDead (l : Launch) (G : mG) (N : Mem) (Γ : Adr) (σ ρ : Sg) (k : Nat) (hk : k < σ 20 0) (h40 : σ 20 0 ≤ 40) (M : Mem) (sz : Nat) (hR : Rp G N Γ (cs σ ρ) M) : cMq l yJx4a65c_get_915e3 wsJx4a65c_get_915e3 2 0 0 G M sz [.ref (Γ 2 2), .int (nI k)] (fun r M' => r = some (Γ 9 (σ 19 k)) ∧ M' = M) := by
  have h := kGetD l G N Γ (cs σ ρ) k hk M sz hR
  rw [show cs σ ρ 31 (128 + k) = σ 19 k from cs_31d (j := k) (by omega)] at h
  exact h
theorem kDueC (l : Launch) (G : mG) (N : Mem) (Γ : Adr) (σ ρ : Sg) (i : Nat) (hi : i < σ 8 0) (hV : RV σ) (h7 : σ 12 i ≤ 7) (M : Mem) (sz : Nat) (hR : Rp G N Γ (cs σ ρ) M) : cMi l yX4_isDue wsX4_isDue 1 0 0 G M sz [.ref (Γ 0 0), .ref (Γ 9 i)] (fun y9 M' => y9 = nI (if cmes σ i ∨ lies σ i then 1 else 0) ∧ M' = M) := by
  have b13 : σ 13 i ≤ 9 := hV 13 i
  have b14 : σ 14 i ≤ 1020 := hV 14 i
  have b24 : σ 24 0 ≤ 1000 := hV 24 0
  have e12 : cs σ ρ 12 i = σ 12 i := if_neg (by omega)
  have h := kDue l G N Γ (cs σ ρ) i hi (by omega) (fun z => by rw [e12] at z; rw [show cs σ ρ 13 i = σ 13 i from if_neg (by omega)]; omega) (by show σ 14 i < _; omega) (by show σ 24 0 < _; omega) (fun j _ => by have : σ 23 j ≤ 1060 := hV 23 j; show σ 23 j < _; omega) M sz hR
  have ee : ((cs σ ρ 12 i = 3 ∧ cs σ ρ 14 i ≤ cs σ ρ 24 0 ∧ ¬ cs σ ρ 24 0 < cs σ ρ 23 (cs σ ρ 13 i)) ∨ (cs σ ρ 12 i = 0 ∨ cs σ ρ 12 i = 2 ∨ cs σ ρ 12 i = 4)) ↔ (cmes σ i ∨ lies σ i) := by
    rw [e12]
    by_cases z : σ 12 i = 3
    · rw [show cs σ ρ 13 i = σ 13 i from if_neg (by omega)]
      exact Iff.rfl
    · exact ⟨fun w => by rcases w with w | w; exact absurd w.1 z; exact Or.inr w, fun w => by rcases w with w | w; exact absurd w.1 z; exact Or.inr w⟩
  rw [show (if (cs σ ρ 12 i = 3 ∧ cs σ ρ 14 i ≤ cs σ ρ 24 0 ∧ ¬ cs σ ρ 24 0 < cs σ ρ 23 (cs σ ρ 13 i)) ∨ (cs σ ρ 12 i = 0 ∨ cs σ ρ 12 i = 2 ∨ cs σ ρ 12 i = 4) then 1 else 0 : Nat) = (if cmes σ i ∨ lies σ i then 1 else 0) from by
    by_cases z : cmes σ i ∨ lies σ i
    · rw [if_pos z, if_pos (ee.mpr z)]
    · rw [if_neg z, if_neg (fun w => z (ee.mp w))]] at h
  exact h

set_option maxHeartbeats 4000000 in
set_option maxRecDepth 100000 in
theorem uOpenAll (l : Launch) (G : mG) (N : Mem) (Γ : Adr) (σ ρ : Sg)  (hV : RV σ) (hS : LX 19 20 5 σ) (hL : ∀ i, i < σ 8 0 → σ 12 i = 5 → σ 18 i ≤ 120 ∧ hasP σ i) : cUv l yX4_openDeadMail wsX4_openDeadMail 4 0 0 G N Γ (cs σ ρ) [.ref (Γ 0 0)] (cs (off σ) ρ) := by
  intro M sz hR
  refine m_start cX4_openDeadMail 2 none (by decide) rfl (Nat.le_of_ble_eq_true rfl) ?_
  intro p e s m below meth c ls hx hb hr hml hown hlk hnm hts hK hsz hE hW hl
  have hA := mA_A (M := M) hsz
  have hW : cW G N Γ (cs σ ρ) (mA M sz) s.heap s.heap [] := ⟨M, hW, hR⟩
  have hl : lv_has ls 2 [(0, .ref (Γ 0 0))] := hl
  have hinX0 : ∀ w ∈ u_ws RX0 TX0 2, w ∈ wsX4_openDeadMail := (fun _ h => List.mem_cons_of_mem _ (List.mem_append_right _ h))
  have hinX1 : ∀ w ∈ u_ws RX1 TX1 10, w ∈ wsX4_openDeadMail := (fun _ h => List.mem_cons_of_mem _ (List.mem_append_left _ (List.mem_append_right _ h)))
  have hinX4 : ∀ w ∈ u_ws RX4 TX4 6, w ∈ wsX4_openDeadMail := (fun _ h => List.mem_cons_of_mem _ (List.mem_append_left _ (List.mem_append_left _ (List.mem_append_left _ (List.mem_append_right _ h)))))
  have hinJx4a65c : ∀ w ∈ u_ws RJx4a65c TJx4a65c 3, w ∈ wsX4_openDeadMail := (fun _ h => List.mem_cons_of_mem _ (List.mem_append_left _ (List.mem_append_left _ (List.mem_append_right _ h))))
  have hV20 : σ 20 0 ≤ 40 := by
    have h8 : σ 8 0 ≤ 40 := hV 8 0
    have := hS (fun _ => true)
    rw [cnt_true] at this
    have := cnt_le (P := fun i => decide (σ 12 i = 5) && true) (σ 8 0)
    omega
  refine lv_iconst (v := nI 0) hx hb dX4_openDeadMail_0 (by decide) ?_
  refine lv_istore_n (lv' := [(1, .int (nI 0)), (0, .ref (Γ 0 0))]) hx hb dX4_openDeadMail_1 rfl hl (by decide) rfl (fun ls hl => ?_)
  refine m_loop (σ 20 0) (fun k H locs ls => cW G N Γ (cs (opN σ k) ρ) (mA M sz) s.heap H locs ∧ lv_has ls 2 [(1, .int (nI k)), (0, .ref (Γ 0 0))]) 0 (Nat.zero_le _) ⟨hW, lv_sub hl [0, 1] rfl⟩ (fun k H locs ls hn hI ih => ?_)
  obtain ⟨hW, hl⟩ := hI
  obtain ⟨a1, a2, a3, a4⟩ := opN_ok hV hS hL k hn
  have f20 : opN σ k 20 0 = σ 20 0 := a2 20 0 (by decide) (by decide) (by decide)
  have f8 : opN σ k 8 0 = σ 8 0 := a2 8 0 (by decide) (by decide) (by decide)
  have f19 : opN σ k 19 k = σ 19 k := a2 19 k (by decide) (by decide) (by decide)
  refine lv_iload_n hx hb dX4_openDeadMail_2 rfl (lv_at hl 0 rfl) ?_
  refine lv_aload_n hx hb dX4_openDeadMail_3 rfl (lv_at hl 1 rfl) ?_
  refine cr_get hx hb hts hinX4 hown hK hW (fun M hM => hM.o0) (by rfl) 2 (by decide) (hts (.fieldLink RX4 19 "SeaPost" "deadMail" "Ljava/util/ArrayList;") (by decide +kernel)) (fun _ h => h) rfl dX4_openDeadMail_4 ?_
  obtain ⟨M9x, hW, hR⟩ := hW
  obtain ⟨z_1m, z_1a, z_1f, z_1, -, -⟩ := hR.o2 (x := 2) (Or.inl (by decide))
  refine mk_i (va_runV (As := []) (nL := 2) ⟨hx, hb, hml, hown, hts⟩ (kSize l G N Γ (cs (opN σ k) ρ) 2 (Or.inl (by decide)) _ _ hR) (cwV 0 hts gX4_openDeadMail_Jx4a65c_size_8abf5 rfl rfl rfl (by decide +kernel) ⟨(Nat.le_of_ble_eq_true rfl), (Nat.le_of_ble_eq_true rfl)⟩) (mp_V hK hE hW hA (mW_recv hK hW.1 z_1 (by rfl))) rfl rfl hl.1 rfl (lv_room (Nat.le_of_ble_eq_true rfl)) dX4_openDeadMail_7 ⟨(Nat.le_of_ble_eq_true rfl), (Nat.le_of_ble_eq_true rfl)⟩) hW hA (fun r9 M9 H locs hp_2 hW => ?_)
  obtain ⟨e91, e92⟩ := hp_2
  subst e91
  rw [e92] at hW
  clear e92
  refine W.eq (g2 := F0 m 10 ls [.int (nI (cs (opN σ k) ρ 30 2)), .int (nI k)]) rfl ?_
  have hW : cW G N Γ (cs (opN σ k) ρ) (mA M sz) s.heap H locs := ⟨_, hW, hR⟩
  refine lv_tope (congrArg nI (show cs (opN σ k) ρ 30 2 = σ 20 0 from f20)) ?_
  refine nv_icmp_ge (u := k) (v := σ 20 0) (tgt := 33) hx hb dX4_openDeadMail_10 (by decide) (by omega) (by omega) (fun c_3 => ?_) (fun c_3 => ?_)
  · skip
    refine lv_aload_n hx hb dX4_openDeadMail_33 rfl (lv_at hl 1 rfl) ?_
    refine cr_get hx hb hts hinX4 hown hK hW (fun M hM => hM.o0) (by rfl) 2 (by decide) (hts (.fieldLink RX4 19 "SeaPost" "deadMail" "Ljava/util/ArrayList;") (by decide +kernel)) (fun _ h => h) rfl dX4_openDeadMail_34 ?_
    refine ck_clr ⟨hx, hb, hml, hown, hts⟩ (cwV 0 hts gX4_openDeadMail_Jx4a65c_clear_da8c8 rfl rfl rfl (by decide +kernel) ⟨(Nat.le_of_ble_eq_true rfl), (Nat.le_of_ble_eq_true rfl)⟩) hK hE hW hA hl.1 (Nat.le_of_ble_eq_true rfl) dX4_openDeadMail_37 ⟨(Nat.le_of_ble_eq_true rfl), (Nat.le_of_ble_eq_true rfl)⟩ (fun H locs hW => ?_)
    refine W.eq (g2 := F0 m 40 ls []) rfl ?_
    exact cr_vret hx hb hr hlk (Nat.le_of_ble_eq_true rfl) (Nat.le_of_ble_eq_true rfl) hW (by rw [show k = σ 20 0 by omega]; exact cs_open.symm) dX4_openDeadMail_40
  · skip
    have hm := hS.mem (k := k) (by omega)
    have f5 := a3 (σ 19 k) (fun j hj => hS.inj (j := j) (k := k) hj (by omega))
    have f5a : opN σ k 12 (opN σ k 19 k) = 5 := by rw [f19, f5.1]; exact hm.2
    have f5b : opN σ k 18 (opN σ k 19 k) ≤ 120 := by rw [f19, f5.2.1]; exact (hL _ hm.1 hm.2).1
    have f5c : opN σ k 19 k < opN σ k 8 0 := by rw [f19, f8]; exact hm.1
    refine lv_aload_n hx hb dX4_openDeadMail_13 rfl (lv_at hl 1 rfl) ?_
    refine cr_get hx hb hts hinX4 hown hK hW (fun M hM => hM.o0) (by rfl) 2 (by decide) (hts (.fieldLink RX4 19 "SeaPost" "deadMail" "Ljava/util/ArrayList;") (by decide +kernel)) (fun _ h => h) rfl dX4_openDeadMail_14 ?_
    refine lv_iload_n hx hb dX4_openDeadMail_17 rfl (lv_at hl 0 rfl) ?_
    obtain ⟨M9x, hW, hR⟩ := hW
    obtain ⟨z_4m, z_4a, z_4f, z_4, -, -⟩ := hR.o2 (x := 2) (Or.inl (by decide))
    refine mk_q (va_runV (As := [.int (nI k)]) (nL := 2) ⟨hx, hb, hml, hown, hts⟩ (kDead l G N Γ (opN σ k) ρ k (by omega) (by omega) _ _ hR) (cwV 1 hts gX4_openDeadMail_Jx4a65c_get_915e3 rfl rfl rfl (by decide +kernel) ⟨(Nat.le_of_ble_eq_true rfl), (Nat.le_of_ble_eq_true rfl)⟩) (mp_V hK hE hW hA (mW_recv hK hW.1 z_4 (by rfl))) rfl rfl hl.1 rfl (lv_room (Nat.le_of_ble_eq_true rfl)) dX4_openDeadMail_18 ⟨(Nat.le_of_ble_eq_true rfl), (Nat.le_of_ble_eq_true rfl)⟩) hW hA (fun r9 M9 H locs hp_5 hW => ?_)
    obtain ⟨e91, e92⟩ := hp_5
    subst e91
    rw [e92] at hW
    clear e92
    refine W.eq (g2 := F0 m 21 ls [.ref (Γ 9 (opN σ k 19 k))]) rfl ?_
    have hW : cW G N Γ (cs (opN σ k) ρ) (mA M sz) s.heap H locs := ⟨_, hW, hR⟩
    obtain ⟨M9x, hW, hR⟩ := hW
    refine va_castS hx hb hown (hts (.classLink RX4 101 RX1) (by decide +kernel)) (hK.1 2 _ rfl).2 (mW_recv hK hW.1 (hR.o9 (i := opN σ k 19 k) (show opN σ k 19 k < opN σ k 8 0 from f5c)) (by rfl)) dX4_openDeadMail_21 ?_
    have hW : cW G N Γ (cs (opN σ k) ρ) (mA M sz) s.heap _ _ := ⟨_, hW, hR⟩
    refine ck_Vv (r := (RX1, TX1, 10)) (As := []) (nL := 2) ⟨hx, hb, hml, hown, hts⟩ (uOpen l G N Γ (cs (opN σ k) ρ) (opN σ k 19 k) f5c (by have h9 : opN σ k 10 (opN σ k 19 k) ≤ 9 ∨ opN σ k 10 (opN σ k 19 k) = 4294967295 := a1 10 _; show opN σ k 10 (opN σ k 19 k) < 10 ∨ opN σ k 10 (opN σ k 19 k) = _; omega) (by show opN σ k 18 (opN σ k 19 k) ≤ 126; omega)) (cwV 0 hts gX4_openDeadMail_X1_open rfl rfl rfl (by decide +kernel) ⟨(Nat.le_of_ble_eq_true rfl), (Nat.le_of_ble_eq_true rfl)⟩) hK hE hW hA (fun M hM => hM.o9 (i := opN σ k 19 k) (show opN σ k 19 k < opN σ k 8 0 from f5c)) (by rfl) rfl hl.1 rfl (Nat.le_of_ble_eq_true rfl) dX4_openDeadMail_24 ⟨(Nat.le_of_ble_eq_true rfl), (Nat.le_of_ble_eq_true rfl)⟩ (fun H locs hW => ?_)
    obtain ⟨σ_6, eσ_6⟩ : ∃ z : Sg, z = opC (cs (opN σ k) ρ) (opN σ k 19 k) := ⟨_, rfl⟩
    rw [← eσ_6] at hW
    refine W.eq (g2 := F0 m 27 ls []) rfl ?_
    refine lv_iinc (v := nI (k + 1)) (lv' := [(1, .int (nI (k + 1))), (0, .ref (Γ 0 0))]) hx hb dX4_openDeadMail_27 hl (k := 0) rfl (by rw [show (Int32.ofInt 1) = nI 1 by decide, nI_add]) (by decide) rfl (fun ls hl => ?_)
    refine lv_goto (tgt := 2) hx hb dX4_openDeadMail_30 (by decide) ?_
    exact ih _ _ _ (by omega) ⟨by rw [eσ_6, cs_op (ρ := ρ) (k := k) (by omega)] at hW; exact hW, lv_sub hl [0, 1] rfl⟩

theorem RI.st {σ : Sg} {f i v : Nat} (h : RI σ) (hf : 8 ≤ f) : RI (st σ f i v) := h.of (fun g j hg => st_f (by omega))
theorem fin_st {σ : Sg} {f i v : Nat} (h8 : f ≠ 8) (h12 : f ≠ 12) : fin (st σ f i v) = fin σ := by
  unfold fin
  rw [st_f (Ne.symm h8)]
  exact cnt_congr _ (fun j _ => by rw [st_f (Ne.symm h12)])
/-- what a day's step stands on -/
theorem day_at {σ ρ : Sg} (hI : IV σ) (hd : σ 24 0 < 1000) (hC : Cr σ ρ) (n : Nat) (hn : n ≤ σ 8 0) : IM (daN (st σ 24 0 (σ 24 0 + 1)) n) n ∧ (∀ g j, (g < 12 ∨ 22 < g) → daN (st σ 24 0 (σ 24 0 + 1)) n g j = st σ 24 0 (σ 24 0 + 1) g j) ∧ RI (daN (st σ 24 0 (σ 24 0 + 1)) n) ∧ Cr (daN (st σ 24 0 (σ 24 0 + 1)) n) ρ := by
  obtain ⟨h1, h2⟩ := (IM.of hI hd).go n hn
  have h3 : ∀ g j, g < 8 → daN (st σ 24 0 (σ 24 0 + 1)) n g j = σ g j := fun g j hg => (h2 g j (Or.inl (by omega))).trans (st_f (by omega))
  exact ⟨h1, h2, RI.of hI.2.2.2.2.2 h3, hC.of h3⟩
theorem fin_mono {σ : Sg} (hI : IV σ) (hd : σ 24 0 < 1000) : ∀ n, n ≤ σ 8 0 → fin σ ≤ fin (daN (st σ 24 0 (σ 24 0 + 1)) n)
  | 0, _ => by
    show _ ≤ fin (st σ 24 0 (σ 24 0 + 1))
    rw [fin_st (by decide) (by decide)]
    exact Nat.le_refl _
  | n + 1, hn => by
    have ih := fin_mono hI hd n (by omega)
    obtain ⟨⟨r1, r2, r3, r4, r5, r6, r7⟩, h2⟩ := (IM.of hI hd).go n (by rw [st_f (by decide)]; omega)
    have e8 : daN (st σ 24 0 (σ 24 0 + 1)) n 8 0 = σ 8 0 := (h2 8 0 (Or.inl (by decide))).trans (st_f (by decide))
    have := fin_da r1 (i := n) (by omega) r7 (r5 n (Nat.le_refl _) (by omega)) r2 r3
    show _ ≤ fin (da (daN (st σ 24 0 (σ 24 0 + 1)) n) n)
    omega
theorem fin_up {σ : Sg} (hI : IV σ) (hd : σ 24 0 < 1000) (n : Nat) : ∀ k, n + k ≤ σ 8 0 → fin (daN (st σ 24 0 (σ 24 0 + 1)) n) ≤ fin (daN (st σ 24 0 (σ 24 0 + 1)) (n + k))
  | 0, _ => Nat.le_refl _
  | k + 1, hn => by
    have ih := fin_up hI hd n k (by omega)
    obtain ⟨⟨r1, r2, r3, r4, r5, r6, r7⟩, h2⟩ := (IM.of hI hd).go (n + k) (by rw [st_f (by decide)]; omega)
    have e8 : daN (st σ 24 0 (σ 24 0 + 1)) (n + k) 8 0 = σ 8 0 := (h2 8 0 (Or.inl (by decide))).trans (st_f (by decide))
    have := fin_da r1 (i := n + k) (by omega) r7 (r5 (n + k) (Nat.le_refl _) (by omega)) r2 r3
    show _ ≤ fin (da (daN (st σ 24 0 (σ 24 0 + 1)) (n + k)) (n + k))
    omega

set_option maxHeartbeats 4000000 in
set_option maxRecDepth 100000 in
theorem vDay (l : Launch) (G : mG) (N : Mem) (Γ : Adr) (σ ρ : Sg)  (hI : IV σ) (hd : σ 24 0 < 1000) (hC : Cr σ ρ) (mc : Nat) (hmc : ∀ n, n ≤ σ 8 0 → fin (daN (st σ 24 0 (σ 24 0 + 1)) n) ≤ fin σ + mc) : cUv l yX4_passOneDay wsX4_passOneDay 10 mc (64 * mc) G N Γ (cs σ ρ) [.ref (Γ 0 0)] (cs (dy σ) ρ) := by
  intro M sz hR
  refine m_start cX4_passOneDay 3 none (by decide) rfl (Nat.le_of_ble_eq_true rfl) ?_
  intro p e s m below meth c ls hx hb hr hml hown hlk hnm hts hK hsz hE hW hl
  have hA := mA_A (M := M) hsz
  have hW : cW G N Γ (cs σ ρ) (mA M sz) s.heap s.heap [] := ⟨M, hW, hR⟩
  have hl : lv_has ls 3 [(0, .ref (Γ 0 0))] := hl
  have hinX0 : ∀ w ∈ u_ws RX0 TX0 2, w ∈ wsX4_passOneDay := (fun _ h => List.mem_cons_of_mem _ (List.mem_append_left _ (List.mem_append_left _ (List.mem_append_right _ h))))
  have hinX1 : ∀ w ∈ u_ws RX1 TX1 10, w ∈ wsX4_passOneDay := (fun _ h => List.mem_cons_of_mem _ (List.mem_append_left _ (List.mem_append_left _ (List.mem_append_left _ (List.mem_append_left _ (List.mem_append_right _ h))))))
  have hinX2 : ∀ w ∈ u_ws RX2 TX2 6, w ∈ wsX4_passOneDay := (fun _ h => List.mem_cons_of_mem _ (List.mem_append_right _ h))
  have hinX3 : ∀ w ∈ u_ws RX3 TX3 3, w ∈ wsX4_passOneDay := (fun _ h => List.mem_cons_of_mem _ (List.mem_append_left _ (List.mem_append_right _ h)))
  have hinX4 : ∀ w ∈ u_ws RX4 TX4 6, w ∈ wsX4_passOneDay := (fun _ h => List.mem_cons_of_mem _ (List.mem_append_left _ (List.mem_append_left _ (List.mem_append_left _ (List.mem_append_left _ (List.mem_append_left _ (List.mem_append_right _ h)))))))
  have hinJx4a65c : ∀ w ∈ u_ws RJx4a65c TJx4a65c 3, w ∈ wsX4_passOneDay := (fun _ h => List.mem_cons_of_mem _ (List.mem_append_left _ (List.mem_append_left _ (List.mem_append_left _ (List.mem_append_right _ h)))))
  have hd9 : σ 24 0 < 2147483648 := by omega
  refine lv_aload_n hx hb dX4_passOneDay_0 rfl (lv_at hl 0 rfl) ?_
  refine lv_dup hx hb dX4_passOneDay_1 rfl ?_
  refine cr_get hx hb hts hinX4 hown hK hW (fun M hM => hM.o0) (by rfl) 4 (by decide) (hts (.fieldLink RX4 84 "SeaPost" "day" "I") (by decide +kernel)) (fun _ h => h) rfl dX4_passOneDay_2 ?_
  refine lv_iconst (v := nI 1) hx hb dX4_passOneDay_5 (by decide) ?_
  refine lv_iadd hx hb dX4_passOneDay_6 (lv_tope (nI_add ((cs σ ρ) 24 0) 1) ?_)
  refine cr_put (ty := .int) (ς' := st (cs σ ρ) 24 0 ((cs σ ρ) 24 0 + 1)) hx hb hts hinX4 tyX4 tyX4_ok nmX4 hown hK hW (fun M hM => hM.o0) (by rfl) 4 (by decide) (hts (.fieldLink RX4 84 "SeaPost" "day" "I") (by decide +kernel)) (fun _ h => h) rfl (by decide +kernel) rfl rfl (Nat.le_of_ble_eq_true rfl) rfl (fun M hM => hM.p0_24) dX4_passOneDay_7 (fun H locs hW => ?_)
  obtain ⟨σ_1, eσ_1⟩ : ∃ z : Sg, z = st (cs σ ρ) 24 0 ((cs σ ρ) 24 0 + 1) := ⟨_, rfl⟩
  rw [← eσ_1] at hW
  refine lv_iconst (v := nI 0) hx hb dX4_passOneDay_10 (by decide) ?_
  refine lv_istore_n (lv' := [(1, .int (nI 0)), (0, .ref (Γ 0 0))]) hx hb dX4_passOneDay_11 rfl hl (by decide) rfl (fun ls hl => ?_)
  have hW : cW G N Γ (cs (daN (st σ 24 0 (σ 24 0 + 1)) 0) ρ) (mA M sz) s.heap H locs := by rw [show daN (st σ 24 0 (σ 24 0 + 1)) 0 = st σ 24 0 (σ 24 0 + 1) from rfl, cs_st (by decide)]; rw [eσ_1] at hW; exact hW
  refine m_loopC (σ 8 0) (fun n H locs ls c9 s9 => cW G N Γ (cs (daN (st σ 24 0 (σ 24 0 + 1)) n) ρ) (mA M sz) s.heap H locs ∧ lv_has ls 3 [(1, .int (nI n)), (0, .ref (Γ 0 0))] ∧ c9 + fin σ ≤ fin (daN (st σ 24 0 (σ 24 0 + 1)) n) ∧ s9 = 64 * c9) 0 (Nat.zero_le _) ⟨hW, lv_sub hl [0, 1] rfl, by rw [show fin (daN (st σ 24 0 (σ 24 0 + 1)) 0) = fin σ from fin_st (by decide) (by decide)]; omega, rfl⟩ (fun n H locs ls c9 s9 hn hI9 ih => ?_)
  obtain ⟨hW, hl, hcl, hsl⟩ := hI9
  obtain ⟨hM, hF, hRI, hCr⟩ := day_at hI hd hC n hn
  have hub := hmc n hn
  have hub1 := hmc (n + 1)
  obtain ⟨τ, eτ⟩ : ∃ z : Sg, z = daN (st σ 24 0 (σ 24 0 + 1)) n := ⟨_, rfl⟩
  have edd : daN (st σ 24 0 (σ 24 0 + 1)) (n + 1) = da τ n := by rw [eτ]; rfl
  rw [edd] at hub1
  rw [← eτ] at hW hM hF hRI hCr hcl hub
  obtain ⟨r1, r2, r3, r4, r5, r6, r7⟩ := id hM
  have e8 : τ 8 0 = σ 8 0 := (hF 8 0 (Or.inl (by decide))).trans (st_f (by decide))
  have e24 : τ 24 0 = σ 24 0 + 1 := (hF 24 0 (Or.inr (by decide))).trans st_s
  have b24 : τ 24 0 ≤ 1000 := r1 24 0
  have b8 : τ 8 0 ≤ 40 := r1 8 0
  have b0 : τ 0 0 ≤ 8 := r1 0 0
  refine lv_iload_n hx hb dX4_passOneDay_12 rfl (lv_at hl 0 rfl) ?_
  refine lv_aload_n hx hb dX4_passOneDay_13 rfl (lv_at hl 1 rfl) ?_
  refine cr_get hx hb hts hinX4 hown hK hW (fun M hM => hM.o0) (by rfl) 1 (by decide) (hts (.fieldLink RX4 16 "SeaPost" "mail" "Ljava/util/ArrayList;") (by decide +kernel)) (fun _ h => h) rfl dX4_passOneDay_14 ?_
  obtain ⟨M9x, hW, hR⟩ := hW
  obtain ⟨z_2m, z_2a, z_2f, z_2, -, -⟩ := hR.o2 (x := 1) (Or.inl (by decide))
  refine mk_i (va_runV (As := []) (nL := 3) ⟨hx, hb, hml, hown, hts⟩ (kSize l G N Γ (cs τ ρ) 1 (Or.inl (by decide)) _ _ hR) (cwV 0 hts gX4_passOneDay_Jx4a65c_size_8abf5 rfl rfl rfl (by decide +kernel) ⟨(Nat.le_of_ble_eq_true rfl), (Nat.le_of_ble_eq_true rfl)⟩) (mp_V hK hE hW hA (mW_recv hK hW.1 z_2 (by rfl))) rfl rfl hl.1 rfl (lv_room (Nat.le_of_ble_eq_true rfl)) dX4_passOneDay_17 ⟨(by first | exact Nat.le_of_ble_eq_true rfl | exact Nat.zero_le _ | (show _ ≤ mc; omega) | (show _ ≤ 64 * mc; omega)), (by first | exact Nat.le_of_ble_eq_true rfl | exact Nat.zero_le _ | (show _ ≤ mc; omega) | (show _ ≤ 64 * mc; omega))⟩) hW hA (fun r9 M9 H locs hp_3 hW => ?_)
  obtain ⟨e91, e92⟩ := hp_3
  subst e91
  rw [e92] at hW
  clear e92
  refine W.eq (g2 := F0 m 20 ls [.int (nI (cs τ ρ 30 1)), .int (nI n)]) rfl ?_
  have hW : cW G N Γ (cs τ ρ) (mA M sz) s.heap H locs := ⟨_, hW, hR⟩
  refine lv_tope (congrArg nI (show cs τ ρ 30 1 = σ 8 0 from e8)) ?_
  refine nv_icmp_ge (u := n) (v := σ 8 0) (tgt := 98) hx hb dX4_passOneDay_20 (by decide) (by omega) (by omega) (fun c_4 => ?_) (fun c_4 => ?_)
  · skip
    have hn9 : n = σ 8 0 := by omega
    refine lv_aload_n hx hb dX4_passOneDay_98 rfl (lv_at hl 1 rfl) ?_
    refine cr_get hx hb hts hinX4 hown hK hW (fun M hM => hM.o0) (by rfl) 4 (by decide) (hts (.fieldLink RX4 84 "SeaPost" "day" "I") (by decide +kernel)) (fun _ h => h) rfl dX4_passOneDay_99 ?_
    refine lv_tope (congrArg nI (show (cs τ ρ) 24 0 = τ 24 0 from rfl)) ?_
    refine lv_bipush (v := nI 10) hx hb dX4_passOneDay_102 (by decide) ?_
    refine lv_irem hx hb dX4_passOneDay_104 (nI_ne0 (by omega) (by omega)) (lv_tope (pk_rem (a := τ 24 0) (d := 10) (by omega) (by omega) (by omega)) ?_)
    refine nv_if_ne (tgt := 112) hx hb dX4_passOneDay_105 (by decide) (by omega) (fun c_5 => ?_) (fun c_5 => ?_)
    · skip
      exact cr_vret hx hb hr hlk (by first | exact Nat.le_of_ble_eq_true rfl | exact Nat.zero_le _ | (show _ ≤ mc; omega) | (show _ ≤ 64 * mc; omega)) (by first | exact Nat.le_of_ble_eq_true rfl | exact Nat.zero_le _ | (show _ ≤ mc; omega) | (show _ ≤ 64 * mc; omega)) hW (by unfold dy dyA; rw [← show n = σ 8 0 by omega, ← eτ]; first | rw [if_pos (by omega)] | rw [if_neg (by omega)]) dX4_passOneDay_112
    · skip
      refine lv_aload_n hx hb dX4_passOneDay_108 rfl (lv_at hl 1 rfl) ?_
      refine ck_Vv (r := (RX4, TX4, 6)) (As := []) (nL := 3) ⟨hx, hb, hml, hown, hts⟩ (uOpenAll l G N Γ τ ρ r1 r2 (fun i hi h5 => by obtain ⟨_, _, c, _, _, f⟩ := r4 i (by omega) hi; exact ⟨f.2.2.2.1 h5, c⟩)) (cwV 0 hts gX4_passOneDay_X4_openDeadMail rfl rfl rfl (by decide +kernel) ⟨(Nat.le_of_ble_eq_true rfl), (Nat.le_of_ble_eq_true rfl)⟩) hK hE hW hA (fun M hM => hM.o0) (by rfl) rfl hl.1 rfl (Nat.le_of_ble_eq_true rfl) dX4_passOneDay_109 ⟨(by first | exact Nat.le_of_ble_eq_true rfl | exact Nat.zero_le _ | (show _ ≤ mc; omega) | (show _ ≤ 64 * mc; omega)), (by first | exact Nat.le_of_ble_eq_true rfl | exact Nat.zero_le _ | (show _ ≤ mc; omega) | (show _ ≤ 64 * mc; omega))⟩ (fun H locs hW => ?_)
      obtain ⟨σ_6, eσ_6⟩ : ∃ z : Sg, z = cs (off τ) ρ := ⟨_, rfl⟩
      rw [← eσ_6] at hW
      refine W.eq (g2 := F0 m 112 ls []) rfl ?_
      exact cr_vret hx hb hr hlk (by first | exact Nat.le_of_ble_eq_true rfl | exact Nat.zero_le _ | (show _ ≤ mc; omega) | (show _ ≤ 64 * mc; omega)) (by first | exact Nat.le_of_ble_eq_true rfl | exact Nat.zero_le _ | (show _ ≤ mc; omega) | (show _ ≤ 64 * mc; omega)) hW (by subst eσ_6; unfold dy dyA; rw [← show n = σ 8 0 by omega, ← eτ]; first | rw [if_pos (by omega)] | rw [if_neg (by omega)]) dX4_passOneDay_112
  · skip
    have hLI := r5 n (Nat.le_refl _) (by omega)
    obtain ⟨l1, l2, l3, l4, l5, l6⟩ := id hLI
    have e12 : cs τ ρ 12 n = τ 12 n := if_neg (by omega)
    have hfd := fin_da r1 (i := n) (by omega) r7 hLI r2 r3
    have hub1 := hub1 (by omega)
    refine lv_aload_n hx hb dX4_passOneDay_23 rfl (lv_at hl 1 rfl) ?_
    refine cr_get hx hb hts hinX4 hown hK hW (fun M hM => hM.o0) (by rfl) 1 (by decide) (hts (.fieldLink RX4 16 "SeaPost" "mail" "Ljava/util/ArrayList;") (by decide +kernel)) (fun _ h => h) rfl dX4_passOneDay_24 ?_
    refine lv_iload_n hx hb dX4_passOneDay_27 rfl (lv_at hl 0 rfl) ?_
    obtain ⟨M9x, hW, hR⟩ := hW
    obtain ⟨z_7m, z_7a, z_7f, z_7, -, -⟩ := hR.o2 (x := 1) (Or.inl (by decide))
    refine mk_q (va_runV (As := [.int (nI n)]) (nL := 3) ⟨hx, hb, hml, hown, hts⟩ (kGetM l G N Γ (cs τ ρ) n (show n < τ 8 0 by omega) _ _ hR) (cwV 1 hts gX4_passOneDay_Jx4a65c_get_915e3 rfl rfl rfl (by decide +kernel) ⟨(Nat.le_of_ble_eq_true rfl), (Nat.le_of_ble_eq_true rfl)⟩) (mp_V hK hE hW hA (mW_recv hK hW.1 z_7 (by rfl))) rfl rfl hl.1 rfl (lv_room (Nat.le_of_ble_eq_true rfl)) dX4_passOneDay_28 ⟨(by first | exact Nat.le_of_ble_eq_true rfl | exact Nat.zero_le _ | (show _ ≤ mc; omega) | (show _ ≤ 64 * mc; omega)), (by first | exact Nat.le_of_ble_eq_true rfl | exact Nat.zero_le _ | (show _ ≤ mc; omega) | (show _ ≤ 64 * mc; omega))⟩) hW hA (fun r9 M9 H locs hp_8 hW => ?_)
    obtain ⟨e91, e92⟩ := hp_8
    subst e91
    rw [e92] at hW
    clear e92
    refine W.eq (g2 := F0 m 31 ls [.ref (Γ 9 n)]) rfl ?_
    have hW : cW G N Γ (cs τ ρ) (mA M sz) s.heap H locs := ⟨_, hW, hR⟩
    obtain ⟨M9x, hW, hR⟩ := hW
    refine va_castS hx hb hown (hts (.classLink RX4 101 RX1) (by decide +kernel)) (hK.1 2 _ rfl).2 (mW_recv hK hW.1 (hR.o9 (i := n) (show n < τ 8 0 by omega)) (by rfl)) dX4_passOneDay_31 ?_
    have hW : cW G N Γ (cs τ ρ) (mA M sz) s.heap _ _ := ⟨_, hW, hR⟩
    refine lv_astore_n (lv' := [(2, .ref (Γ 9 n)), (1, .int (nI n)), (0, .ref (Γ 0 0))]) hx hb dX4_passOneDay_34 rfl hl (by decide) rfl (fun ls hl => ?_)
    refine lv_aload_n hx hb dX4_passOneDay_35 rfl (lv_at hl 2 rfl) ?_
    refine lv_aload_n hx hb dX4_passOneDay_36 rfl (lv_at hl 0 rfl) ?_
    obtain ⟨M9x, hW, hR⟩ := hW
    refine mk_i (va_runV (As := [.ref (Γ 9 n)]) (nL := 3) ⟨hx, hb, hml, hown, hts⟩ (kDueC l G N Γ τ ρ n (by omega) r1 (by omega) _ _ hR) (cwV 1 hts gX4_passOneDay_X4_isDue rfl rfl rfl (by decide +kernel) ⟨(Nat.le_of_ble_eq_true rfl), (Nat.le_of_ble_eq_true rfl)⟩) (mp_V hK hE hW hA (mW_recv hK hW.1 (hR.o0) (by rfl))) rfl rfl hl.1 rfl (lv_room (Nat.le_of_ble_eq_true rfl)) dX4_passOneDay_37 ⟨(by first | exact Nat.le_of_ble_eq_true rfl | exact Nat.zero_le _ | (show _ ≤ mc; omega) | (show _ ≤ 64 * mc; omega)), (by first | exact Nat.le_of_ble_eq_true rfl | exact Nat.zero_le _ | (show _ ≤ mc; omega) | (show _ ≤ 64 * mc; omega))⟩) hW hA (fun r9 M9 H locs hp_9 hW => ?_)
    obtain ⟨e91, e92⟩ := hp_9
    subst e91
    rw [e92] at hW
    clear e92
    refine W.eq (g2 := F0 m 40 ls [.int (nI (if cmes τ n ∨ lies τ n then 1 else 0))]) rfl ?_
    have hW : cW G N Γ (cs τ ρ) (mA M sz) s.heap H locs := ⟨_, hW, hR⟩
    refine nb_if_ne (tgt := 46) hx hb dX4_passOneDay_40 (by decide) (fun c_10 => ?_) (fun c_10 => ?_)
    · skip
      have hdue : cmes τ n ∨ lies τ n := by assumption
      obtain ⟨s1, s2, s3, s4, s5⟩ := da_hr r1 (i := n) (by omega) r7 hLI r2 r3 hdue
      have hact := (hLI.act r7 r1).resolve_right (fun z => hdue.elim z.1 z.2)
      obtain ⟨g1, g2, g3, g4, g5, g6⟩ := daA_ok (σ := τ) (i := n) (by omega)
      refine m_joinI (g' := F0 m 65 ls []) (fun H locs => cW G N Γ (cs (daA τ n) ρ) (mA M sz) s.heap H locs) (fun H locs hW => ?_) (fun J => ?_)
      · skip
        obtain ⟨B, eB⟩ : ∃ z : Sg, z = daA τ n := ⟨_, rfl⟩
        rw [← eB] at hW s2 s3 s4 s5 g1 g2 g3 g4
        have hVB : RV B := by rw [eB]; exact r1.xdaA
        have k24 : B 24 0 = τ 24 0 := g2 24 0 (by decide)
        have k11 : B 11 n = τ 11 n := g2 11 n (by decide)
        have k12 : B 12 n = τ 12 n := g2 12 n (by decide)
        have k8 : B 8 0 = τ 8 0 := g2 8 0 (by decide)
        have k20 : B 20 0 = τ 20 0 := g2 20 0 (by decide)
        have k22 : B 22 0 = τ 22 0 := g2 22 0 (by decide)
        have k0 : B 0 0 = τ 0 0 := g2 0 0 (by decide)
        have hl20 : τ 20 0 < τ 8 0 := r2.lt (i := n) (by omega) (by omega)
        have hl22 : τ 22 0 < τ 8 0 := r3.lt (i := n) (by omega) (by omega)
        refine lv_aload_n hx hb dX4_passOneDay_65 rfl (lv_at hl 2 rfl) ?_
        refine cr_get hx hb hts hinX4 hown hK hW (fun M hM => hM.o0) (by rfl) 4 (by decide) (hts (.fieldLink RX4 84 "SeaPost" "day" "I") (by decide +kernel)) (fun _ h => h) rfl dX4_passOneDay_66 ?_
        refine lv_tope (congrArg nI (show (cs B ρ) 24 0 = τ 24 0 from k24)) ?_
        refine lv_aload_n hx hb dX4_passOneDay_69 rfl (lv_at hl 0 rfl) ?_
        refine cr_get hx hb hts hinX1 hown hK hW (fun M hM => hM.o9 (i := n) (show n < B 8 0 by omega)) (by rfl) 3 (by decide) (hts (.fieldLink RX4 221 "SeaPost$Letter" "postedOn" "I") (by decide +kernel)) (fun _ h => h) rfl dX4_passOneDay_70 ?_
        refine lv_tope (congrArg nI (show (cs B ρ) 11 n = τ 11 n from k11)) ?_
        refine lv_isub hx hb dX4_passOneDay_73 (lv_tope (pk_sub (a := τ 24 0) (b := τ 11 n) (by omega)) ?_)
        refine lv_bipush (v := nI 60) hx hb dX4_passOneDay_74 (by decide) ?_
        refine nv_icmp_lt (u := τ 24 0 - (τ 11 n)) (v := 60) (tgt := 87) hx hb dX4_passOneDay_76 (by decide) (by omega) (by omega) (fun c_11 => ?_) (fun c_11 => ?_)
        · skip
          refine lv_aload_n hx hb dX4_passOneDay_87 rfl (lv_at hl 2 rfl) ?_
          refine lv_aload_n hx hb dX4_passOneDay_88 rfl (lv_at hl 0 rfl) ?_
          have hyb : ¬ 60 ≤ τ 24 0 - τ 11 n := by omega
          have e1 : da τ n = ha B n := by unfold da; rw [if_neg (fun z => hyb z.2), if_pos hdue, ← eB]
          have hPH : PH B ρ n := ⟨hVB, RI.of hRI (fun g j hg => g2 g j (by omega)), hCr.of (fun g j hg => g2 g j (by omega)), s5 hyb, by omega, by omega, s2, s3⟩
          obtain ⟨mcn, emc⟩ : ∃ z : Nat, z = (if (cmes τ n ∨ lies τ n) ∧ (da τ n 12 n = 1 ∨ da τ n 12 n = 5) then 1 else 0) := ⟨_, rfl⟩
          have hmcn : ha B n 12 n = 1 ∨ ha B n 12 n = 5 → 1 ≤ mcn := fun z => by rw [emc, e1, if_pos ⟨hdue, z⟩]; decide
          rw [← emc] at hfd
          refine ck_Vv (r := (RX4, TX4, 6)) (As := [.ref (Γ 9 n)]) (nL := 3) ⟨hx, hb, hml, hown, hts⟩ (vHandle l G N Γ B ρ n hPH mcn hmcn) (cwV 1 hts gX4_passOneDay_X4_handle rfl rfl rfl (by decide +kernel) ⟨(Nat.le_of_ble_eq_true rfl), (Nat.le_of_ble_eq_true rfl)⟩) hK hE hW hA (fun M hM => hM.o0) (by rfl) rfl hl.1 rfl (Nat.le_of_ble_eq_true rfl) dX4_passOneDay_89 ⟨(by first | exact Nat.le_of_ble_eq_true rfl | exact Nat.zero_le _ | (show _ ≤ mc; omega) | (show _ ≤ 64 * mc; omega)), (by first | exact Nat.le_of_ble_eq_true rfl | exact Nat.zero_le _ | (show _ ≤ mc; omega) | (show _ ≤ 64 * mc; omega))⟩ (fun H locs hW => ?_)
          obtain ⟨σ_12, eσ_12⟩ : ∃ z : Sg, z = cs (ha B n) ρ := ⟨_, rfl⟩
          rw [← eσ_12] at hW
          refine W.eq (g2 := F0 m 92 ls []) rfl ?_
          have hW : cW G N Γ (cs (da τ n) ρ) (mA M sz) s.heap H locs := by rw [e1, ← eσ_12]; exact hW
          refine lv_iinc (v := nI (n + 1)) (lv' := [(1, .int (nI (n + 1))), (2, .ref (Γ 9 n)), (0, .ref (Γ 0 0))]) hx hb dX4_passOneDay_92 hl (k := 1) rfl (by rw [show (Int32.ofInt 1) = nI 1 by decide, nI_add]) (by decide) rfl (fun ls hl => ?_)
          refine lv_goto (tgt := 12) hx hb dX4_passOneDay_95 (by decide) ?_
          exact ih _ _ _ _ _ (by omega) ⟨by rw [show daN (st σ 24 0 (σ 24 0 + 1)) (n + 1) = da τ n by rw [eτ]; rfl]; exact hW, lv_sub hl [0, 2] rfl, by rw [show daN (st σ 24 0 (σ 24 0 + 1)) (n + 1) = da τ n by rw [eτ]; rfl, hfd]; omega, by omega⟩
        · skip
          refine lv_aload_n hx hb dX4_passOneDay_79 rfl (lv_at hl 2 rfl) ?_
          refine lv_aload_n hx hb dX4_passOneDay_80 rfl (lv_at hl 0 rfl) ?_
          have hyb : 60 ≤ τ 24 0 - τ 11 n := by omega
          have e1 : da τ n = di B n := by unfold da; rw [if_pos ⟨hdue, hyb⟩, ← eB]
          have e1a : da τ n 12 n = 5 := by rw [e1]; exact (di_ok (σ := B) (i := n) (by omega)).2.2.1
          rw [if_pos (show (cmes τ n ∨ lies τ n) ∧ (da τ n 12 n = 1 ∨ da τ n 12 n = 5) from ⟨hdue, Or.inr e1a⟩)] at hfd
          refine ck_Vv (r := (RX4, TX4, 6)) (As := [.ref (Γ 9 n)]) (nL := 3) ⟨hx, hb, hml, hown, hts⟩ (uBury l G N Γ (cs B ρ) n (show n < B 8 0 by omega) (show B 0 0 ≤ 8 by omega) (show B 18 n ≤ 127 by omega) (show B 20 0 ≤ 40 by omega) (fun j hj => by have hj : j < B 20 0 := hj; rw [cs_31d (by omega)]; exact (s2.mem hj).1)) (cwV 1 hts gX4_passOneDay_X4_bury rfl rfl rfl (by decide +kernel) ⟨(Nat.le_of_ble_eq_true rfl), (Nat.le_of_ble_eq_true rfl)⟩) hK hE hW hA (fun M hM => hM.o0) (by rfl) rfl hl.1 rfl (Nat.le_of_ble_eq_true rfl) dX4_passOneDay_81 ⟨(by first | exact Nat.le_of_ble_eq_true rfl | exact Nat.zero_le _ | (show _ ≤ mc; omega) | (show _ ≤ 64 * mc; omega)), (by first | exact Nat.le_of_ble_eq_true rfl | exact Nat.zero_le _ | (show _ ≤ mc; omega) | (show _ ≤ 64 * mc; omega))⟩ (fun H locs hW => ?_)
          obtain ⟨σ_13, eσ_13⟩ : ∃ z : Sg, z = buC (cs B ρ) n := ⟨_, rfl⟩
          rw [← eσ_13] at hW
          refine W.eq (g2 := F0 m 84 ls []) rfl ?_
          have hW : cW G N Γ (cs (da τ n) ρ) (mA M sz) s.heap H locs := by rw [e1, ← cs_bu (by omega) (by omega), ← eσ_13]; exact hW
          refine lv_goto (tgt := 92) hx hb dX4_passOneDay_84 (by decide) ?_
          refine lv_iinc (v := nI (n + 1)) (lv' := [(1, .int (nI (n + 1))), (2, .ref (Γ 9 n)), (0, .ref (Γ 0 0))]) hx hb dX4_passOneDay_92 hl (k := 1) rfl (by rw [show (Int32.ofInt 1) = nI 1 by decide, nI_add]) (by decide) rfl (fun ls hl => ?_)
          refine lv_goto (tgt := 12) hx hb dX4_passOneDay_95 (by decide) ?_
          exact ih _ _ _ _ _ (by omega) ⟨by rw [show daN (st σ 24 0 (σ 24 0 + 1)) (n + 1) = da τ n by rw [eτ]; rfl]; exact hW, lv_sub hl [0, 2] rfl, by rw [show daN (st σ 24 0 (σ 24 0 + 1)) (n + 1) = da τ n by rw [eτ]; rfl, hfd]; omega, by omega⟩
      · skip
        refine lv_aload_n hx hb dX4_passOneDay_46 rfl (lv_at hl 0 rfl) ?_
        refine cr_get hx hb hts hinX1 hown hK hW (fun M hM => hM.o9 (i := n) (show n < τ 8 0 by omega)) (by rfl) 5 (by decide) (hts (.fieldLink RX4 145 "SeaPost$Letter" "condition" "I") (by decide +kernel)) (fun _ h => h) rfl dX4_passOneDay_47 ?_
        refine lv_tope (congrArg nI (show (cs τ ρ) 12 n = τ 12 n from e12)) ?_
        refine lv_iconst (v := nI 3) hx hb dX4_passOneDay_50 (by decide) ?_
        refine nv_icmp_ne (u := τ 12 n) (v := 3) (tgt := 65) hx hb dX4_passOneDay_51 (by decide) (by omega) (by omega) (fun c_14 => ?_) (fun c_14 => ?_)
        · skip
          exact J _ _ (by rw [g6 (fun z => by have := z.1; omega)]; exact hW)
        · skip
          have hcm : cmes τ n := by
            rcases hdue with z | z
            · exact z
            · exfalso; rcases z with z | z | z <;> omega
          refine lv_aload_n hx hb dX4_passOneDay_54 rfl (lv_at hl 0 rfl) ?_
          refine cr_get hx hb hts hinX1 hown hK hW (fun M hM => hM.o9 (i := n) (show n < τ 8 0 by omega)) (by rfl) 4 (by decide) (hts (.fieldLink RX4 106 "SeaPost$Letter" "cover" "LSeaPost$Cover;") (by decide +kernel)) (fun _ h => h) rfl dX4_passOneDay_55 ?_
          refine lv_aload_n hx hb dX4_passOneDay_58 rfl (lv_at hl 2 rfl) ?_
          refine cr_get hx hb hts hinX4 hown hK hW (fun M hM => hM.o0) (by rfl) 4 (by decide) (hts (.fieldLink RX4 84 "SeaPost" "day" "I") (by decide +kernel)) (fun _ h => h) rfl dX4_passOneDay_59 ?_
          refine lv_tope (congrArg nI (show (cs τ ρ) 24 0 = τ 24 0 from rfl)) ?_
          refine ck_Vv (r := (RX0, TX0, 2)) (As := [.int (nI (τ 24 0))]) (nL := 3) ⟨hx, hb, hml, hown, hts⟩ (uDay l G N Γ (cs τ ρ) n (show n < τ 8 0 by omega) (show τ 18 n ≤ 124 by omega) (show τ 24 0 ≤ 1000 by omega)) (cwV 1 hts gX4_passOneDay_X0_writeDay rfl rfl rfl (by decide +kernel) ⟨(Nat.le_of_ble_eq_true rfl), (Nat.le_of_ble_eq_true rfl)⟩) hK hE hW hA (fun M hM => hM.o10 (i := n) (show n < τ 8 0 by omega)) (by rfl) rfl hl.1 rfl (Nat.le_of_ble_eq_true rfl) dX4_passOneDay_62 ⟨(by first | exact Nat.le_of_ble_eq_true rfl | exact Nat.zero_le _ | (show _ ≤ mc; omega) | (show _ ≤ 64 * mc; omega)), (by first | exact Nat.le_of_ble_eq_true rfl | exact Nat.zero_le _ | (show _ ≤ mc; omega) | (show _ ≤ 64 * mc; omega))⟩ (fun H locs hW => ?_)
          obtain ⟨σ_15, eσ_15⟩ : ∃ z : Sg, z = wDay (cs τ ρ) n := ⟨_, rfl⟩
          rw [← eσ_15] at hW
          refine W.eq (g2 := F0 m 65 ls []) rfl ?_
          exact J _ _ (by rw [show daA τ n = wDay τ n from if_pos hcm, cs_wDay, ← eσ_15]; exact hW)
    · skip
      have hno : ¬ (cmes τ n ∨ lies τ n) := by assumption
      have eno : da τ n = τ := by
        unfold da
        rw [if_neg (fun z => hno z.1), if_neg hno]
        exact (daA_ok (σ := τ) (i := n) (by have := l6.2.2.2.2; omega)).2.2.2.2.2 (fun z => hno (Or.inl z))
      refine lv_goto (tgt := 92) hx hb dX4_passOneDay_43 (by decide) ?_
      refine lv_iinc (v := nI (n + 1)) (lv' := [(1, .int (nI (n + 1))), (2, .ref (Γ 9 n)), (0, .ref (Γ 0 0))]) hx hb dX4_passOneDay_92 hl (k := 1) rfl (by rw [show (Int32.ofInt 1) = nI 1 by decide, nI_add]) (by decide) rfl (fun ls hl => ?_)
      refine lv_goto (tgt := 12) hx hb dX4_passOneDay_95 (by decide) ?_
      exact ih _ _ _ _ _ (by omega) ⟨by rw [show daN (st σ 24 0 (σ 24 0 + 1)) (n + 1) = τ by rw [← eno, eτ]; rfl]; exact hW, lv_sub hl [0, 2] rfl, by rw [show daN (st σ 24 0 (σ 24 0 + 1)) (n + 1) = τ by rw [← eno, eτ]; rfl]; exact hcl, by omega⟩
