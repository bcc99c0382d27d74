/-! THE CLASS: what arguments need (mine; the rows are laid by wip/whole/gen) -/

set_option maxHeartbeats 4000000 in
set_option maxRecDepth 100000 in
theorem xPort (l : Launch) (hst : l.stackTraces = false) (G : mG) (M : Mem) (sz : Nat) (q : Nat) (hq : q < 4294967296) : cXv l yX4_needPort wsX4_needPort 6 1 6 G M sz [.int (nI q)] (fun M' => q < 10 ∧ M' = M) (fun E => ¬ q < 10 ∧ E = "java/lang/IndexOutOfBoundsException") := by
  refine m_startX cX4_needPort 1 none (by decide) rfl (Nat.le_of_ble_eq_true rfl) ?_
  intro p e s m below meth c ls hx hb hr hml hown hlk hnm hts hK hsz hE hW hl htab
  have hA := mA_A (M := M) hsz
  have hl : lv_has ls 1 [(0, .int (nI q))] := hl
  refine lv_iload_n hx hb dX4_needPort_0 rfl (lv_at hl 0 rfl) ?_
  refine nv_if_lt (tgt := 10) hx hb dX4_needPort_1 (by decide) (by omega) (fun c_1 => ?_) (fun c_1 => ?_)
  · skip
    exact mx_throw (cls := "java/lang/IndexOutOfBoundsException") (text := "there is no such port") (ik := 175) (is := 206) (ic := 179) hx hb hst (hml.trans hl.1.symm) hown hts hlk htab hE (by decide +kernel) (by decide +kernel) (by decide +kernel) (by decide +kernel) (fun _ h => List.mem_cons_of_mem _ (List.mem_append_right _ h)) tb_1 tg_1 (by decide +kernel) hW ⟨by omega, rfl⟩ dX4_needPort_10 dX4_needPort_13 dX4_needPort_14 dX4_needPort_16 dX4_needPort_19 (Nat.le_of_ble_eq_true rfl) (Nat.le_of_ble_eq_true rfl) (Nat.le_of_ble_eq_true rfl) (Nat.le_of_ble_eq_true rfl) (Nat.le_of_ble_eq_true rfl) (Nat.le_of_ble_eq_true rfl)
  · skip
    refine lv_iload_n hx hb dX4_needPort_4 rfl (lv_at hl 0 rfl) ?_
    refine lv_bipush (v := nI 10) hx hb dX4_needPort_5 (by decide) ?_
    refine nv_icmp_lt (u := q) (v := 10) (tgt := 20) hx hb dX4_needPort_7 (by decide) (by omega) (by omega) (fun c_2 => ?_) (fun c_2 => ?_)
    · skip
      exact vx_ret (mr_vret hx hb hr hlk (Nat.le_of_ble_eq_true rfl) (Nat.le_of_ble_eq_true rfl) hW ⟨by omega, rfl⟩ dX4_needPort_20)
    · skip
      exact mx_throw (cls := "java/lang/IndexOutOfBoundsException") (text := "there is no such port") (ik := 175) (is := 206) (ic := 179) hx hb hst (hml.trans hl.1.symm) hown hts hlk htab hE (by decide +kernel) (by decide +kernel) (by decide +kernel) (by decide +kernel) (fun _ h => List.mem_cons_of_mem _ (List.mem_append_right _ h)) tb_1 tg_1 (by decide +kernel) hW ⟨by omega, rfl⟩ dX4_needPort_10 dX4_needPort_13 dX4_needPort_14 dX4_needPort_16 dX4_needPort_19 (Nat.le_of_ble_eq_true rfl) (Nat.le_of_ble_eq_true rfl) (Nat.le_of_ble_eq_true rfl) (Nat.le_of_ble_eq_true rfl) (Nat.le_of_ble_eq_true rfl) (Nat.le_of_ble_eq_true rfl)

set_option maxHeartbeats 4000000 in
set_option maxRecDepth 100000 in
theorem xShip (l : Launch) (hst : l.stackTraces = false) (G : mG) (N : Mem) (Γ : Adr) (ς : Sg) (u : Nat) (hu : u < 4294967296) (hn : ς 30 0 < 2147483648) (M : Mem) (sz : Nat) (hR : Rp G N Γ ς M) : cXv l yX4_needShip wsX4_needShip 6 1 6 G M sz [.ref (Γ 0 0), .int (nI u)] (fun M' => u < ς 30 0 ∧ M' = M) (fun E => ¬ u < ς 30 0 ∧ E = "java/lang/IndexOutOfBoundsException") := by
  refine m_startX cX4_needShip 2 none (by decide) rfl (Nat.le_of_ble_eq_true rfl) ?_
  intro p e s m below meth c ls hx hb hr hml hown hlk hnm hts hK hsz hE hW hl htab
  have hA := mA_A (M := M) hsz
  have hl : lv_has ls 2 [(0, .ref (Γ 0 0)), (1, .int (nI u))] := hl
  have hinX4 : ∀ w ∈ u_ws RX4 TX4 6, w ∈ wsX4_needShip := (fun _ h => List.mem_cons_of_mem _ (List.mem_append_left _ (List.mem_append_left _ (List.mem_append_right _ h))))
  have hinJx4a65c : ∀ w ∈ u_ws RJx4a65c TJx4a65c 3, w ∈ wsX4_needShip := (fun _ h => List.mem_cons_of_mem _ (List.mem_append_left _ (List.mem_append_right _ h)))
  refine lv_iload_n hx hb dX4_needShip_0 rfl (lv_at hl 1 rfl) ?_
  refine nv_if_lt (tgt := 15) hx hb dX4_needShip_1 (by decide) (by omega) (fun c_1 => ?_) (fun c_1 => ?_)
  · skip
    exact mx_throw (cls := "java/lang/IndexOutOfBoundsException") (text := "there is no such ship") (ik := 175) (is := 208) (ic := 179) hx hb hst (hml.trans hl.1.symm) hown hts hlk htab hE (by decide +kernel) (by decide +kernel) (by decide +kernel) (by decide +kernel) (fun _ h => List.mem_cons_of_mem _ (List.mem_append_right _ h)) tb_1 tg_1 (by decide +kernel) hW ⟨by omega, rfl⟩ dX4_needShip_15 dX4_needShip_18 dX4_needShip_19 dX4_needShip_21 dX4_needShip_24 (Nat.le_of_ble_eq_true rfl) (Nat.le_of_ble_eq_true rfl) (Nat.le_of_ble_eq_true rfl) (Nat.le_of_ble_eq_true rfl) (Nat.le_of_ble_eq_true rfl) (Nat.le_of_ble_eq_true rfl)
  · skip
    refine lv_iload_n hx hb dX4_needShip_4 rfl (lv_at hl 1 rfl) ?_
    refine lv_aload_n hx hb dX4_needShip_5 rfl (lv_at hl 0 rfl) ?_
    refine mr_get hx hb hts hinX4 hown hK hW hR.o0 (by rfl) 0 (by decide) (hts (.fieldLink RX4 10 "SeaPost" "fleet" "Ljava/util/ArrayList;") (by decide +kernel)) (fun _ h => h) rfl dX4_needShip_6 ?_
    obtain ⟨z_2m, z_2a, z_2f, z_2, -, -⟩ := hR.o2 (x := 0) (Or.inl (by decide))
    refine mk_i (va_runV (As := []) (nL := 2) ⟨hx, hb, hml, hown, hts⟩ (kSize l G N Γ ς 0 (Or.inl (by decide)) _ _ hR) (cwV 0 hts gX4_needShip_Jx4a65c_size_8abf5 rfl rfl rfl (by decide +kernel) ⟨(Nat.le_of_ble_eq_true rfl), (Nat.le_of_ble_eq_true rfl)⟩) (mp_V hK hE hW hA (mW_recv hK hW.1 z_2 (by rfl))) rfl rfl hl.1 rfl (lv_room (Nat.le_of_ble_eq_true rfl)) dX4_needShip_9 ⟨(Nat.le_of_ble_eq_true rfl), (Nat.le_of_ble_eq_true rfl)⟩) hW hA (fun r9 M9 H locs hp_3 hW => ?_)
    obtain ⟨e91, e92⟩ := hp_3
    subst e91
    rw [e92] at hW
    clear e92
    refine W.eq (g2 := F0 m 12 ls [.int (nI (ς 30 0)), .int (nI u)]) rfl ?_
    refine nv_icmp_lt (u := u) (v := ς 30 0) (tgt := 25) hx hb dX4_needShip_12 (by decide) (by omega) (by omega) (fun c_4 => ?_) (fun c_4 => ?_)
    · skip
      exact vx_ret (mr_vret hx hb hr hlk (Nat.le_of_ble_eq_true rfl) (Nat.le_of_ble_eq_true rfl) hW ⟨by omega, rfl⟩ dX4_needShip_25)
    · skip
      exact mx_throw (cls := "java/lang/IndexOutOfBoundsException") (text := "there is no such ship") (ik := 175) (is := 208) (ic := 179) hx hb hst (hml.trans hl.1.symm) hown hts hlk htab hE (by decide +kernel) (by decide +kernel) (by decide +kernel) (by decide +kernel) (fun _ h => List.mem_cons_of_mem _ (List.mem_append_right _ h)) tb_1 tg_1 (by decide +kernel) hW ⟨by omega, rfl⟩ dX4_needShip_15 dX4_needShip_18 dX4_needShip_19 dX4_needShip_21 dX4_needShip_24 (Nat.le_of_ble_eq_true rfl) (Nat.le_of_ble_eq_true rfl) (Nat.le_of_ble_eq_true rfl) (Nat.le_of_ble_eq_true rfl) (Nat.le_of_ble_eq_true rfl) (Nat.le_of_ble_eq_true rfl)

set_option maxHeartbeats 4000000 in
set_option maxRecDepth 100000 in
theorem xLetter (l : Launch) (hst : l.stackTraces = false) (G : mG) (N : Mem) (Γ : Adr) (ς : Sg) (i : Nat) (hu : i < 4294967296) (hn : ς 30 1 < 2147483648) (M : Mem) (sz : Nat) (hR : Rp G N Γ ς M) : cXv l yX4_needLetter wsX4_needLetter 6 1 6 G M sz [.ref (Γ 0 0), .int (nI i)] (fun M' => i < ς 30 1 ∧ M' = M) (fun E => ¬ i < ς 30 1 ∧ E = "java/lang/IndexOutOfBoundsException") := by
  refine m_startX cX4_needLetter 2 none (by decide) rfl (Nat.le_of_ble_eq_true rfl) ?_
  intro p e s m below meth c ls hx hb hr hml hown hlk hnm hts hK hsz hE hW hl htab
  have hA := mA_A (M := M) hsz
  have hl : lv_has ls 2 [(0, .ref (Γ 0 0)), (1, .int (nI i))] := hl
  have hinX4 : ∀ w ∈ u_ws RX4 TX4 6, w ∈ wsX4_needLetter := (fun _ h => List.mem_cons_of_mem _ (List.mem_append_left _ (List.mem_append_left _ (List.mem_append_right _ h))))
  have hinJx4a65c : ∀ w ∈ u_ws RJx4a65c TJx4a65c 3, w ∈ wsX4_needLetter := (fun _ h => List.mem_cons_of_mem _ (List.mem_append_left _ (List.mem_append_right _ h)))
  refine lv_iload_n hx hb dX4_needLetter_0 rfl (lv_at hl 1 rfl) ?_
  refine nv_if_lt (tgt := 15) hx hb dX4_needLetter_1 (by decide) (by omega) (fun c_1 => ?_) (fun c_1 => ?_)
  · skip
    exact mx_throw (cls := "java/lang/IndexOutOfBoundsException") (text := "there is no such letter") (ik := 175) (is := 210) (ic := 179) hx hb hst (hml.trans hl.1.symm) hown hts hlk htab hE (by decide +kernel) (by decide +kernel) (by decide +kernel) (by decide +kernel) (fun _ h => List.mem_cons_of_mem _ (List.mem_append_right _ h)) tb_1 tg_1 (by decide +kernel) hW ⟨by omega, rfl⟩ dX4_needLetter_15 dX4_needLetter_18 dX4_needLetter_19 dX4_needLetter_21 dX4_needLetter_24 (Nat.le_of_ble_eq_true rfl) (Nat.le_of_ble_eq_true rfl) (Nat.le_of_ble_eq_true rfl) (Nat.le_of_ble_eq_true rfl) (Nat.le_of_ble_eq_true rfl) (Nat.le_of_ble_eq_true rfl)
  · skip
    refine lv_iload_n hx hb dX4_needLetter_4 rfl (lv_at hl 1 rfl) ?_
    refine lv_aload_n hx hb dX4_needLetter_5 rfl (lv_at hl 0 rfl) ?_
    refine mr_get hx hb hts hinX4 hown hK hW hR.o0 (by rfl) 1 (by decide) (hts (.fieldLink RX4 16 "SeaPost" "mail" "Ljava/util/ArrayList;") (by decide +kernel)) (fun _ h => h) rfl dX4_needLetter_6 ?_
    obtain ⟨z_2m, z_2a, z_2f, z_2, -, -⟩ := hR.o2 (x := 1) (Or.inl (by decide))
    refine mk_i (va_runV (As := []) (nL := 2) ⟨hx, hb, hml, hown, hts⟩ (kSize l G N Γ ς 1 (Or.inl (by decide)) _ _ hR) (cwV 0 hts gX4_needLetter_Jx4a65c_size_8abf5 rfl rfl rfl (by decide +kernel) ⟨(Nat.le_of_ble_eq_true rfl), (Nat.le_of_ble_eq_true rfl)⟩) (mp_V hK hE hW hA (mW_recv hK hW.1 z_2 (by rfl))) rfl rfl hl.1 rfl (lv_room (Nat.le_of_ble_eq_true rfl)) dX4_needLetter_9 ⟨(Nat.le_of_ble_eq_true rfl), (Nat.le_of_ble_eq_true rfl)⟩) hW hA (fun r9 M9 H locs hp_3 hW => ?_)
    obtain ⟨e91, e92⟩ := hp_3
    subst e91
    rw [e92] at hW
    clear e92
    refine W.eq (g2 := F0 m 12 ls [.int (nI (ς 30 1)), .int (nI i)]) rfl ?_
    refine nv_icmp_lt (u := i) (v := ς 30 1) (tgt := 25) hx hb dX4_needLetter_12 (by decide) (by omega) (by omega) (fun c_4 => ?_) (fun c_4 => ?_)
    · skip
      exact vx_ret (mr_vret hx hb hr hlk (Nat.le_of_ble_eq_true rfl) (Nat.le_of_ble_eq_true rfl) hW ⟨by omega, rfl⟩ dX4_needLetter_25)
    · skip
      exact mx_throw (cls := "java/lang/IndexOutOfBoundsException") (text := "there is no such letter") (ik := 175) (is := 210) (ic := 179) hx hb hst (hml.trans hl.1.symm) hown hts hlk htab hE (by decide +kernel) (by decide +kernel) (by decide +kernel) (by decide +kernel) (fun _ h => List.mem_cons_of_mem _ (List.mem_append_right _ h)) tb_1 tg_1 (by decide +kernel) hW ⟨by omega, rfl⟩ dX4_needLetter_15 dX4_needLetter_18 dX4_needLetter_19 dX4_needLetter_21 dX4_needLetter_24 (Nat.le_of_ble_eq_true rfl) (Nat.le_of_ble_eq_true rfl) (Nat.le_of_ble_eq_true rfl) (Nat.le_of_ble_eq_true rfl) (Nat.le_of_ble_eq_true rfl) (Nat.le_of_ble_eq_true rfl)

set_option maxHeartbeats 4000000 in
set_option maxRecDepth 100000 in
theorem xRange (l : Launch) (hst : l.stackTraces = false) (G : mG) (M : Mem) (sz : Nat) (v a b : Nat) (hv : v < 4294967296) (ha : a < 2147483648) (hb9 : b < 2147483648) : cXv l yX4_needRange wsX4_needRange 6 1 6 G M sz [.int (nI v), .int (nI a), .int (nI b)] (fun M' => (a ≤ v ∧ v ≤ b) ∧ M' = M) (fun E => ¬ (a ≤ v ∧ v ≤ b) ∧ E = "java/lang/IllegalArgumentException") := by
  refine m_startX cX4_needRange 3 none (by decide) rfl (Nat.le_of_ble_eq_true rfl) ?_
  intro p e s m below meth c ls hx hb hr hml hown hlk hnm hts hK hsz hE hW hl htab
  have hA := mA_A (M := M) hsz
  have hl : lv_has ls 3 [(0, .int (nI v)), (1, .int (nI a)), (2, .int (nI b))] := hl
  refine lv_iload_n hx hb dX4_needRange_0 rfl (lv_at hl 0 rfl) ?_
  refine lv_iload_n hx hb dX4_needRange_1 rfl (lv_at hl 1 rfl) ?_
  refine nv_icmp_lt (u := v) (v := a) (tgt := 10) hx hb dX4_needRange_2 (by decide) (by omega) (by omega) (fun c_1 => ?_) (fun c_1 => ?_)
  · skip
    exact mx_throw (cls := "java/lang/IllegalArgumentException") (text := "an argument is out of its range") (ik := 180) (is := 212) (ic := 184) hx hb hst (hml.trans hl.1.symm) hown hts hlk htab hE (by decide +kernel) (by decide +kernel) (by decide +kernel) (by decide +kernel) (fun _ h => List.mem_cons_of_mem _ (List.mem_append_right _ h)) tb_2 tg_2 (by decide +kernel) hW ⟨by omega, rfl⟩ dX4_needRange_10 dX4_needRange_13 dX4_needRange_14 dX4_needRange_16 dX4_needRange_19 (Nat.le_of_ble_eq_true rfl) (Nat.le_of_ble_eq_true rfl) (Nat.le_of_ble_eq_true rfl) (Nat.le_of_ble_eq_true rfl) (Nat.le_of_ble_eq_true rfl) (Nat.le_of_ble_eq_true rfl)
  · skip
    refine lv_iload_n hx hb dX4_needRange_5 rfl (lv_at hl 0 rfl) ?_
    refine lv_iload_n hx hb dX4_needRange_6 rfl (lv_at hl 2 rfl) ?_
    refine nv_icmp_le (u := v) (v := b) (tgt := 20) hx hb dX4_needRange_7 (by decide) (by omega) (by omega) (fun c_2 => ?_) (fun c_2 => ?_)
    · skip
      exact vx_ret (mr_vret hx hb hr hlk (Nat.le_of_ble_eq_true rfl) (Nat.le_of_ble_eq_true rfl) hW ⟨by omega, rfl⟩ dX4_needRange_20)
    · skip
      exact mx_throw (cls := "java/lang/IllegalArgumentException") (text := "an argument is out of its range") (ik := 180) (is := 212) (ic := 184) hx hb hst (hml.trans hl.1.symm) hown hts hlk htab hE (by decide +kernel) (by decide +kernel) (by decide +kernel) (by decide +kernel) (fun _ h => List.mem_cons_of_mem _ (List.mem_append_right _ h)) tb_2 tg_2 (by decide +kernel) hW ⟨by omega, rfl⟩ dX4_needRange_10 dX4_needRange_13 dX4_needRange_14 dX4_needRange_16 dX4_needRange_19 (Nat.le_of_ble_eq_true rfl) (Nat.le_of_ble_eq_true rfl) (Nat.le_of_ble_eq_true rfl) (Nat.le_of_ble_eq_true rfl) (Nat.le_of_ble_eq_true rfl) (Nat.le_of_ble_eq_true rfl)
