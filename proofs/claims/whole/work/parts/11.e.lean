/-! THE CLASS: ships, letters (mine; the rows are laid by wip/whole/gen) -/
/-- where a letter is -/
def plC (ς : Sg) (i : Nat) : Nat := if ς 12 i = 3 then 4294967294 else if ς 12 i = 1 then 4294967293 else if ς 12 i = 5 ∨ ς 12 i = 7 then 4294967292 else ς 13 i
/-- of the first n that a ship received, those that overtook -/
def ovC (ς : Sg) (u i : Nat) : Nat → Nat
  | 0 => 0
  | n + 1 => ovC ς u i n + (if ς 31 (64 * (20 + u) + n) < i ∧ ς 16 i < ς 16 (ς 31 (64 * (20 + u) + n)) then 1 else 0)
theorem ovC_le {ς : Sg} {u i : Nat} : ∀ n, ovC ς u i n ≤ n
  | 0 => Nat.le_refl _
  | n + 1 => by
    have := ovC_le (ς := ς) (u := u) (i := i) n
    unfold ovC
    split <;> omega

theorem m_orif {A B : Prop} [Decidable A] [Decidable B] (h : ¬ A) : (if B then 1 else 0 : Nat) = if A ∨ B then 1 else 0 := by
  by_cases z : B
  · rw [if_pos z, if_pos (Or.inr z)]
  · rw [if_neg z, if_neg (fun w => w.elim h z)]

set_option maxHeartbeats 4000000 in
set_option maxRecDepth 100000 in
theorem kSail0 (l : Launch) (G : mG) (N : Mem) (Γ : Adr) (ς : Sg) (u d : Nat) (hs : u < ς 33 0) (h8 : ς 33 0 ≤ 8) (hn : ς 30 (10 + u) = 0) (M : Mem) (sz : Nat) (hR : Rp G N Γ ς M) : cMi l yX3_portOn wsX3_portOn 3 0 0 G M sz [.ref (Γ 4 u), .int (nI d)] (fun y9 M' => y9 = nI (4294967295) ∧ M' = M) := by
  refine m_start cX3_portOn 3 (some .int) (by decide) rfl (Nat.le_of_ble_eq_true rfl) ?_
  intro p e s m below meth c ls hx hb hr hml hown hlk hnm hts hK hsz hE hW hl
  have hA := mA_A (M := M) hsz
  have hl : lv_has ls 3 [(0, .ref (Γ 4 u)), (1, .int (nI d))] := hl
  have hinX2 : ∀ w ∈ u_ws RX2 TX2 6, w ∈ wsX3_portOn := (fun _ h => List.mem_cons_of_mem _ (List.mem_append_right _ h))
  have hinX3 : ∀ w ∈ u_ws RX3 TX3 3, w ∈ wsX3_portOn := (fun _ h => List.mem_cons_of_mem _ (List.mem_append_left _ (List.mem_append_left _ (List.mem_append_right _ h))))
  have hinJx4a65c : ∀ w ∈ u_ws RJx4a65c TJx4a65c 3, w ∈ wsX3_portOn := (fun _ h => List.mem_cons_of_mem _ (List.mem_append_left _ (List.mem_append_right _ h)))
  refine lv_aload_n hx hb dX3_portOn_0 rfl (lv_at hl 0 rfl) ?_
  refine mr_get hx hb hts hinX3 hown hK hW (hR.o4 (i := u) hs) (by rfl) 0 (by decide) (hts (.fieldLink RX3 12 "SeaPost$Ship" "told" "Ljava/util/ArrayList;") (by decide +kernel)) (fun _ h => h) rfl dX3_portOn_1 ?_
  obtain ⟨z_1m, z_1a, z_1f, z_1, -, -⟩ := hR.o2 (x := 10 + u) (isL_t hs)
  refine mk_i (va_runV (As := []) (nL := 3) ⟨hx, hb, hml, hown, hts⟩ (kSize l G N Γ ς (10 + u) (isL_t hs) _ _ hR) (cwV 0 hts gX3_portOn_Jx4a65c_size_8abf5 rfl rfl rfl (by decide +kernel) ⟨(Nat.le_of_ble_eq_true rfl), (Nat.le_of_ble_eq_true rfl)⟩) (mp_V hK hE hW hA (mW_recv hK hW.1 z_1 (by rfl))) rfl rfl hl.1 rfl (lv_room (Nat.le_of_ble_eq_true rfl)) dX3_portOn_4 ⟨(Nat.le_of_ble_eq_true rfl), (Nat.le_of_ble_eq_true rfl)⟩) hW hA (fun r9 M9 H locs hp_2 hW => ?_)
  obtain ⟨e91, e92⟩ := hp_2
  subst e91
  rw [e92] at hW
  clear e92
  refine W.eq (g2 := F0 m 7 ls [.int (nI (ς 30 (10 + u)))]) rfl ?_
  refine lv_iconst (v := nI 1) hx hb dX3_portOn_7 (by decide) ?_
  refine lv_isub hx hb dX3_portOn_8 (lv_tope (nI_dn (ς 30 (10 + u))) ?_)
  refine lv_istore_n (lv' := [(2, .int (nI (dn (ς 30 (10 + u))))), (0, .ref (Γ 4 u)), (1, .int (nI d))]) hx hb dX3_portOn_9 rfl hl (by decide) rfl (fun ls hl => ?_)
  have e9 : dn (ς 30 (10 + u)) = 4294967295 := by rw [hn]; rfl
  rw [e9] at hl
  refine lv_iload_n hx hb dX3_portOn_10 rfl (lv_at hl 0 rfl) ?_
  refine lv_if_lt (tgt := 32) hx hb dX3_portOn_11 (by decide) (fun _ => ?_) (fun z => absurd (by decide) z)
  refine lv_iconst (v := nI 4294967295) hx hb dX3_portOn_32 (by decide) ?_
  exact mr_iret hx hb hr hlk (Nat.le_of_ble_eq_true rfl) (Nat.le_of_ble_eq_true rfl) hW ⟨rfl, rfl⟩ dX3_portOn_33

set_option maxHeartbeats 4000000 in
set_option maxRecDepth 100000 in
theorem kSail (l : Launch) (G : mG) (N : Mem) (Γ : Adr) (ς : Sg) (u d k v : Nat) (hs : u < ς 33 0) (h8 : ς 33 0 ≤ 8) (hn : ς 30 (10 + u) = k + 1) (hk : k < 20) (h3 : ς 3 (21 * u + k) ≤ 6) (hb4 : ∀ j, j < 6 → ς 4 (6 * (21 * u + k) + j) < 10 ∧ ς 5 (6 * (21 * u + k) + j) < 2147483648 ∧ ς 6 (6 * (21 * u + k) + j) < 2147483648) (hd : d < 2147483648) (hv : FS (fun j => ς 5 (6 * (21 * u + k) + j) ≤ d ∧ d ≤ ς 6 (6 * (21 * u + k) + j)) (fun j => ς 4 (6 * (21 * u + k) + j)) (ς 3 (21 * u + k)) 4294967295 v) (M : Mem) (sz : Nat) (hR : Rp G N Γ ς M) : cMi l yX3_portOn wsX3_portOn 3 0 0 G M sz [.ref (Γ 4 u), .int (nI d)] (fun y9 M' => y9 = nI (v) ∧ M' = M) := by
  refine m_start cX3_portOn 3 (some .int) (by decide) rfl (Nat.le_of_ble_eq_true rfl) ?_
  intro p e s m below meth c ls hx hb hr hml hown hlk hnm hts hK hsz hE hW hl
  have hA := mA_A (M := M) hsz
  have hl : lv_has ls 3 [(0, .ref (Γ 4 u)), (1, .int (nI d))] := hl
  have hinX2 : ∀ w ∈ u_ws RX2 TX2 6, w ∈ wsX3_portOn := (fun _ h => List.mem_cons_of_mem _ (List.mem_append_right _ h))
  have hinX3 : ∀ w ∈ u_ws RX3 TX3 3, w ∈ wsX3_portOn := (fun _ h => List.mem_cons_of_mem _ (List.mem_append_left _ (List.mem_append_left _ (List.mem_append_right _ h))))
  have hinJx4a65c : ∀ w ∈ u_ws RJx4a65c TJx4a65c 3, w ∈ wsX3_portOn := (fun _ h => List.mem_cons_of_mem _ (List.mem_append_left _ (List.mem_append_right _ h)))
  have hr0 : isR ς (21 * u + k) := isR_of hs (by omega) (by omega)
  refine lv_aload_n hx hb dX3_portOn_0 rfl (lv_at hl 0 rfl) ?_
  refine mr_get hx hb hts hinX3 hown hK hW (hR.o4 (i := u) hs) (by rfl) 0 (by decide) (hts (.fieldLink RX3 12 "SeaPost$Ship" "told" "Ljava/util/ArrayList;") (by decide +kernel)) (fun _ h => h) rfl dX3_portOn_1 ?_
  obtain ⟨z_1m, z_1a, z_1f, z_1, -, -⟩ := hR.o2 (x := 10 + u) (isL_t hs)
  refine mk_i (va_runV (As := []) (nL := 3) ⟨hx, hb, hml, hown, hts⟩ (kSize l G N Γ ς (10 + u) (isL_t hs) _ _ hR) (cwV 0 hts gX3_portOn_Jx4a65c_size_8abf5 rfl rfl rfl (by decide +kernel) ⟨(Nat.le_of_ble_eq_true rfl), (Nat.le_of_ble_eq_true rfl)⟩) (mp_V hK hE hW hA (mW_recv hK hW.1 z_1 (by rfl))) rfl rfl hl.1 rfl (lv_room (Nat.le_of_ble_eq_true rfl)) dX3_portOn_4 ⟨(Nat.le_of_ble_eq_true rfl), (Nat.le_of_ble_eq_true rfl)⟩) hW hA (fun r9 M9 H locs hp_2 hW => ?_)
  obtain ⟨e91, e92⟩ := hp_2
  subst e91
  rw [e92] at hW
  clear e92
  refine W.eq (g2 := F0 m 7 ls [.int (nI (ς 30 (10 + u)))]) rfl ?_
  refine lv_iconst (v := nI 1) hx hb dX3_portOn_7 (by decide) ?_
  refine lv_isub hx hb dX3_portOn_8 (lv_tope (nI_dn (ς 30 (10 + u))) ?_)
  refine lv_istore_n (lv' := [(2, .int (nI (dn (ς 30 (10 + u))))), (0, .ref (Γ 4 u)), (1, .int (nI d))]) hx hb dX3_portOn_9 rfl hl (by decide) rfl (fun ls hl => ?_)
  have e9 : dn (ς 30 (10 + u)) = k := by rw [hn]; rfl
  rw [e9] at hl
  refine lv_iload_n hx hb dX3_portOn_10 rfl (lv_at hl 0 rfl) ?_
  refine nv_if_lt (tgt := 32) hx hb dX3_portOn_11 (by decide) (by omega) (fun z => (by omega : False).elim) (fun _ => ?_)
  refine lv_aload_n hx hb dX3_portOn_14 rfl (lv_at hl 1 rfl) ?_
  refine mr_get hx hb hts hinX3 hown hK hW (hR.o4 (i := u) hs) (by rfl) 0 (by decide) (hts (.fieldLink RX3 12 "SeaPost$Ship" "told" "Ljava/util/ArrayList;") (by decide +kernel)) (fun _ h => h) rfl dX3_portOn_15 ?_
  refine lv_iload_n hx hb dX3_portOn_18 rfl (lv_at hl 0 rfl) ?_
  obtain ⟨z_3m, z_3a, z_3f, z_3, -, -⟩ := hR.o2 (x := 10 + u) (isL_t hs)
  refine mk_q (va_runV (As := [.int (nI k)]) (nL := 3) ⟨hx, hb, hml, hown, hts⟩ (kGetT l G N Γ ς u k hs h8 (by omega) _ _ hR) (cwV 1 hts gX3_portOn_Jx4a65c_get_915e3 rfl rfl rfl (by decide +kernel) ⟨(Nat.le_of_ble_eq_true rfl), (Nat.le_of_ble_eq_true rfl)⟩) (mp_V hK hE hW hA (mW_recv hK hW.1 z_3 (by rfl))) rfl rfl hl.1 rfl (lv_room (Nat.le_of_ble_eq_true rfl)) dX3_portOn_19 ⟨(Nat.le_of_ble_eq_true rfl), (Nat.le_of_ble_eq_true rfl)⟩) hW hA (fun r9 M9 H locs hp_4 hW => ?_)
  obtain ⟨e91, e92⟩ := hp_4
  subst e91
  rw [e92] at hW
  clear e92
  refine W.eq (g2 := F0 m 22 ls [.ref (Γ 5 (21 * u + k))]) rfl ?_
  refine va_castS hx hb hown (hts (.classLink RX3 21 RX2) (by decide +kernel)) (hK.1 3 _ rfl).2 (mW_recv hK hW.1 (hR.o5 (i := 21 * u + k) hr0) (by rfl)) dX3_portOn_22 ?_
  refine lv_iload_n hx hb dX3_portOn_25 rfl (lv_at hl 2 rfl) ?_
  refine mk_i (va_runV (As := [.int (nI d)]) (nL := 3) ⟨hx, hb, hml, hown, hts⟩ (kPortOn l G N Γ ς (21 * u + k) d v hr0 h3 hb4 hd hv _ _ hR) (cwV 1 hts gX3_portOn_X2_portOn rfl rfl rfl (by decide +kernel) ⟨(Nat.le_of_ble_eq_true rfl), (Nat.le_of_ble_eq_true rfl)⟩) (mp_V hK hE hW hA (mW_recv hK hW.1 (hR.o5 (i := 21 * u + k) hr0) (by rfl))) rfl rfl hl.1 rfl (lv_room (Nat.le_of_ble_eq_true rfl)) dX3_portOn_26 ⟨(Nat.le_of_ble_eq_true rfl), (Nat.le_of_ble_eq_true rfl)⟩) hW hA (fun r9 M9 H locs hp_5 hW => ?_)
  obtain ⟨e91, e92⟩ := hp_5
  subst e91
  rw [e92] at hW
  clear e92
  refine W.eq (g2 := F0 m 29 ls [.int (nI v)]) rfl ?_
  refine lv_goto (tgt := 33) hx hb dX3_portOn_29 (by decide) ?_
  exact mr_iret hx hb hr hlk (Nat.le_of_ble_eq_true rfl) (Nat.le_of_ble_eq_true rfl) hW ⟨rfl, rfl⟩ dX3_portOn_33

set_option maxHeartbeats 4000000 in
set_option maxRecDepth 100000 in
theorem kDue (l : Launch) (G : mG) (N : Mem) (Γ : Adr) (ς : Sg) (i : Nat) (hi : i < ς 33 1) (h12 : ς 12 i ≤ 8) (h13 : ς 12 i = 3 → ς 13 i < 10) (h14 : ς 14 i < 2147483648) (h24 : ς 24 0 < 2147483648) (h23 : ∀ j, j < 10 → ς 23 j < 2147483648) (M : Mem) (sz : Nat) (hR : Rp G N Γ ς M) : cMi l yX4_isDue wsX4_isDue 1 0 0 G M sz [.ref (Γ 0 0), .ref (Γ 9 i)] (fun y9 M' => y9 = nI (if (ς 12 i = 3 ∧ ς 14 i ≤ ς 24 0 ∧ ¬ ς 24 0 < ς 23 (ς 13 i)) ∨ (ς 12 i = 0 ∨ ς 12 i = 2 ∨ ς 12 i = 4) then 1 else 0) ∧ M' = M) := by
  refine m_start cX4_isDue 2 (some .boolean) (by decide) rfl (Nat.le_of_ble_eq_true rfl) ?_
  intro p e s m below meth c ls hx hb hr hml hown hlk hnm hts hK hsz hE hW hl
  have hA := mA_A (M := M) hsz
  have hl : lv_has ls 2 [(0, .ref (Γ 0 0)), (1, .ref (Γ 9 i))] := hl
  have hinX1 : ∀ w ∈ u_ws RX1 TX1 10, w ∈ wsX4_isDue := (fun _ h => List.mem_cons_of_mem _ (List.mem_append_left _ (List.mem_append_right _ h)))
  have hinX4 : ∀ w ∈ u_ws RX4 TX4 6, w ∈ wsX4_isDue := (fun _ h => List.mem_cons_of_mem _ (List.mem_append_right _ h))
  refine lv_aload_n hx hb dX4_isDue_0 rfl (lv_at hl 1 rfl) ?_
  refine mr_get hx hb hts hinX1 hown hK hW (hR.o9 (i := i) hi) (by rfl) 5 (by decide) (hts (.fieldLink RX4 145 "SeaPost$Letter" "condition" "I") (by decide +kernel)) (fun _ h => h) rfl dX4_isDue_1 ?_
  refine lv_iconst (v := nI 3) hx hb dX4_isDue_4 (by decide) ?_
  refine nv_icmp_ne (u := ς 12 i) (v := 3) (tgt := 36) hx hb dX4_isDue_5 (by decide) (by omega) (by omega) (fun c_1 => ?_) (fun c_1 => ?_)
  · skip
    refine lv_aload_n hx hb dX4_isDue_36 rfl (lv_at hl 1 rfl) ?_
    refine mk_i (va_runV (As := []) (nL := 2) ⟨hx, hb, hml, hown, hts⟩ (kLying l G N Γ ς i hi (by omega) _ _ hR) (cwV 0 hts gX4_isDue_X1_isLying rfl rfl rfl (by decide +kernel) ⟨(Nat.le_of_ble_eq_true rfl), (Nat.le_of_ble_eq_true rfl)⟩) (mp_V hK hE hW hA (mW_recv hK hW.1 (hR.o9 (i := i) hi) (by rfl))) rfl rfl hl.1 rfl (lv_room (Nat.le_of_ble_eq_true rfl)) dX4_isDue_37 ⟨(Nat.le_of_ble_eq_true rfl), (Nat.le_of_ble_eq_true rfl)⟩) hW hA (fun r9 M9 H locs hp_2 hW => ?_)
    obtain ⟨e91, e92⟩ := hp_2
    subst e91
    rw [e92] at hW
    clear e92
    refine W.eq (g2 := F0 m 40 ls [.int (nI (if ς 12 i = 0 ∨ ς 12 i = 2 ∨ ς 12 i = 4 then 1 else 0))]) rfl ?_
    exact mr_zret (v := nI (if ς 12 i = 0 ∨ ς 12 i = 2 ∨ ς 12 i = 4 then 1 else 0)) hx hb hr hlk (by first | rfl | exact mc_nb | (exact mc_nc (by omega))) (Nat.le_of_ble_eq_true rfl) (Nat.le_of_ble_eq_true rfl) hW ⟨congrArg nI (m_orif (by omega)), rfl⟩ dX4_isDue_40
  · skip
    refine lv_aload_n hx hb dX4_isDue_8 rfl (lv_at hl 0 rfl) ?_
    refine mr_get hx hb hts hinX4 hown hK hW hR.o0 (by rfl) 4 (by decide) (hts (.fieldLink RX4 84 "SeaPost" "day" "I") (by decide +kernel)) (fun _ h => h) rfl dX4_isDue_9 ?_
    refine lv_aload_n hx hb dX4_isDue_12 rfl (lv_at hl 1 rfl) ?_
    refine mr_get hx hb hts hinX1 hown hK hW (hR.o9 (i := i) hi) (by rfl) 7 (by decide) (hts (.fieldLink RX4 154 "SeaPost$Letter" "comesOn" "I") (by decide +kernel)) (fun _ h => h) rfl dX4_isDue_13 ?_
    refine nv_icmp_lt (u := ς 24 0) (v := ς 14 i) (tgt := 34) hx hb dX4_isDue_16 (by decide) (by omega) (by omega) (fun c_3 => ?_) (fun c_3 => ?_)
    · skip
      refine lv_iconst (v := nI 0) hx hb dX4_isDue_34 (by decide) ?_
      exact mr_zret (v := nI 0) hx hb hr hlk (by first | rfl | exact mc_nb | (exact mc_nc (by omega))) (Nat.le_of_ble_eq_true rfl) (Nat.le_of_ble_eq_true rfl) hW ⟨by first | rw [if_pos (by omega)] | rw [if_neg (by omega)], rfl⟩ dX4_isDue_35
    · skip
      refine lv_aload_n hx hb dX4_isDue_19 rfl (lv_at hl 0 rfl) ?_
      refine lv_aload_n hx hb dX4_isDue_20 rfl (lv_at hl 1 rfl) ?_
      refine mr_get hx hb hts hinX1 hown hK hW (hR.o9 (i := i) hi) (by rfl) 6 (by decide) (hts (.fieldLink RX4 157 "SeaPost$Letter" "port" "I") (by decide +kernel)) (fun _ h => h) rfl dX4_isDue_21 ?_
      refine mk_i (va_runV (As := [.int (nI (ς 13 i))]) (nL := 2) ⟨hx, hb, hml, hown, hts⟩ (kShut l G N Γ ς (ς 13 i) (by omega) (by omega) (h23 _ (by omega)) _ _ hR) (cwV 1 hts gX4_isDue_X4_isShut rfl rfl rfl (by decide +kernel) ⟨(Nat.le_of_ble_eq_true rfl), (Nat.le_of_ble_eq_true rfl)⟩) (mp_V hK hE hW hA (mW_recv hK hW.1 hR.o0 (by rfl))) rfl rfl hl.1 rfl (lv_room (Nat.le_of_ble_eq_true rfl)) dX4_isDue_24 ⟨(Nat.le_of_ble_eq_true rfl), (Nat.le_of_ble_eq_true rfl)⟩) hW hA (fun r9 M9 H locs hp_4 hW => ?_)
      obtain ⟨e91, e92⟩ := hp_4
      subst e91
      rw [e92] at hW
      clear e92
      refine W.eq (g2 := F0 m 27 ls [.int (nI (if ς 24 0 < ς 23 (ς 13 i) then 1 else 0))]) rfl ?_
      refine nb_if_ne (tgt := 34) hx hb dX4_isDue_27 (by decide) (fun c_5 => ?_) (fun c_5 => ?_)
      · skip
        refine lv_iconst (v := nI 0) hx hb dX4_isDue_34 (by decide) ?_
        exact mr_zret (v := nI 0) hx hb hr hlk (by first | rfl | exact mc_nb | (exact mc_nc (by omega))) (Nat.le_of_ble_eq_true rfl) (Nat.le_of_ble_eq_true rfl) hW ⟨by first | rw [if_pos (by omega)] | rw [if_neg (by omega)], rfl⟩ dX4_isDue_35
      · skip
        refine lv_iconst (v := nI 1) hx hb dX4_isDue_30 (by decide) ?_
        refine lv_goto (tgt := 35) hx hb dX4_isDue_31 (by decide) ?_
        exact mr_zret (v := nI 1) hx hb hr hlk (by first | rfl | exact mc_nb | (exact mc_nc (by omega))) (Nat.le_of_ble_eq_true rfl) (Nat.le_of_ble_eq_true rfl) hW ⟨by first | rw [if_pos (by omega)] | rw [if_neg (by omega)], rfl⟩ dX4_isDue_35

set_option maxHeartbeats 4000000 in
set_option maxRecDepth 100000 in
theorem kPlace (l : Launch) (G : mG) (N : Mem) (Γ : Adr) (ς : Sg) (i : Nat) (hi : i < ς 33 1) (h12 : ς 12 i ≤ 7) (M : Mem) (sz : Nat) (hR : Rp G N Γ ς M) : cMi l yX1_place wsX1_place 0 0 0 G M sz [.ref (Γ 9 i)] (fun y9 M' => y9 = nI (plC ς i) ∧ M' = M) := by
  refine m_start cX1_place 1 (some .int) (by decide) rfl (Nat.le_of_ble_eq_true rfl) ?_
  intro p e s m below meth c ls hx hb hr hml hown hlk hnm hts hK hsz hE hW hl
  have hA := mA_A (M := M) hsz
  have hl : lv_has ls 1 [(0, .ref (Γ 9 i))] := hl
  have hinX1 : ∀ w ∈ u_ws RX1 TX1 10, w ∈ wsX1_place := (fun _ h => List.mem_cons_of_mem _ (List.mem_append_right _ h))
  refine lv_aload_n hx hb dX1_place_0 rfl (lv_at hl 0 rfl) ?_
  refine mr_get hx hb hts hinX1 hown hK hW (hR.o9 (i := i) hi) (by rfl) 5 (by decide) (hts (.fieldLink RX1 18 "SeaPost$Letter" "condition" "I") (by decide +kernel)) (fun _ h => h) rfl dX1_place_1 ?_
  have h78 : ς 12 i = 0 ∨ ς 12 i = 1 ∨ ς 12 i = 2 ∨ ς 12 i = 3 ∨ ς 12 i = 4 ∨ ς 12 i = 5 ∨ ς 12 i = 6 ∨ ς 12 i = 7 := by omega
  rcases h78 with e | e | e | e | e | e | e | e
  · rw [e]
    refine lv_tableOut (tgt := 57) hx hb dX1_place_4 (Or.inl (by decide)) (by decide) ?_
    refine lv_aload_n hx hb dX1_place_57 rfl (lv_at hl 0 rfl) ?_
    refine mr_get hx hb hts hinX1 hown hK hW (hR.o9 (i := i) hi) (by rfl) 6 (by decide) (hts (.fieldLink RX1 29 "SeaPost$Letter" "port" "I") (by decide +kernel)) (fun _ h => h) rfl dX1_place_58 ?_
    exact mr_iret hx hb hr hlk (Nat.le_of_ble_eq_true rfl) (Nat.le_of_ble_eq_true rfl) hW ⟨congrArg nI (by unfold plC; simp [e]), rfl⟩ dX1_place_61
  · rw [e]
    refine lv_tableIn (off := 47) (tgt := 51) hx hb dX1_place_4 (by decide) (by decide) (by decide) (by decide) ?_
    refine lv_bipush (v := nI 4294967293) hx hb dX1_place_51 (by decide) ?_
    exact mr_iret hx hb hr hlk (Nat.le_of_ble_eq_true rfl) (Nat.le_of_ble_eq_true rfl) hW ⟨congrArg nI (by unfold plC; simp [e]), rfl⟩ dX1_place_53
  · rw [e]
    refine lv_tableIn (off := 53) (tgt := 57) hx hb dX1_place_4 (by decide) (by decide) (by decide) (by decide) ?_
    refine lv_aload_n hx hb dX1_place_57 rfl (lv_at hl 0 rfl) ?_
    refine mr_get hx hb hts hinX1 hown hK hW (hR.o9 (i := i) hi) (by rfl) 6 (by decide) (hts (.fieldLink RX1 29 "SeaPost$Letter" "port" "I") (by decide +kernel)) (fun _ h => h) rfl dX1_place_58 ?_
    exact mr_iret hx hb hr hlk (Nat.le_of_ble_eq_true rfl) (Nat.le_of_ble_eq_true rfl) hW ⟨congrArg nI (by unfold plC; simp [e]), rfl⟩ dX1_place_61
  · rw [e]
    refine lv_tableIn (off := 44) (tgt := 48) hx hb dX1_place_4 (by decide) (by decide) (by decide) (by decide) ?_
    refine lv_bipush (v := nI 4294967294) hx hb dX1_place_48 (by decide) ?_
    exact mr_iret hx hb hr hlk (Nat.le_of_ble_eq_true rfl) (Nat.le_of_ble_eq_true rfl) hW ⟨congrArg nI (by unfold plC; simp [e]), rfl⟩ dX1_place_50
  · rw [e]
    refine lv_tableIn (off := 53) (tgt := 57) hx hb dX1_place_4 (by decide) (by decide) (by decide) (by decide) ?_
    refine lv_aload_n hx hb dX1_place_57 rfl (lv_at hl 0 rfl) ?_
    refine mr_get hx hb hts hinX1 hown hK hW (hR.o9 (i := i) hi) (by rfl) 6 (by decide) (hts (.fieldLink RX1 29 "SeaPost$Letter" "port" "I") (by decide +kernel)) (fun _ h => h) rfl dX1_place_58 ?_
    exact mr_iret hx hb hr hlk (Nat.le_of_ble_eq_true rfl) (Nat.le_of_ble_eq_true rfl) hW ⟨congrArg nI (by unfold plC; simp [e]), rfl⟩ dX1_place_61
  · rw [e]
    refine lv_tableIn (off := 50) (tgt := 54) hx hb dX1_place_4 (by decide) (by decide) (by decide) (by decide) ?_
    refine lv_bipush (v := nI 4294967292) hx hb dX1_place_54 (by decide) ?_
    exact mr_iret hx hb hr hlk (Nat.le_of_ble_eq_true rfl) (Nat.le_of_ble_eq_true rfl) hW ⟨congrArg nI (by unfold plC; simp [e]), rfl⟩ dX1_place_56
  · rw [e]
    refine lv_tableIn (off := 53) (tgt := 57) hx hb dX1_place_4 (by decide) (by decide) (by decide) (by decide) ?_
    refine lv_aload_n hx hb dX1_place_57 rfl (lv_at hl 0 rfl) ?_
    refine mr_get hx hb hts hinX1 hown hK hW (hR.o9 (i := i) hi) (by rfl) 6 (by decide) (hts (.fieldLink RX1 29 "SeaPost$Letter" "port" "I") (by decide +kernel)) (fun _ h => h) rfl dX1_place_58 ?_
    exact mr_iret hx hb hr hlk (Nat.le_of_ble_eq_true rfl) (Nat.le_of_ble_eq_true rfl) hW ⟨congrArg nI (by unfold plC; simp [e]), rfl⟩ dX1_place_61
  · rw [e]
    refine lv_tableIn (off := 50) (tgt := 54) hx hb dX1_place_4 (by decide) (by decide) (by decide) (by decide) ?_
    refine lv_bipush (v := nI 4294967292) hx hb dX1_place_54 (by decide) ?_
    exact mr_iret hx hb hr hlk (Nat.le_of_ble_eq_true rfl) (Nat.le_of_ble_eq_true rfl) hW ⟨congrArg nI (by unfold plC; simp [e]), rfl⟩ dX1_place_56
