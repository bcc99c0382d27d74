/-! THE REFERENCE'S METHODS, FIRST PART (rows laid by my program gen/ref1.py) -/
theorem mc_char {a : Nat} (h : a < 65536) : ((nI a).toUInt32 % 65536).toInt32 = nI a := by
  rw [pk_char, pk_tn (by omega), Nat.mod_eq_of_lt h]
theorem mc_nb {P : Prop} [Decidable P] : narrow .boolean (.int (nI (if P then 1 else 0))) = .int (nI (if P then 1 else 0)) := by
  split <;> rfl
theorem mc_nc {a : Nat} (h : a < 65536) : narrow .char (.int (nI a)) = .int (nI a) := (pk_charN h).1
theorem nU_gtp {a n : Nat} (ha : a < 2147483648) (hn : n < 2147483648) : nI n - nI 1 < nI a ↔ n ≤ a := by
  rw [Int32.lt_iff_toInt_lt, nU_toInt (show a < 4294967296 by omega), if_pos ha]
  cases n with
  | zero =>
    rw [show nI 0 - nI 1 = nI 4294967295 by decide, nU_toInt (by decide)]
    rw [if_neg (by decide)]
    constructor
    · intro _; exact Nat.zero_le _
    · intro _; omega
  | succ k =>
    rw [pk_sub (by omega), Nat.add_sub_cancel, nU_toInt (by omega), if_pos (by omega)]
    omega

set_option maxHeartbeats 4000000 in
set_option maxRecDepth 100000 in
/-- in(v, low, high), high the one below n -/
theorem c5_in (l : Launch) (a : Nat) (b : Nat) (n : Nat) (ha : a < 4294967296) (hb9 : b < 2147483648) (hn : n < 2147483648) : cSi l yX5_in wsX5_in 0 [.int (nI a), .int (nI b), .int (nI n - nI 1)] (if b ≤ a ∧ a < n then 1 else 0) := by
  intro G M sz
  refine m_start cX5_in 3 (some .boolean) (by decide) rfl (Nat.le_of_ble_eq_true rfl) ?_
  intro p e s m below meth c ls hx hb hr hml hown hlk hnm hts hK hsz hE hW hl
  have hA := mA_A (M := M) hsz
  have hl : lv_has ls 3 [(0, .int (nI a)), (1, .int (nI b)), (2, .int (nI n - nI 1))] := hl
  refine lv_iload_n hx hb dX5_in_0 rfl (lv_at hl 0 rfl) ?_
  refine lv_iload_n hx hb dX5_in_1 rfl (lv_at hl 1 rfl) ?_
  refine nv_icmp_lt (u := a) (v := b) (tgt := 14) hx hb dX5_in_2 (by decide) (by omega) (by omega) (fun c_1 => ?_) (fun c_1 => ?_)
  · skip
    refine lv_iconst (v := nI 0) hx hb dX5_in_14 (by decide) ?_
    exact mr_zret (v := nI 0) hx hb hr hlk (by first | rfl | exact mc_nb | (exact mc_nc (by omega))) (Nat.le_refl 0) (Nat.le_refl 0) hW ⟨by first | (rw [if_pos ⟨by omega, by omega⟩]) | (rw [if_neg (by omega)]), rfl⟩ dX5_in_15
  · skip
    refine lv_iload_n hx hb dX5_in_5 rfl (lv_at hl 0 rfl) ?_
    refine lv_iload_n hx hb dX5_in_6 rfl (lv_at hl 2 rfl) ?_
    refine lv_icmp_gt (tgt := 14) hx hb dX5_in_7 (by decide) (fun c_2 => ?_) (fun c_2 => ?_)
    · have c_2 := (nU_gtp (by omega) hn).mp c_2
      refine lv_iconst (v := nI 0) hx hb dX5_in_14 (by decide) ?_
      exact mr_zret (v := nI 0) hx hb hr hlk (by first | rfl | exact mc_nb | (exact mc_nc (by omega))) (Nat.le_refl 0) (Nat.le_refl 0) hW ⟨by first | (rw [if_pos ⟨by omega, by omega⟩]) | (rw [if_neg (by omega)]), rfl⟩ dX5_in_15
    · have c_2 : ¬ n ≤ a := fun z => c_2 ((nU_gtp (by omega) hn).mpr z)
      refine lv_iconst (v := nI 1) hx hb dX5_in_10 (by decide) ?_
      refine lv_goto (tgt := 15) hx hb dX5_in_11 (by decide) ?_
      exact mr_zret (v := nI 1) hx hb hr hlk (by first | rfl | exact mc_nb | (exact mc_nc (by omega))) (Nat.le_refl 0) (Nat.le_refl 0) hW ⟨by first | (rw [if_pos ⟨by omega, by omega⟩]) | (rw [if_neg (by omega)]), rfl⟩ dX5_in_15

set_option maxHeartbeats 4000000 in
set_option maxRecDepth 100000 in
/-- isPort(port) -/
theorem c5_isPort (l : Launch) (u : Nat) (hu : u < 4294967296) : cSi l yX5_isPort wsX5_isPort 1 [.int (nI u)] (if u < 10 then 1 else 0) := by
  intro G M sz
  refine m_start cX5_isPort 1 (some .boolean) (by decide) rfl (Nat.le_of_ble_eq_true rfl) ?_
  intro p e s m below meth c ls hx hb hr hml hown hlk hnm hts hK hsz hE hW hl
  have hA := mA_A (M := M) hsz
  have hl : lv_has ls 1 [(0, .int (nI u))] := hl
  refine lv_iload_n hx hb dX5_isPort_0 rfl (lv_at hl 0 rfl) ?_
  refine lv_iconst (v := nI 0) hx hb dX5_isPort_1 (by decide) ?_
  refine lv_bipush (v := nI 9) hx hb dX5_isPort_2 (by decide) ?_
  refine lv_tope (show nI 9 = nI 10 - nI 1 by decide) ?_
  refine mk_S (As := [.int (nI u), .int (nI 0), .int (nI 10 - nI 1)]) (nL := 1) ⟨hx, hb, hml, hown, hts⟩ (c5_in l u 0 10 (by omega) (by omega) (by omega)) (va_cwS 3 hts gX5_isPort_X5_in rfl rfl rfl (by decide +kernel) ⟨(Nat.le_of_ble_eq_true rfl), (Nat.le_of_ble_eq_true rfl)⟩) hK hE hW hA rfl hl.1 rfl (Nat.le_of_ble_eq_true rfl) dX5_isPort_4 (Nat.zero_le _) (Nat.zero_le _) (fun H locs hW => ?_)
  exact mr_zret (v := nI (if 0 ≤ u ∧ u < 10 then 1 else 0)) hx hb hr hlk (by first | rfl | exact mc_nb | (exact mc_nc (by omega))) (Nat.le_refl 0) (Nat.le_refl 0) hW ⟨by congr 1; by_cases h : u < 10 <;> simp [h], rfl⟩ dX5_isPort_7

set_option maxHeartbeats 4000000 in
set_option maxRecDepth 100000 in
/-- isShip(ship) -/
theorem c5_isShip (l : Launch) (G : mG) (ad : Nat → Nat) (σ : Sg) (u : Nat) (hu : u < 4294967296) (h0 : σ 0 0 ≤ 8) : cRi l yX5_isShip wsX5_isShip 1 G ad σ [.int (nI u)] (fun r σ9 => r = nI (if u < σ 0 0 then 1 else 0) ∧ σ9 = σ) := by
  intro M sz hR
  refine m_start cX5_isShip 2 (some .boolean) (by decide) rfl (Nat.le_of_ble_eq_true rfl) ?_
  intro p e s m below meth c ls hx hb hr hml hown hlk hnm hts hK hsz hE hW hl
  have hA := mA_A (M := M) hsz
  have hl : lv_has ls 2 [(0, .ref (ad 0)), (1, .int (nI u))] := hl
  have hW := rW_start hR hW
  have hinX5 : ∀ w ∈ u_ws RX5 TX5 26, w ∈ wsX5_isShip := (fun _ h => List.mem_cons_of_mem _ (List.mem_append_right _ h))
  refine lv_iload_n hx hb dX5_isShip_0 rfl (lv_at hl 1 rfl) ?_
  refine lv_iconst (v := nI 0) hx hb dX5_isShip_1 (by decide) ?_
  refine lv_aload_n hx hb dX5_isShip_2 rfl (lv_at hl 0 rfl) ?_
  refine rr_geti hx hb hts hinX5 hown hK hW 0 (by decide) rfl rfl (hts (.fieldLink RX5 78 "SeaPostModel" "ships" "I") (by decide +kernel)) dX5_isShip_3 ?_
  refine lv_iconst (v := nI 1) hx hb dX5_isShip_6 (by decide) ?_
  refine lv_isub hx hb dX5_isShip_7 ?_
  refine rk_S (As := [.int (nI u), .int (nI 0), .int (nI (σ 0 0) - nI 1)]) (nL := 2) ⟨hx, hb, hml, hown, hts⟩ (c5_in l u 0 (σ 0 0) (by omega) (by omega) (by omega)) (va_cwS 3 hts gX5_isShip_X5_in rfl rfl rfl (by decide +kernel) ⟨(Nat.le_of_ble_eq_true rfl), (Nat.le_of_ble_eq_true rfl)⟩) hK hE hW hA rfl hl.1 rfl (Nat.le_of_ble_eq_true rfl) dX5_isShip_8 (Nat.zero_le _) (Nat.zero_le _) (fun H locs hW => ?_)
  exact rr_zret (v := nI (if 0 ≤ u ∧ u < (σ 0 0) then 1 else 0)) hx hb hr hlk (by first | rfl | exact mc_nb | (exact mc_nc (by omega))) (Nat.le_refl 0) (Nat.le_refl 0) hW ⟨by congr 1; by_cases h : u < σ 0 0 <;> simp [h], rfl⟩ dX5_isShip_11

set_option maxHeartbeats 4000000 in
set_option maxRecDepth 100000 in
/-- apart(port, other) -/
theorem c5_apart (l : Launch) (a : Nat) (b : Nat) (ha : a < 2147483648) (hb9 : b < 2147483648) : cSi l yX5_apart wsX5_apart 0 [.int (nI a), .int (nI b)] (dist a b) := by
  intro G M sz
  refine m_start cX5_apart 2 (some .int) (by decide) rfl (Nat.le_of_ble_eq_true rfl) ?_
  intro p e s m below meth c ls hx hb hr hml hown hlk hnm hts hK hsz hE hW hl
  have hA := mA_A (M := M) hsz
  have hl : lv_has ls 2 [(0, .int (nI a)), (1, .int (nI b))] := hl
  refine lv_iload_n hx hb dX5_apart_0 rfl (lv_at hl 0 rfl) ?_
  refine lv_iload_n hx hb dX5_apart_1 rfl (lv_at hl 1 rfl) ?_
  refine nv_icmp_le (u := a) (v := b) (tgt := 11) hx hb dX5_apart_2 (by decide) (by omega) (by omega) (fun c_1 => ?_) (fun c_1 => ?_)
  · skip
    refine lv_iload_n hx hb dX5_apart_11 rfl (lv_at hl 1 rfl) ?_
    refine lv_iload_n hx hb dX5_apart_12 rfl (lv_at hl 0 rfl) ?_
    refine lv_isub hx hb dX5_apart_13 (lv_tope (pk_sub (a := b) (b := a) (by omega)) ?_)
    exact mr_iret hx hb hr hlk (Nat.le_refl 0) (Nat.le_refl 0) hW ⟨by congr 1; unfold dist; first | (rw [if_pos (by omega)]) | (rw [if_neg (by omega)]), rfl⟩ dX5_apart_14
  · skip
    refine lv_iload_n hx hb dX5_apart_5 rfl (lv_at hl 0 rfl) ?_
    refine lv_iload_n hx hb dX5_apart_6 rfl (lv_at hl 1 rfl) ?_
    refine lv_isub hx hb dX5_apart_7 (lv_tope (pk_sub (a := a) (b := b) (by omega)) ?_)
    refine lv_goto (tgt := 14) hx hb dX5_apart_8 (by decide) ?_
    exact mr_iret hx hb hr hlk (Nat.le_refl 0) (Nat.le_refl 0) hW ⟨by congr 1; unfold dist; first | (rw [if_pos (by omega)]) | (rw [if_neg (by omega)]), rfl⟩ dX5_apart_14

set_option maxHeartbeats 4000000 in
set_option maxRecDepth 100000 in
/-- rowOf(ship, route) -/
theorem c5_rowOf (l : Launch) (a : Nat) (b : Nat)  : cSi l yX5_rowOf wsX5_rowOf 0 [.int (nI a), .int (nI b)] (21 * a + b) := by
  intro G M sz
  refine m_start cX5_rowOf 2 (some .int) (by decide) rfl (Nat.le_of_ble_eq_true rfl) ?_
  intro p e s m below meth c ls hx hb hr hml hown hlk hnm hts hK hsz hE hW hl
  have hA := mA_A (M := M) hsz
  have hl : lv_has ls 2 [(0, .int (nI a)), (1, .int (nI b))] := hl
  refine lv_bipush (v := nI 21) hx hb dX5_rowOf_0 (by decide) ?_
  refine lv_iload_n hx hb dX5_rowOf_2 rfl (lv_at hl 0 rfl) ?_
  refine lv_imul hx hb dX5_rowOf_3 (lv_tope (pk_mul 21 a) ?_)
  refine lv_iload_n hx hb dX5_rowOf_4 rfl (lv_at hl 1 rfl) ?_
  refine lv_iadd hx hb dX5_rowOf_5 (lv_tope (nI_add (21 * a) b) ?_)
  exact mr_iret hx hb hr hlk (Nat.le_refl 0) (Nat.le_refl 0) hW ⟨rfl, rfl⟩ dX5_rowOf_6

set_option maxHeartbeats 4000000 in
set_option maxRecDepth 100000 in
theorem c5_thrown (l : Launch) (G : mG) (ad : Nat → Nat) (σ : Sg)   : cRi l yX5_thrown wsX5_thrown 0 G ad σ [] (fun r σ9 => r = nI (σ 25 0) ∧ σ9 = σ) := by
  intro M sz hR
  refine m_start cX5_thrown 1 (some .int) (by decide) rfl (Nat.le_of_ble_eq_true rfl) ?_
  intro p e s m below meth c ls hx hb hr hml hown hlk hnm hts hK hsz hE hW hl
  have hA := mA_A (M := M) hsz
  have hl : lv_has ls 1 [(0, .ref (ad 0))] := hl
  have hW := rW_start hR hW
  have hinX5 : ∀ w ∈ u_ws RX5 TX5 26, w ∈ wsX5_thrown := (fun _ h => List.mem_cons_of_mem _ (List.mem_append_right _ h))
  refine lv_aload_n hx hb dX5_thrown_0 rfl (lv_at hl 0 rfl) ?_
  refine rr_geti hx hb hts hinX5 hown hK hW 25 (by decide) rfl rfl (hts (.fieldLink RX5 70 "SeaPostModel" "thrown" "I") (by decide +kernel)) dX5_thrown_1 ?_
  exact rr_iret hx hb hr hlk (Nat.le_refl 0) (Nat.le_refl 0) hW ⟨rfl, rfl⟩ dX5_thrown_4

set_option maxHeartbeats 4000000 in
set_option maxRecDepth 100000 in
theorem c5_isPortMark (l : Launch) (c9 : Nat) (hc : c9 < 2147483648) : cSi l yX5_isPortMark wsX5_isPortMark 0 [.int (nI c9)] (if isPM c9 then 1 else 0) := by
  intro G M sz
  refine m_start cX5_isPortMark 1 (some .boolean) (by decide) rfl (Nat.le_of_ble_eq_true rfl) ?_
  intro p e s m below meth c ls hx hb hr hml hown hlk hnm hts hK hsz hE hW hl
  have hA := mA_A (M := M) hsz
  have hl : lv_has ls 1 [(0, .int (nI c9))] := hl
  refine lv_iload_n hx hb dX5_isPortMark_0 rfl (lv_at hl 0 rfl) ?_
  refine lv_bipush (v := nI 65) hx hb dX5_isPortMark_1 (by decide) ?_
  refine nv_icmp_lt (u := c9) (v := 65) (tgt := 16) hx hb dX5_isPortMark_3 (by decide) (by omega) (by omega) (fun c_1 => ?_) (fun c_1 => ?_)
  · skip
    refine lv_iconst (v := nI 0) hx hb dX5_isPortMark_16 (by decide) ?_
    exact mr_zret (v := nI 0) hx hb hr hlk (by first | rfl | exact mc_nb | (exact mc_nc (by omega))) (Nat.le_refl 0) (Nat.le_refl 0) hW ⟨by congr 1; first | (rw [if_pos ⟨by omega, by omega⟩]) | (rw [if_neg (fun z => by obtain ⟨z1, z2⟩ := z; omega)]), rfl⟩ dX5_isPortMark_17
  · skip
    refine lv_iload_n hx hb dX5_isPortMark_6 rfl (lv_at hl 0 rfl) ?_
    refine lv_bipush (v := nI 74) hx hb dX5_isPortMark_7 (by decide) ?_
    refine nv_icmp_gt (u := c9) (v := 74) (tgt := 16) hx hb dX5_isPortMark_9 (by decide) (by omega) (by omega) (fun c_2 => ?_) (fun c_2 => ?_)
    · skip
      refine lv_iconst (v := nI 0) hx hb dX5_isPortMark_16 (by decide) ?_
      exact mr_zret (v := nI 0) hx hb hr hlk (by first | rfl | exact mc_nb | (exact mc_nc (by omega))) (Nat.le_refl 0) (Nat.le_refl 0) hW ⟨by congr 1; first | (rw [if_pos ⟨by omega, by omega⟩]) | (rw [if_neg (fun z => by obtain ⟨z1, z2⟩ := z; omega)]), rfl⟩ dX5_isPortMark_17
    · skip
      refine lv_iconst (v := nI 1) hx hb dX5_isPortMark_12 (by decide) ?_
      refine lv_goto (tgt := 17) hx hb dX5_isPortMark_13 (by decide) ?_
      exact mr_zret (v := nI 1) hx hb hr hlk (by first | rfl | exact mc_nb | (exact mc_nc (by omega))) (Nat.le_refl 0) (Nat.le_refl 0) hW ⟨by congr 1; first | (rw [if_pos ⟨by omega, by omega⟩]) | (rw [if_neg (fun z => by obtain ⟨z1, z2⟩ := z; omega)]), rfl⟩ dX5_isPortMark_17
