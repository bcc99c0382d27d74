/-! THE CLASS: what changes nothing (mine; the rows are laid by wip/whole/gen) -/
theorem m_abs : ∀ a, a < 10 → ∀ b, b < 10 → (if 0 ≤ nI a - nI b then nI a - nI b else 0 - (nI a - nI b)) = nI (dist a b) := by decide +kernel
theorem kSize (l : Launch) (G : mG) (N : Mem) (Γ : Adr) (ς : Sg) (x : Nat) (hx : isL ς x) (M : Mem) (sz : Nat) (hR : Rp G N Γ ς M) : cMi l yJx4a65c_size_8abf5 wsJx4a65c_size_8abf5 0 0 0 G M sz [.ref (Γ 2 x)] (fun r M' => r = nI (ς 30 x) ∧ M' = M) := by
  obtain ⟨mc, a, f, h1, -, -⟩ := hR.o2 hx
  exact jSize l G M sz (Γ 2 x) a (ς 30 x) mc h1
theorem kGet (l : Launch) (G : mG) (N : Mem) (Γ : Adr) (ς : Sg) (x j : Nat) (hx : isL ς x) (hj : j < ς 30 x) (M : Mem) (sz : Nat) (hR : Rp G N Γ ς M) : cMq l yJx4a65c_get_915e3 wsJx4a65c_get_915e3 2 0 0 G M sz [.ref (Γ 2 x), .int (nI j)] (fun r M' => r = some (Γ (elk x) (eli ς x j)) ∧ M' = M) := by
  obtain ⟨mc, a, f, h1, h2, h3⟩ := hR.o2 hx
  rcases h2 with ⟨-, h2⟩ | ⟨cap, h4, h5, h6, h7⟩
  · omega
  · exact jGet l G M sz (Γ 2 x) a (ς 30 x) j cap _ mc f h1 h4 (by omega) hj h5 (h3 j hj)

set_option maxHeartbeats 4000000 in
set_option maxRecDepth 100000 in
theorem kMail (l : Launch) (G : mG) (a b : Nat) (ha : a < 10) (hb2 : b < 10) (M : Mem) (sz : Nat) : cMi l yX4_mailDays wsX4_mailDays 1 0 0 G M sz [.int (nI a), .int (nI b)] (fun y9 M' => y9 = nI (dist a b + 1) ∧ M' = M) := by
  refine m_start cX4_mailDays 2 (some .int) (by decide) rfl (Nat.le_of_ble_eq_true rfl) ?_
  intro p e s m below meth c ls hx hb hr hml hown hlk hnm hts hK hsz hE hW hl
  have hA := mA_A (M := M) hsz
  have hl : lv_has ls 2 [(0, .int (nI a)), (1, .int (nI b))] := hl
  refine lv_iload_n hx hb dX4_mailDays_0 rfl (lv_at hl 0 rfl) ?_
  refine lv_iload_n hx hb dX4_mailDays_1 rfl (lv_at hl 1 rfl) ?_
  refine lv_isub hx hb dX4_mailDays_2 ?_
  refine va_mabs hx hb (hml.trans hl.1.symm) hown (hts (.methodLink RX4 214 Lib.Math.abs.name) (by decide +kernel)) (hts (.static Lib.Math.abs.name) (by decide +kernel)) (hts (.initialized "java/lang/Math") (by decide +kernel)) (hts (.code Lib.Math.abs.name Lib.Math.abs.code 1 (some .int)) (by decide +kernel)) (Nat.le_of_ble_eq_true rfl) (Nat.le_of_ble_eq_true rfl) (Nat.le_of_ble_eq_true rfl) (Nat.le_of_ble_eq_true rfl) dX4_mailDays_3 (lv_tope (m_abs a ha b hb2) ?_)
  refine lv_iconst (v := nI 1) hx hb dX4_mailDays_6 (by decide) ?_
  refine lv_iadd hx hb dX4_mailDays_7 (lv_tope (nI_add (dist a b) 1) ?_)
  exact mr_iret hx hb hr hlk (Nat.le_of_ble_eq_true rfl) (Nat.le_of_ble_eq_true rfl) hW ⟨rfl, rfl⟩ dX4_mailDays_8

set_option maxHeartbeats 4000000 in
set_option maxRecDepth 100000 in
theorem kWord (l : Launch) (G : mG) (a b : Nat) (ha : a < 10) (hb2 : b < 10) (M : Mem) (sz : Nat) : cMi l yX4_wordDays wsX4_wordDays 1 0 0 G M sz [.int (nI a), .int (nI b)] (fun y9 M' => y9 = nI (wdd a b) ∧ M' = M) := by
  refine m_start cX4_wordDays 2 (some .int) (by decide) rfl (Nat.le_of_ble_eq_true rfl) ?_
  intro p e s m below meth c ls hx hb hr hml hown hlk hnm hts hK hsz hE hW hl
  have hA := mA_A (M := M) hsz
  have hl : lv_has ls 2 [(0, .int (nI a)), (1, .int (nI b))] := hl
  have hd : dist a b < 10 := by unfold dist; split <;> omega
  refine lv_iload_n hx hb dX4_wordDays_0 rfl (lv_at hl 0 rfl) ?_
  refine lv_iload_n hx hb dX4_wordDays_1 rfl (lv_at hl 1 rfl) ?_
  refine lv_isub hx hb dX4_wordDays_2 ?_
  refine va_mabs hx hb (hml.trans hl.1.symm) hown (hts (.methodLink RX4 214 Lib.Math.abs.name) (by decide +kernel)) (hts (.static Lib.Math.abs.name) (by decide +kernel)) (hts (.initialized "java/lang/Math") (by decide +kernel)) (hts (.code Lib.Math.abs.name Lib.Math.abs.code 1 (some .int)) (by decide +kernel)) (Nat.le_of_ble_eq_true rfl) (Nat.le_of_ble_eq_true rfl) (Nat.le_of_ble_eq_true rfl) (Nat.le_of_ble_eq_true rfl) dX4_wordDays_3 (lv_tope (m_abs a ha b hb2) ?_)
  refine lv_iconst (v := nI 2) hx hb dX4_wordDays_6 (by decide) ?_
  refine lv_iadd hx hb dX4_wordDays_7 (lv_tope (nI_add (dist a b) 2) ?_)
  refine lv_iconst (v := nI 3) hx hb dX4_wordDays_8 (by decide) ?_
  refine lv_idiv hx hb dX4_wordDays_9 (nI_ne0 (by omega) (by omega)) (lv_tope (pk_div (a := dist a b + 2) (d := 3) (by omega) (by omega) (by omega)) ?_)
  exact mr_iret hx hb hr hlk (Nat.le_of_ble_eq_true rfl) (Nat.le_of_ble_eq_true rfl) hW ⟨congrArg nI (show (dist a b + 2) / 3 = wdd a b by unfold wdd; split; (rename_i h; subst h; unfold dist; rw [if_neg (Nat.lt_irrefl _), Nat.sub_self]); rfl), rfl⟩ dX4_wordDays_10

set_option maxHeartbeats 4000000 in
set_option maxRecDepth 100000 in
theorem kShut (l : Launch) (G : mG) (N : Mem) (Γ : Adr) (ς : Sg) (u : Nat) (hu : u < 10) (h1 : ς 24 0 < 2147483648) (h2 : ς 23 u < 2147483648) (M : Mem) (sz : Nat) (hR : Rp G N Γ ς M) : cMi l yX4_isShut wsX4_isShut 0 0 0 G M sz [.ref (Γ 0 0), .int (nI u)] (fun y9 M' => y9 = nI (if ς 24 0 < ς 23 u then 1 else 0) ∧ M' = M) := by
  refine m_start cX4_isShut 2 (some .boolean) (by decide) rfl (Nat.le_of_ble_eq_true rfl) ?_
  intro p e s m below meth c ls hx hb hr hml hown hlk hnm hts hK hsz hE hW hl
  have hA := mA_A (M := M) hsz
  have hl : lv_has ls 2 [(0, .ref (Γ 0 0)), (1, .int (nI u))] := hl
  have hinX4 : ∀ w ∈ u_ws RX4 TX4 6, w ∈ wsX4_isShut := (fun _ h => List.mem_cons_of_mem _ (List.mem_append_right _ h))
  refine lv_aload_n hx hb dX4_isShut_0 rfl (lv_at hl 0 rfl) ?_
  refine mr_get hx hb hts hinX4 hown hK hW hR.o0 (by rfl) 4 (by decide) (hts (.fieldLink RX4 84 "SeaPost" "day" "I") (by decide +kernel)) (fun _ h => h) rfl dX4_isShut_1 ?_
  refine lv_aload_n hx hb dX4_isShut_4 rfl (lv_at hl 0 rfl) ?_
  refine mr_get hx hb hts hinX4 hown hK hW hR.o0 (by rfl) 3 (by decide) (hts (.fieldLink RX4 22 "SeaPost" "opensOn" "[I") (by decide +kernel)) (fun _ h => h) rfl dX4_isShut_5 ?_
  refine lv_iload_n hx hb dX4_isShut_8 rfl (lv_at hl 1 rfl) ?_
  obtain ⟨f_1, f_1a, f_1b⟩ := hR.o1
  refine mr_iald (j := u) hx hb hK hW 0 f_1a (by rfl) rfl (by first | omega | assumption) (by omega) dX4_isShut_9 (lv_tope (f_1b _ (by first | omega | assumption)) ?_)
  refine nv_icmp_ge (u := ς 24 0) (v := ς 23 u) (tgt := 17) hx hb dX4_isShut_10 (by decide) (by omega) (by omega) (fun c_2 => ?_) (fun c_2 => ?_)
  · skip
    refine lv_iconst (v := nI 0) hx hb dX4_isShut_17 (by decide) ?_
    exact mr_zret (v := nI 0) hx hb hr hlk (by first | rfl | exact mc_nb | (exact mc_nc (by omega))) (Nat.le_of_ble_eq_true rfl) (Nat.le_of_ble_eq_true rfl) hW ⟨by first | rw [if_pos (by omega)] | rw [if_neg (by omega)], rfl⟩ dX4_isShut_18
  · skip
    refine lv_iconst (v := nI 1) hx hb dX4_isShut_13 (by decide) ?_
    refine lv_goto (tgt := 18) hx hb dX4_isShut_14 (by decide) ?_
    exact mr_zret (v := nI 1) hx hb hr hlk (by first | rfl | exact mc_nb | (exact mc_nc (by omega))) (Nat.le_of_ble_eq_true rfl) (Nat.le_of_ble_eq_true rfl) hW ⟨by first | rw [if_pos (by omega)] | rw [if_neg (by omega)], rfl⟩ dX4_isShut_18

set_option maxHeartbeats 4000000 in
set_option maxRecDepth 100000 in
theorem kStands (l : Launch) (G : mG) (N : Mem) (Γ : Adr) (ς : Sg) (i n ch : Nat) (hi : i < ς 33 1) (hl8 : ς 18 i ≤ 128) (hn : n < 2147483648) (hch : ch < 65536) (hs : ∀ j, j < 128 → ς 17 (200 * i + j) < 65536) (M : Mem) (sz : Nat) (hR : Rp G N Γ ς M) : cMi l yX0_standsBehind wsX0_standsBehind 0 0 0 G M sz [.ref (Γ 10 i), .int (nI n), .int (nI ch)] (fun y9 M' => y9 = nI (if 0 < n ∧ n ≤ ς 18 i ∧ ς 17 (200 * i + (n - 1)) = ch then 1 else 0) ∧ M' = M) := by
  refine m_start cX0_standsBehind 3 (some .boolean) (by decide) rfl (Nat.le_of_ble_eq_true rfl) ?_
  intro p e s m below meth c ls hx hb hr hml hown hlk hnm hts hK hsz hE hW hl
  have hA := mA_A (M := M) hsz
  have hl : lv_has ls 3 [(0, .ref (Γ 10 i)), (1, .int (nI n)), (2, .int (nI ch))] := hl
  have hinX0 : ∀ w ∈ u_ws RX0 TX0 2, w ∈ wsX0_standsBehind := (fun _ h => List.mem_cons_of_mem _ (List.mem_append_right _ h))
  refine lv_iload_n hx hb dX0_standsBehind_0 rfl (lv_at hl 1 rfl) ?_
  refine nv_if_le (tgt := 28) hx hb dX0_standsBehind_1 (by decide) (by omega) (fun c_1 => ?_) (fun c_1 => ?_)
  · skip
    refine lv_iconst (v := nI 0) hx hb dX0_standsBehind_28 (by decide) ?_
    exact mr_zret (v := nI 0) hx hb hr hlk (by first | rfl | exact mc_nb | (exact mc_nc (by omega))) (Nat.le_of_ble_eq_true rfl) (Nat.le_of_ble_eq_true rfl) hW ⟨by first | rw [if_pos (by omega)] | rw [if_neg (by omega)], rfl⟩ dX0_standsBehind_29
  · skip
    refine lv_iload_n hx hb dX0_standsBehind_4 rfl (lv_at hl 1 rfl) ?_
    refine lv_aload_n hx hb dX0_standsBehind_5 rfl (lv_at hl 0 rfl) ?_
    refine mr_get hx hb hts hinX0 hown hK hW (hR.o10 (i := i) hi) (by rfl) 1 (by decide) (hts (.fieldLink RX0 15 "SeaPost$Cover" "length" "I") (by decide +kernel)) (fun _ h => h) rfl dX0_standsBehind_6 ?_
    refine nv_icmp_gt (u := n) (v := ς 18 i) (tgt := 28) hx hb dX0_standsBehind_9 (by decide) (by omega) (by omega) (fun c_2 => ?_) (fun c_2 => ?_)
    · skip
      refine lv_iconst (v := nI 0) hx hb dX0_standsBehind_28 (by decide) ?_
      exact mr_zret (v := nI 0) hx hb hr hlk (by first | rfl | exact mc_nb | (exact mc_nc (by omega))) (Nat.le_of_ble_eq_true rfl) (Nat.le_of_ble_eq_true rfl) hW ⟨by first | rw [if_pos (by omega)] | rw [if_neg (by omega)], rfl⟩ dX0_standsBehind_29
    · skip
      refine lv_aload_n hx hb dX0_standsBehind_12 rfl (lv_at hl 0 rfl) ?_
      refine mr_get hx hb hts hinX0 hown hK hW (hR.o10 (i := i) hi) (by rfl) 0 (by decide) (hts (.fieldLink RX0 9 "SeaPost$Cover" "signs" "[C") (by decide +kernel)) (fun _ h => h) rfl dX0_standsBehind_13 ?_
      refine lv_iload_n hx hb dX0_standsBehind_16 rfl (lv_at hl 1 rfl) ?_
      refine lv_iconst (v := nI 1) hx hb dX0_standsBehind_17 (by decide) ?_
      refine lv_isub hx hb dX0_standsBehind_18 (lv_tope (pk_sub (a := n) (b := 1) (by omega)) ?_)
      obtain ⟨f_3, f_3a, f_3b⟩ := hR.o11 (i := i) hi
      refine mr_cald (j := n - 1) hx hb hK hW 1 f_3a (by rfl) rfl (by first | omega | assumption) (by omega) dX0_standsBehind_19 (lv_tope (f_3b _ (by first | omega | assumption)) ?_)
      have hs9 := hs (n - 1) (by omega)
      refine lv_iload_n hx hb dX0_standsBehind_20 rfl (lv_at hl 2 rfl) ?_
      refine nv_icmp_ne (u := ς 17 (200 * i + (n - 1))) (v := ch) (tgt := 28) hx hb dX0_standsBehind_21 (by decide) (by omega) (by omega) (fun c_4 => ?_) (fun c_4 => ?_)
      · skip
        refine lv_iconst (v := nI 0) hx hb dX0_standsBehind_28 (by decide) ?_
        exact mr_zret (v := nI 0) hx hb hr hlk (by first | rfl | exact mc_nb | (exact mc_nc (by omega))) (Nat.le_of_ble_eq_true rfl) (Nat.le_of_ble_eq_true rfl) hW ⟨by first | rw [if_pos (by omega)] | rw [if_neg (by omega)], rfl⟩ dX0_standsBehind_29
      · skip
        refine lv_iconst (v := nI 1) hx hb dX0_standsBehind_24 (by decide) ?_
        refine lv_goto (tgt := 29) hx hb dX0_standsBehind_25 (by decide) ?_
        exact mr_zret (v := nI 1) hx hb hr hlk (by first | rfl | exact mc_nb | (exact mc_nc (by omega))) (Nat.le_of_ble_eq_true rfl) (Nat.le_of_ble_eq_true rfl) hW ⟨by first | rw [if_pos (by omega)] | rw [if_neg (by omega)], rfl⟩ dX0_standsBehind_29
