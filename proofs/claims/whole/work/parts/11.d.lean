/-! THE CLASS: marks, routes (mine; the rows are laid by wip/whole/gen) -/
/-- the first place below n at which P holds tells v by f; z if there is none -/
def FS (P : Nat → Prop) (f : Nat → Nat) (n z v : Nat) : Prop := (∃ i, i < n ∧ P i ∧ (∀ j, j < i → ¬ P j) ∧ v = f i) ∨ ((∀ j, j < n → ¬ P j) ∧ v = z)
theorem FS.hit {P : Nat → Prop} {f : Nat → Nat} {n z v i : Nat} (h : FS P f n z v) (hi : i < n) (hP : P i) (hn : ∀ j, j < i → ¬ P j) : f i = v := by
  rcases h with ⟨k, h1, h2, h3, h4⟩ | ⟨h1, -⟩
  · have : i = k := by
      rcases Nat.lt_trichotomy i k with h | h | h
      · exact absurd hP (h3 i h)
      · exact h
      · exact absurd h2 (hn k h)
    rw [this, h4]
  · exact absurd hP (h1 i hi)
theorem FS.no {P : Nat → Prop} {f : Nat → Nat} {n z v : Nat} (h : FS P f n z v) (hn : ∀ j, j < n → ¬ P j) : z = v := by
  rcases h with ⟨k, h1, h2, -⟩ | ⟨-, h1⟩
  · exact absurd h2 (hn k h1)
  · exact h1.symm
theorem FS.step {P : Nat → Prop} {j : Nat} (hn : ∀ k, k < j → ¬ P k) (h : ¬ P j) : ∀ k, k < j + 1 → ¬ P k := by
  intro k hk
  by_cases e : k = j
  · rw [e]; exact h
  · exact hn k (by omega)

set_option maxHeartbeats 4000000 in
set_option maxRecDepth 100000 in
theorem kPort (l : Launch) (G : mG) (N : Mem) (Γ : Adr) (ς : Sg) (i k : Nat) (hi : i < ς 33 1) (h18 : ς 18 i ≤ 128) (hs : ∀ j, j < 128 → ς 17 (200 * i + j) < 65536) (hk : k < 2147483648) (M : Mem) (sz : Nat) (hR : Rp G N Γ ς M) : cMi l yX0_portIndex wsX0_portIndex 0 0 0 G M sz [.ref (Γ 10 i), .int (nI k)] (fun y9 M' => y9 = nI (ptF ς i k (ς 18 i)) ∧ M' = M) := by
  refine m_start cX0_portIndex 4 (some .int) (by decide) rfl (Nat.le_of_ble_eq_true rfl) ?_
  intro p e s m below meth c ls hx hb hr hml hown hlk hnm hts hK hsz hE hW hl
  have hA := mA_A (M := M) hsz
  have hl : lv_has ls 4 [(0, .ref (Γ 10 i)), (1, .int (nI k))] := hl
  have hinX0 : ∀ w ∈ u_ws RX0 TX0 2, w ∈ wsX0_portIndex := (fun _ h => List.mem_cons_of_mem _ (List.mem_append_right _ h))
  refine lv_iconst (v := nI 0) hx hb dX0_portIndex_0 (by decide) ?_
  refine lv_istore_n (lv' := [(2, .int (nI 0)), (0, .ref (Γ 10 i)), (1, .int (nI k))]) hx hb dX0_portIndex_1 rfl hl (by decide) rfl (fun ls hl => ?_)
  refine lv_aload_n hx hb dX0_portIndex_2 rfl (lv_at hl 1 rfl) ?_
  refine mr_get hx hb hts hinX0 hown hK hW (hR.o10 (i := i) hi) (by rfl) 1 (by decide) (hts (.fieldLink RX0 15 "SeaPost$Cover" "length" "I") (by decide +kernel)) (fun _ h => h) rfl dX0_portIndex_3 ?_
  refine lv_iconst (v := nI 1) hx hb dX0_portIndex_6 (by decide) ?_
  refine lv_isub hx hb dX0_portIndex_7 (lv_tope (nI_dn (ς 18 i)) ?_)
  refine lv_istore_n (lv' := [(3, .int (nI (dn (ς 18 i)))), (2, .int (nI 0)), (0, .ref (Γ 10 i)), (1, .int (nI k))]) hx hb dX0_portIndex_8 rfl hl (by decide) rfl (fun ls hl => ?_)
  refine m_loopD (ς 18 i) (fun j H locs ls => ∃ t : Nat, mW G.1 vwCl (mA M sz) s.heap M H locs ∧ lv_has ls 4 [(3, .int (nI (dn j))), (0, .ref (Γ 10 i)), (1, .int (nI k)), (2, .int (nI t))] ∧ ptF ς i k (ς 18 i) = ptF ς i (k - t) j ∧ (t ≤ k ∧ t + j ≤ ς 18 i)) ⟨0, hW, lv_sub hl [0, 2, 3, 1] rfl, rfl, by omega⟩ (fun j H locs ls hI ih => ?_)
  obtain ⟨t, hW, hl, hF, hm⟩ := hI
  rcases j with _ | j
  · skip
    have hl : lv_has ls 4 [(3, .int (nI 4294967295)), (0, .ref (Γ 10 i)), (1, .int (nI k)), (2, .int (nI t))] := hl
    refine lv_iload_n hx hb dX0_portIndex_9 rfl (lv_at hl 0 rfl) ?_
    refine lv_if_lt (tgt := 51) hx hb dX0_portIndex_10 (by decide) (fun _ => ?_) (fun z => absurd (by decide) z)
    refine lv_iconst (v := nI 4294967295) hx hb dX0_portIndex_51 (by decide) ?_
    exact mr_iret hx hb hr hlk (Nat.le_of_ble_eq_true rfl) (Nat.le_of_ble_eq_true rfl) hW ⟨congrArg nI hF.symm, rfl⟩ dX0_portIndex_52
  · skip
    have hl : lv_has ls 4 [(3, .int (nI j)), (0, .ref (Γ 10 i)), (1, .int (nI k)), (2, .int (nI t))] := hl
    have hs9 := hs j (by omega)
    refine lv_iload_n hx hb dX0_portIndex_9 rfl (lv_at hl 0 rfl) ?_
    refine nv_if_lt (tgt := 51) hx hb dX0_portIndex_10 (by decide) (by omega) (fun z => (by omega : False).elim) (fun _ => ?_)
    refine lv_aload_n hx hb dX0_portIndex_13 rfl (lv_at hl 1 rfl) ?_
    refine mr_get hx hb hts hinX0 hown hK hW (hR.o10 (i := i) hi) (by rfl) 0 (by decide) (hts (.fieldLink RX0 9 "SeaPost$Cover" "signs" "[C") (by decide +kernel)) (fun _ h => h) rfl dX0_portIndex_14 ?_
    refine lv_iload_n hx hb dX0_portIndex_17 rfl (lv_at hl 0 rfl) ?_
    obtain ⟨f_1, f_1a, f_1b⟩ := hR.o11 (i := i) hi
    refine mr_cald (j := j) hx hb hK hW 1 f_1a (by rfl) rfl (by first | omega | assumption) (by omega) dX0_portIndex_18 (lv_tope (f_1b _ (by first | omega | assumption)) ?_)
    refine lv_bipush (v := nI 65) hx hb dX0_portIndex_19 (by decide) ?_
    refine nv_icmp_lt (u := ς 17 (200 * i + j)) (v := 65) (tgt := 45) hx hb dX0_portIndex_21 (by decide) (by omega) (by omega) (fun c_2 => ?_) (fun c_2 => ?_)
    · skip
      refine lv_iinc (v := nI (dn j)) (lv' := [(3, .int (nI (dn j))), (0, .ref (Γ 10 i)), (1, .int (nI k)), (2, .int (nI t))]) hx hb dX0_portIndex_45 hl (k := 0) rfl (nI_dec j) (by decide) rfl (fun ls hl => ?_)
      refine lv_goto (tgt := 9) hx hb dX0_portIndex_48 (by decide) ?_
      exact ih _ _ _ j rfl ⟨t, hW, lv_sub hl [0, 1, 2, 3] rfl, hF.trans (if_neg (by show ¬ (65 ≤ _ ∧ _ ≤ 74); omega)), by omega⟩
    · skip
      refine lv_aload_n hx hb dX0_portIndex_24 rfl (lv_at hl 1 rfl) ?_
      refine mr_get hx hb hts hinX0 hown hK hW (hR.o10 (i := i) hi) (by rfl) 0 (by decide) (hts (.fieldLink RX0 9 "SeaPost$Cover" "signs" "[C") (by decide +kernel)) (fun _ h => h) rfl dX0_portIndex_25 ?_
      refine lv_iload_n hx hb dX0_portIndex_28 rfl (lv_at hl 0 rfl) ?_
      obtain ⟨f_3, f_3a, f_3b⟩ := hR.o11 (i := i) hi
      refine mr_cald (j := j) hx hb hK hW 1 f_3a (by rfl) rfl (by first | omega | assumption) (by omega) dX0_portIndex_29 (lv_tope (f_3b _ (by first | omega | assumption)) ?_)
      refine lv_bipush (v := nI 75) hx hb dX0_portIndex_30 (by decide) ?_
      refine nv_icmp_ge (u := ς 17 (200 * i + j)) (v := 75) (tgt := 45) hx hb dX0_portIndex_32 (by decide) (by omega) (by omega) (fun c_4 => ?_) (fun c_4 => ?_)
      · skip
        refine lv_iinc (v := nI (dn j)) (lv' := [(3, .int (nI (dn j))), (0, .ref (Γ 10 i)), (1, .int (nI k)), (2, .int (nI t))]) hx hb dX0_portIndex_45 hl (k := 0) rfl (nI_dec j) (by decide) rfl (fun ls hl => ?_)
        refine lv_goto (tgt := 9) hx hb dX0_portIndex_48 (by decide) ?_
        exact ih _ _ _ j rfl ⟨t, hW, lv_sub hl [0, 1, 2, 3] rfl, hF.trans (if_neg (by show ¬ (65 ≤ _ ∧ _ ≤ 74); omega)), by omega⟩
      · skip
        refine lv_iload_n hx hb dX0_portIndex_35 rfl (lv_at hl 3 rfl) ?_
        refine lv_iload_n hx hb dX0_portIndex_36 rfl (lv_at hl 2 rfl) ?_
        refine nv_icmp_ne (u := t) (v := k) (tgt := 42) hx hb dX0_portIndex_37 (by decide) (by omega) (by omega) (fun c_5 => ?_) (fun c_5 => ?_)
        · skip
          refine lv_iinc (v := nI (t + 1)) (lv' := [(2, .int (nI (t + 1))), (3, .int (nI j)), (0, .ref (Γ 10 i)), (1, .int (nI k))]) hx hb dX0_portIndex_42 hl (k := 3) rfl (by rw [show (Int32.ofInt 1) = nI 1 by decide, nI_add]) (by decide) rfl (fun ls hl => ?_)
          refine lv_iinc (v := nI (dn j)) (lv' := [(3, .int (nI (dn j))), (2, .int (nI (t + 1))), (0, .ref (Γ 10 i)), (1, .int (nI k))]) hx hb dX0_portIndex_45 hl (k := 1) rfl (nI_dec j) (by decide) rfl (fun ls hl => ?_)
          refine lv_goto (tgt := 9) hx hb dX0_portIndex_48 (by decide) ?_
          exact ih _ _ _ j rfl ⟨t + 1, hW, lv_sub hl [0, 2, 3, 1] rfl, hF.trans ((if_pos (by show 65 ≤ _ ∧ _ ≤ 74; omega)).trans ((if_neg (by omega)).trans (by rw [show k - t - 1 = k - (t + 1) by omega]))), by omega⟩
        · skip
          refine lv_iload_n hx hb dX0_portIndex_40 rfl (lv_at hl 0 rfl) ?_
          exact mr_iret hx hb hr hlk (Nat.le_of_ble_eq_true rfl) (Nat.le_of_ble_eq_true rfl) hW ⟨congrArg nI (hF.trans ((if_pos (by show 65 ≤ _ ∧ _ ≤ 74; omega)).trans (if_pos (by omega)))).symm, rfl⟩ dX0_portIndex_41

set_option maxHeartbeats 4000000 in
set_option maxRecDepth 100000 in
theorem kPortN (l : Launch) (G : mG) (N : Mem) (Γ : Adr) (ς : Sg) (i k : Nat) (hi : i < ς 33 1) (h18 : ς 18 i ≤ 128) (hs : ∀ j, j < 128 → ς 17 (200 * i + j) < 65536) (hk : 2147483648 ≤ k) (hk2 : k < 4294967296) (M : Mem) (sz : Nat) (hR : Rp G N Γ ς M) : cMi l yX0_portIndex wsX0_portIndex 0 0 0 G M sz [.ref (Γ 10 i), .int (nI k)] (fun y9 M' => y9 = nI (4294967295) ∧ M' = M) := by
  refine m_start cX0_portIndex 4 (some .int) (by decide) rfl (Nat.le_of_ble_eq_true rfl) ?_
  intro p e s m below meth c ls hx hb hr hml hown hlk hnm hts hK hsz hE hW hl
  have hA := mA_A (M := M) hsz
  have hl : lv_has ls 4 [(0, .ref (Γ 10 i)), (1, .int (nI k))] := hl
  have hinX0 : ∀ w ∈ u_ws RX0 TX0 2, w ∈ wsX0_portIndex := (fun _ h => List.mem_cons_of_mem _ (List.mem_append_right _ h))
  refine lv_iconst (v := nI 0) hx hb dX0_portIndex_0 (by decide) ?_
  refine lv_istore_n (lv' := [(2, .int (nI 0)), (0, .ref (Γ 10 i)), (1, .int (nI k))]) hx hb dX0_portIndex_1 rfl hl (by decide) rfl (fun ls hl => ?_)
  refine lv_aload_n hx hb dX0_portIndex_2 rfl (lv_at hl 1 rfl) ?_
  refine mr_get hx hb hts hinX0 hown hK hW (hR.o10 (i := i) hi) (by rfl) 1 (by decide) (hts (.fieldLink RX0 15 "SeaPost$Cover" "length" "I") (by decide +kernel)) (fun _ h => h) rfl dX0_portIndex_3 ?_
  refine lv_iconst (v := nI 1) hx hb dX0_portIndex_6 (by decide) ?_
  refine lv_isub hx hb dX0_portIndex_7 (lv_tope (nI_dn (ς 18 i)) ?_)
  refine lv_istore_n (lv' := [(3, .int (nI (dn (ς 18 i)))), (2, .int (nI 0)), (0, .ref (Γ 10 i)), (1, .int (nI k))]) hx hb dX0_portIndex_8 rfl hl (by decide) rfl (fun ls hl => ?_)
  refine m_loopD (ς 18 i) (fun j H locs ls => ∃ t : Nat, mW G.1 vwCl (mA M sz) s.heap M H locs ∧ lv_has ls 4 [(3, .int (nI (dn j))), (0, .ref (Γ 10 i)), (1, .int (nI k)), (2, .int (nI t))] ∧ 0 = 0 ∧ t + j ≤ ς 18 i) ⟨0, hW, lv_sub hl [0, 2, 3, 1] rfl, rfl, by omega⟩ (fun j H locs ls hI ih => ?_)
  obtain ⟨t, hW, hl, hF, hm⟩ := hI
  rcases j with _ | j
  · skip
    have hl : lv_has ls 4 [(3, .int (nI 4294967295)), (0, .ref (Γ 10 i)), (1, .int (nI k)), (2, .int (nI t))] := hl
    refine lv_iload_n hx hb dX0_portIndex_9 rfl (lv_at hl 0 rfl) ?_
    refine lv_if_lt (tgt := 51) hx hb dX0_portIndex_10 (by decide) (fun _ => ?_) (fun z => absurd (by decide) z)
    refine lv_iconst (v := nI 4294967295) hx hb dX0_portIndex_51 (by decide) ?_
    exact mr_iret hx hb hr hlk (Nat.le_of_ble_eq_true rfl) (Nat.le_of_ble_eq_true rfl) hW ⟨rfl, rfl⟩ dX0_portIndex_52
  · skip
    have hl : lv_has ls 4 [(3, .int (nI j)), (0, .ref (Γ 10 i)), (1, .int (nI k)), (2, .int (nI t))] := hl
    have hs9 := hs j (by omega)
    refine lv_iload_n hx hb dX0_portIndex_9 rfl (lv_at hl 0 rfl) ?_
    refine nv_if_lt (tgt := 51) hx hb dX0_portIndex_10 (by decide) (by omega) (fun z => (by omega : False).elim) (fun _ => ?_)
    refine lv_aload_n hx hb dX0_portIndex_13 rfl (lv_at hl 1 rfl) ?_
    refine mr_get hx hb hts hinX0 hown hK hW (hR.o10 (i := i) hi) (by rfl) 0 (by decide) (hts (.fieldLink RX0 9 "SeaPost$Cover" "signs" "[C") (by decide +kernel)) (fun _ h => h) rfl dX0_portIndex_14 ?_
    refine lv_iload_n hx hb dX0_portIndex_17 rfl (lv_at hl 0 rfl) ?_
    obtain ⟨f_1, f_1a, f_1b⟩ := hR.o11 (i := i) hi
    refine mr_cald (j := j) hx hb hK hW 1 f_1a (by rfl) rfl (by first | omega | assumption) (by omega) dX0_portIndex_18 (lv_tope (f_1b _ (by first | omega | assumption)) ?_)
    refine lv_bipush (v := nI 65) hx hb dX0_portIndex_19 (by decide) ?_
    refine nv_icmp_lt (u := ς 17 (200 * i + j)) (v := 65) (tgt := 45) hx hb dX0_portIndex_21 (by decide) (by omega) (by omega) (fun c_2 => ?_) (fun c_2 => ?_)
    · skip
      refine lv_iinc (v := nI (dn j)) (lv' := [(3, .int (nI (dn j))), (0, .ref (Γ 10 i)), (1, .int (nI k)), (2, .int (nI t))]) hx hb dX0_portIndex_45 hl (k := 0) rfl (nI_dec j) (by decide) rfl (fun ls hl => ?_)
      refine lv_goto (tgt := 9) hx hb dX0_portIndex_48 (by decide) ?_
      exact ih _ _ _ j rfl ⟨t, hW, lv_sub hl [0, 1, 2, 3] rfl, rfl, by omega⟩
    · skip
      refine lv_aload_n hx hb dX0_portIndex_24 rfl (lv_at hl 1 rfl) ?_
      refine mr_get hx hb hts hinX0 hown hK hW (hR.o10 (i := i) hi) (by rfl) 0 (by decide) (hts (.fieldLink RX0 9 "SeaPost$Cover" "signs" "[C") (by decide +kernel)) (fun _ h => h) rfl dX0_portIndex_25 ?_
      refine lv_iload_n hx hb dX0_portIndex_28 rfl (lv_at hl 0 rfl) ?_
      obtain ⟨f_3, f_3a, f_3b⟩ := hR.o11 (i := i) hi
      refine mr_cald (j := j) hx hb hK hW 1 f_3a (by rfl) rfl (by first | omega | assumption) (by omega) dX0_portIndex_29 (lv_tope (f_3b _ (by first | omega | assumption)) ?_)
      refine lv_bipush (v := nI 75) hx hb dX0_portIndex_30 (by decide) ?_
      refine nv_icmp_ge (u := ς 17 (200 * i + j)) (v := 75) (tgt := 45) hx hb dX0_portIndex_32 (by decide) (by omega) (by omega) (fun c_4 => ?_) (fun c_4 => ?_)
      · skip
        refine lv_iinc (v := nI (dn j)) (lv' := [(3, .int (nI (dn j))), (0, .ref (Γ 10 i)), (1, .int (nI k)), (2, .int (nI t))]) hx hb dX0_portIndex_45 hl (k := 0) rfl (nI_dec j) (by decide) rfl (fun ls hl => ?_)
        refine lv_goto (tgt := 9) hx hb dX0_portIndex_48 (by decide) ?_
        exact ih _ _ _ j rfl ⟨t, hW, lv_sub hl [0, 1, 2, 3] rfl, rfl, by omega⟩
      · skip
        refine lv_iload_n hx hb dX0_portIndex_35 rfl (lv_at hl 3 rfl) ?_
        refine lv_iload_n hx hb dX0_portIndex_36 rfl (lv_at hl 2 rfl) ?_
        refine nv_icmp_ne (u := t) (v := k) (tgt := 42) hx hb dX0_portIndex_37 (by decide) (by omega) (by omega) (fun c_5 => ?_) (fun c_5 => ?_)
        · skip
          refine lv_iinc (v := nI (t + 1)) (lv' := [(2, .int (nI (t + 1))), (3, .int (nI j)), (0, .ref (Γ 10 i)), (1, .int (nI k))]) hx hb dX0_portIndex_42 hl (k := 3) rfl (by rw [show (Int32.ofInt 1) = nI 1 by decide, nI_add]) (by decide) rfl (fun ls hl => ?_)
          refine lv_iinc (v := nI (dn j)) (lv' := [(3, .int (nI (dn j))), (2, .int (nI (t + 1))), (0, .ref (Γ 10 i)), (1, .int (nI k))]) hx hb dX0_portIndex_45 hl (k := 1) rfl (nI_dec j) (by decide) rfl (fun ls hl => ?_)
          refine lv_goto (tgt := 9) hx hb dX0_portIndex_48 (by decide) ?_
          exact ih _ _ _ j rfl ⟨t + 1, hW, lv_sub hl [0, 2, 3, 1] rfl, rfl, by omega⟩
        · skip
          exfalso; omega

set_option maxHeartbeats 4000000 in
set_option maxRecDepth 100000 in
theorem kLast (l : Launch) (G : mG) (N : Mem) (Γ : Adr) (ς : Sg) (r : Nat) (hr0 : isR ς r) (h3 : ς 3 r ≤ 6) (M : Mem) (sz : Nat) (hR : Rp G N Γ ς M) : cMi l yX2_lastLeaving wsX2_lastLeaving 0 0 0 G M sz [.ref (Γ 5 r)] (fun y9 M' => y9 = nI (if 0 < ς 3 r then ς 6 (6 * r + (ς 3 r - 1)) else 4294967295) ∧ M' = M) := by
  refine m_start cX2_lastLeaving 1 (some .int) (by decide) rfl (Nat.le_of_ble_eq_true rfl) ?_
  intro p e s m below meth c ls hx hb hr hml hown hlk hnm hts hK hsz hE hW hl
  have hA := mA_A (M := M) hsz
  have hl : lv_has ls 1 [(0, .ref (Γ 5 r))] := hl
  have hinX2 : ∀ w ∈ u_ws RX2 TX2 6, w ∈ wsX2_lastLeaving := (fun _ h => List.mem_cons_of_mem _ (List.mem_append_right _ h))
  refine lv_aload_n hx hb dX2_lastLeaving_0 rfl (lv_at hl 0 rfl) ?_
  refine mr_get hx hb hts hinX2 hown hK hW (hR.o5 (i := r) hr0) (by rfl) 3 (by decide) (hts (.fieldLink RX2 21 "SeaPost$Route" "calls" "I") (by decide +kernel)) (fun _ h => h) rfl dX2_lastLeaving_1 ?_
  refine nv_if_le (tgt := 21) hx hb dX2_lastLeaving_4 (by decide) (by omega) (fun c_1 => ?_) (fun c_1 => ?_)
  · skip
    refine lv_iconst (v := nI 4294967295) hx hb dX2_lastLeaving_21 (by decide) ?_
    exact mr_iret hx hb hr hlk (Nat.le_of_ble_eq_true rfl) (Nat.le_of_ble_eq_true rfl) hW ⟨by first | rw [if_pos (by omega)] | rw [if_neg (by omega)], rfl⟩ dX2_lastLeaving_22
  · skip
    refine lv_aload_n hx hb dX2_lastLeaving_7 rfl (lv_at hl 0 rfl) ?_
    refine mr_get hx hb hts hinX2 hown hK hW (hR.o5 (i := r) hr0) (by rfl) 2 (by decide) (hts (.fieldLink RX2 18 "SeaPost$Route" "leavings" "[I") (by decide +kernel)) (fun _ h => h) rfl dX2_lastLeaving_8 ?_
    refine lv_aload_n hx hb dX2_lastLeaving_11 rfl (lv_at hl 0 rfl) ?_
    refine mr_get hx hb hts hinX2 hown hK hW (hR.o5 (i := r) hr0) (by rfl) 3 (by decide) (hts (.fieldLink RX2 21 "SeaPost$Route" "calls" "I") (by decide +kernel)) (fun _ h => h) rfl dX2_lastLeaving_12 ?_
    refine lv_iconst (v := nI 1) hx hb dX2_lastLeaving_15 (by decide) ?_
    refine lv_isub hx hb dX2_lastLeaving_16 (lv_tope (pk_sub (a := ς 3 r) (b := 1) (by omega)) ?_)
    obtain ⟨f_2, f_2a, f_2b⟩ := hR.o6 (k := 6) (i := r) (by decide) hr0
    refine mr_iald (j := ς 3 r - 1) hx hb hK hW 0 f_2a (by rfl) rfl (by first | omega | assumption) (by omega) dX2_lastLeaving_17 (lv_tope (f_2b _ (by first | omega | assumption)) ?_)
    refine lv_goto (tgt := 22) hx hb dX2_lastLeaving_18 (by decide) ?_
    exact mr_iret hx hb hr hlk (Nat.le_of_ble_eq_true rfl) (Nat.le_of_ble_eq_true rfl) hW ⟨by first | rw [if_pos (by omega)] | rw [if_neg (by omega)], rfl⟩ dX2_lastLeaving_22

set_option maxHeartbeats 4000000 in
set_option maxRecDepth 100000 in
theorem kPortOn (l : Launch) (G : mG) (N : Mem) (Γ : Adr) (ς : Sg) (r d : Nat) (v : Nat) (hr0 : isR ς r) (h3 : ς 3 r ≤ 6) (hb4 : ∀ j, j < 6 → ς 4 (6 * r + j) < 10 ∧ ς 5 (6 * r + j) < 2147483648 ∧ ς 6 (6 * r + j) < 2147483648) (hd : d < 2147483648) (hv : FS (fun j => ς 5 (6 * r + j) ≤ d ∧ d ≤ ς 6 (6 * r + j)) (fun j => ς 4 (6 * r + j)) (ς 3 r) 4294967295 v) (M : Mem) (sz : Nat) (hR : Rp G N Γ ς M) : cMi l yX2_portOn wsX2_portOn 0 0 0 G M sz [.ref (Γ 5 r), .int (nI d)] (fun y9 M' => y9 = nI (v) ∧ M' = M) := by
  refine m_start cX2_portOn 3 (some .int) (by decide) rfl (Nat.le_of_ble_eq_true rfl) ?_
  intro p e s m below meth c ls hx hb hr hml hown hlk hnm hts hK hsz hE hW hl
  have hA := mA_A (M := M) hsz
  have hl : lv_has ls 3 [(0, .ref (Γ 5 r)), (1, .int (nI d))] := hl
  have hinX2 : ∀ w ∈ u_ws RX2 TX2 6, w ∈ wsX2_portOn := (fun _ h => List.mem_cons_of_mem _ (List.mem_append_right _ h))
  obtain ⟨P, hPd⟩ : ∃ P : Nat → Prop, P = (fun j => ς 5 (6 * r + j) ≤ d ∧ d ≤ ς 6 (6 * r + j)) := ⟨_, rfl⟩
  rw [← hPd] at hv
  have hPj : ∀ j, P j ↔ (ς 5 (6 * r + j) ≤ d ∧ d ≤ ς 6 (6 * r + j)) := fun j => by rw [hPd]
  refine lv_iconst (v := nI 0) hx hb dX2_portOn_0 (by decide) ?_
  refine lv_istore_n (lv' := [(2, .int (nI 0)), (0, .ref (Γ 5 r)), (1, .int (nI d))]) hx hb dX2_portOn_1 rfl hl (by decide) rfl (fun ls hl => ?_)
  refine m_loop (ς 3 r) (fun j H locs ls => mW G.1 vwCl (mA M sz) s.heap M H locs ∧ lv_has ls 3 [(2, .int (nI j)), (0, .ref (Γ 5 r)), (1, .int (nI d))] ∧ ∀ k, k < j → ¬ P k) 0 (by omega) ⟨hW, lv_sub hl [0, 1, 2] rfl, fun _ z => by omega⟩ (fun j H locs ls hj hI ih => ?_)
  obtain ⟨hW, hl, hP⟩ := hI
  have hb9 : j < ς 3 r → _ := fun z => hb4 j (by omega)
  refine lv_iload_n hx hb dX2_portOn_2 rfl (lv_at hl 0 rfl) ?_
  refine lv_aload_n hx hb dX2_portOn_3 rfl (lv_at hl 1 rfl) ?_
  refine mr_get hx hb hts hinX2 hown hK hW (hR.o5 (i := r) hr0) (by rfl) 3 (by decide) (hts (.fieldLink RX2 21 "SeaPost$Route" "calls" "I") (by decide +kernel)) (fun _ h => h) rfl dX2_portOn_4 ?_
  refine nv_icmp_ge (u := j) (v := ς 3 r) (tgt := 43) hx hb dX2_portOn_7 (by decide) (by omega) (by omega) (fun c_1 => ?_) (fun c_1 => ?_)
  · skip
    refine lv_iconst (v := nI 4294967295) hx hb dX2_portOn_43 (by decide) ?_
    exact mr_iret hx hb hr hlk (Nat.le_of_ble_eq_true rfl) (Nat.le_of_ble_eq_true rfl) hW ⟨congrArg nI (hv.no (fun k hk => hP k (by omega))), rfl⟩ dX2_portOn_44
  · skip
    have hb8 := hb9 (by omega)
    refine lv_aload_n hx hb dX2_portOn_10 rfl (lv_at hl 1 rfl) ?_
    refine mr_get hx hb hts hinX2 hown hK hW (hR.o5 (i := r) hr0) (by rfl) 1 (by decide) (hts (.fieldLink RX2 15 "SeaPost$Route" "arrivals" "[I") (by decide +kernel)) (fun _ h => h) rfl dX2_portOn_11 ?_
    refine lv_iload_n hx hb dX2_portOn_14 rfl (lv_at hl 0 rfl) ?_
    obtain ⟨f_2, f_2a, f_2b⟩ := hR.o6 (k := 5) (i := r) (by decide) hr0
    refine mr_iald (j := j) hx hb hK hW 0 f_2a (by rfl) rfl (by first | omega | assumption) (by omega) dX2_portOn_15 (lv_tope (f_2b _ (by first | omega | assumption)) ?_)
    refine lv_iload_n hx hb dX2_portOn_16 rfl (lv_at hl 2 rfl) ?_
    refine nv_icmp_gt (u := ς 5 (6 * r + j)) (v := d) (tgt := 37) hx hb dX2_portOn_17 (by decide) (by omega) (by omega) (fun c_3 => ?_) (fun c_3 => ?_)
    · skip
      refine lv_iinc (v := nI (j + 1)) (lv' := [(2, .int (nI (j + 1))), (0, .ref (Γ 5 r)), (1, .int (nI d))]) hx hb dX2_portOn_37 hl (k := 0) rfl (by rw [show (Int32.ofInt 1) = nI 1 by decide, nI_add]) (by decide) rfl (fun ls hl => ?_)
      refine lv_goto (tgt := 2) hx hb dX2_portOn_40 (by decide) ?_
      exact ih _ _ _ (by omega) ⟨hW, lv_sub hl [0, 1, 2] rfl, FS.step hP (fun z => by have := (hPj j).mp z; omega)⟩
    · skip
      refine lv_iload_n hx hb dX2_portOn_20 rfl (lv_at hl 2 rfl) ?_
      refine lv_aload_n hx hb dX2_portOn_21 rfl (lv_at hl 1 rfl) ?_
      refine mr_get hx hb hts hinX2 hown hK hW (hR.o5 (i := r) hr0) (by rfl) 2 (by decide) (hts (.fieldLink RX2 18 "SeaPost$Route" "leavings" "[I") (by decide +kernel)) (fun _ h => h) rfl dX2_portOn_22 ?_
      refine lv_iload_n hx hb dX2_portOn_25 rfl (lv_at hl 0 rfl) ?_
      obtain ⟨f_4, f_4a, f_4b⟩ := hR.o6 (k := 6) (i := r) (by decide) hr0
      refine mr_iald (j := j) hx hb hK hW 0 f_4a (by rfl) rfl (by first | omega | assumption) (by omega) dX2_portOn_26 (lv_tope (f_4b _ (by first | omega | assumption)) ?_)
      refine nv_icmp_gt (u := d) (v := ς 6 (6 * r + j)) (tgt := 37) hx hb dX2_portOn_27 (by decide) (by omega) (by omega) (fun c_5 => ?_) (fun c_5 => ?_)
      · skip
        refine lv_iinc (v := nI (j + 1)) (lv' := [(2, .int (nI (j + 1))), (0, .ref (Γ 5 r)), (1, .int (nI d))]) hx hb dX2_portOn_37 hl (k := 0) rfl (by rw [show (Int32.ofInt 1) = nI 1 by decide, nI_add]) (by decide) rfl (fun ls hl => ?_)
        refine lv_goto (tgt := 2) hx hb dX2_portOn_40 (by decide) ?_
        exact ih _ _ _ (by omega) ⟨hW, lv_sub hl [0, 1, 2] rfl, FS.step hP (fun z => by have := (hPj j).mp z; omega)⟩
      · skip
        refine lv_aload_n hx hb dX2_portOn_30 rfl (lv_at hl 1 rfl) ?_
        refine mr_get hx hb hts hinX2 hown hK hW (hR.o5 (i := r) hr0) (by rfl) 0 (by decide) (hts (.fieldLink RX2 9 "SeaPost$Route" "ports" "[I") (by decide +kernel)) (fun _ h => h) rfl dX2_portOn_31 ?_
        refine lv_iload_n hx hb dX2_portOn_34 rfl (lv_at hl 0 rfl) ?_
        obtain ⟨f_6, f_6a, f_6b⟩ := hR.o6 (k := 4) (i := r) (by decide) hr0
        refine mr_iald (j := j) hx hb hK hW 0 f_6a (by rfl) rfl (by first | omega | assumption) (by omega) dX2_portOn_35 (lv_tope (f_6b _ (by first | omega | assumption)) ?_)
        exact mr_iret hx hb hr hlk (Nat.le_of_ble_eq_true rfl) (Nat.le_of_ble_eq_true rfl) hW ⟨congrArg nI (hv.hit (i := j) (by omega) ((hPj j).mpr (by omega)) hP), rfl⟩ dX2_portOn_36

set_option maxHeartbeats 4000000 in
set_option maxRecDepth 100000 in
theorem kBehind (l : Launch) (G : mG) (N : Mem) (Γ : Adr) (ς : Sg) (r q d : Nat) (v : Nat) (hr0 : isR ς r) (h3 : ς 3 r ≤ 6) (hb4 : ∀ j, j < 6 → ς 4 (6 * r + j) < 10 ∧ ς 5 (6 * r + j) < 2147483648 ∧ ς 6 (6 * r + j) < 2147483648) (hd : d < 2147483648) (hq : q < 10) (hv : FS (fun j => ς 4 (6 * r + j) = q ∧ d < ς 5 (6 * r + j)) (fun j => 1) (ς 3 r) 0 v) (M : Mem) (sz : Nat) (hR : Rp G N Γ ς M) : cMi l yX2_arrivesBehind wsX2_arrivesBehind 0 0 0 G M sz [.ref (Γ 5 r), .int (nI q), .int (nI d)] (fun y9 M' => y9 = nI (v) ∧ M' = M) := by
  refine m_start cX2_arrivesBehind 4 (some .boolean) (by decide) rfl (Nat.le_of_ble_eq_true rfl) ?_
  intro p e s m below meth c ls hx hb hr hml hown hlk hnm hts hK hsz hE hW hl
  have hA := mA_A (M := M) hsz
  have hl : lv_has ls 4 [(0, .ref (Γ 5 r)), (1, .int (nI q)), (2, .int (nI d))] := hl
  have hinX2 : ∀ w ∈ u_ws RX2 TX2 6, w ∈ wsX2_arrivesBehind := (fun _ h => List.mem_cons_of_mem _ (List.mem_append_right _ h))
  obtain ⟨P, hPd⟩ : ∃ P : Nat → Prop, P = (fun j => ς 4 (6 * r + j) = q ∧ d < ς 5 (6 * r + j)) := ⟨_, rfl⟩
  rw [← hPd] at hv
  have hPj : ∀ j, P j ↔ (ς 4 (6 * r + j) = q ∧ d < ς 5 (6 * r + j)) := fun j => by rw [hPd]
  refine lv_iconst (v := nI 0) hx hb dX2_arrivesBehind_0 (by decide) ?_
  refine lv_istore_n (lv' := [(3, .int (nI 0)), (0, .ref (Γ 5 r)), (1, .int (nI q)), (2, .int (nI d))]) hx hb dX2_arrivesBehind_1 rfl hl (by decide) rfl (fun ls hl => ?_)
  refine m_loop (ς 3 r) (fun j H locs ls => mW G.1 vwCl (mA M sz) s.heap M H locs ∧ lv_has ls 4 [(3, .int (nI j)), (0, .ref (Γ 5 r)), (1, .int (nI q)), (2, .int (nI d))] ∧ ∀ k, k < j → ¬ P k) 0 (by omega) ⟨hW, lv_sub hl [0, 1, 2, 3] rfl, fun _ z => by omega⟩ (fun j H locs ls hj hI ih => ?_)
  obtain ⟨hW, hl, hP⟩ := hI
  have hb9 : j < ς 3 r → _ := fun z => hb4 j (by omega)
  refine lv_iload_n hx hb dX2_arrivesBehind_2 rfl (lv_at hl 0 rfl) ?_
  refine lv_aload_n hx hb dX2_arrivesBehind_3 rfl (lv_at hl 1 rfl) ?_
  refine mr_get hx hb hts hinX2 hown hK hW (hR.o5 (i := r) hr0) (by rfl) 3 (by decide) (hts (.fieldLink RX2 21 "SeaPost$Route" "calls" "I") (by decide +kernel)) (fun _ h => h) rfl dX2_arrivesBehind_4 ?_
  refine nv_icmp_ge (u := j) (v := ς 3 r) (tgt := 38) hx hb dX2_arrivesBehind_7 (by decide) (by omega) (by omega) (fun c_1 => ?_) (fun c_1 => ?_)
  · skip
    refine lv_iconst (v := nI 0) hx hb dX2_arrivesBehind_38 (by decide) ?_
    exact mr_zret (v := nI 0) hx hb hr hlk (by first | rfl | exact mc_nb | (exact mc_nc (by omega))) (Nat.le_of_ble_eq_true rfl) (Nat.le_of_ble_eq_true rfl) hW ⟨congrArg nI (hv.no (fun k hk => hP k (by omega))), rfl⟩ dX2_arrivesBehind_39
  · skip
    have hb8 := hb9 (by omega)
    refine lv_aload_n hx hb dX2_arrivesBehind_10 rfl (lv_at hl 1 rfl) ?_
    refine mr_get hx hb hts hinX2 hown hK hW (hR.o5 (i := r) hr0) (by rfl) 0 (by decide) (hts (.fieldLink RX2 9 "SeaPost$Route" "ports" "[I") (by decide +kernel)) (fun _ h => h) rfl dX2_arrivesBehind_11 ?_
    refine lv_iload_n hx hb dX2_arrivesBehind_14 rfl (lv_at hl 0 rfl) ?_
    obtain ⟨f_2, f_2a, f_2b⟩ := hR.o6 (k := 4) (i := r) (by decide) hr0
    refine mr_iald (j := j) hx hb hK hW 0 f_2a (by rfl) rfl (by first | omega | assumption) (by omega) dX2_arrivesBehind_15 (lv_tope (f_2b _ (by first | omega | assumption)) ?_)
    refine lv_iload_n hx hb dX2_arrivesBehind_16 rfl (lv_at hl 2 rfl) ?_
    refine nv_icmp_ne (u := ς 4 (6 * r + j)) (v := q) (tgt := 32) hx hb dX2_arrivesBehind_17 (by decide) (by omega) (by omega) (fun c_3 => ?_) (fun c_3 => ?_)
    · skip
      refine lv_iinc (v := nI (j + 1)) (lv' := [(3, .int (nI (j + 1))), (0, .ref (Γ 5 r)), (1, .int (nI q)), (2, .int (nI d))]) hx hb dX2_arrivesBehind_32 hl (k := 0) rfl (by rw [show (Int32.ofInt 1) = nI 1 by decide, nI_add]) (by decide) rfl (fun ls hl => ?_)
      refine lv_goto (tgt := 2) hx hb dX2_arrivesBehind_35 (by decide) ?_
      exact ih _ _ _ (by omega) ⟨hW, lv_sub hl [0, 1, 2, 3] rfl, FS.step hP (fun z => by have := (hPj j).mp z; omega)⟩
    · skip
      refine lv_aload_n hx hb dX2_arrivesBehind_20 rfl (lv_at hl 1 rfl) ?_
      refine mr_get hx hb hts hinX2 hown hK hW (hR.o5 (i := r) hr0) (by rfl) 1 (by decide) (hts (.fieldLink RX2 15 "SeaPost$Route" "arrivals" "[I") (by decide +kernel)) (fun _ h => h) rfl dX2_arrivesBehind_21 ?_
      refine lv_iload_n hx hb dX2_arrivesBehind_24 rfl (lv_at hl 0 rfl) ?_
      obtain ⟨f_4, f_4a, f_4b⟩ := hR.o6 (k := 5) (i := r) (by decide) hr0
      refine mr_iald (j := j) hx hb hK hW 0 f_4a (by rfl) rfl (by first | omega | assumption) (by omega) dX2_arrivesBehind_25 (lv_tope (f_4b _ (by first | omega | assumption)) ?_)
      refine lv_iload_n hx hb dX2_arrivesBehind_26 rfl (lv_at hl 3 rfl) ?_
      refine nv_icmp_le (u := ς 5 (6 * r + j)) (v := d) (tgt := 32) hx hb dX2_arrivesBehind_27 (by decide) (by omega) (by omega) (fun c_5 => ?_) (fun c_5 => ?_)
      · skip
        refine lv_iinc (v := nI (j + 1)) (lv' := [(3, .int (nI (j + 1))), (0, .ref (Γ 5 r)), (1, .int (nI q)), (2, .int (nI d))]) hx hb dX2_arrivesBehind_32 hl (k := 0) rfl (by rw [show (Int32.ofInt 1) = nI 1 by decide, nI_add]) (by decide) rfl (fun ls hl => ?_)
        refine lv_goto (tgt := 2) hx hb dX2_arrivesBehind_35 (by decide) ?_
        exact ih _ _ _ (by omega) ⟨hW, lv_sub hl [0, 1, 2, 3] rfl, FS.step hP (fun z => by have := (hPj j).mp z; omega)⟩
      · skip
        refine lv_iconst (v := nI 1) hx hb dX2_arrivesBehind_30 (by decide) ?_
        exact mr_zret (v := nI 1) hx hb hr hlk (by first | rfl | exact mc_nb | (exact mc_nc (by omega))) (Nat.le_of_ble_eq_true rfl) (Nat.le_of_ble_eq_true rfl) hW ⟨congrArg nI (hv.hit (i := j) (by omega) ((hPj j).mpr (by omega)) hP), rfl⟩ dX2_arrivesBehind_31

set_option maxHeartbeats 4000000 in
set_option maxRecDepth 100000 in
theorem kMeet (l : Launch) (G : mG) (N : Mem) (Γ : Adr) (ς : Sg) (r q d : Nat) (v : Nat) (hr0 : isR ς r) (h3 : ς 3 r ≤ 6) (hb4 : ∀ j, j < 6 → ς 4 (6 * r + j) < 10 ∧ ς 5 (6 * r + j) < 2147483648 ∧ ς 6 (6 * r + j) < 2147483648) (hd : d < 2147483648) (hq : q < 10) (hd2 : d ≤ 2000) (hv : FS (fun j => ς 4 (6 * r + j) ≠ q ∧ d + dist q (ς 4 (6 * r + j)) + 1 ≤ ς 6 (6 * r + j)) (fun j => ς 4 (6 * r + j)) (ς 3 r) 4294967295 v) (M : Mem) (sz : Nat) (hR : Rp G N Γ ς M) : cMi l yX2_portOfMeeting wsX2_portOfMeeting 2 0 0 G M sz [.ref (Γ 5 r), .int (nI q), .int (nI d)] (fun y9 M' => y9 = nI (v) ∧ M' = M) := by
  refine m_start cX2_portOfMeeting 4 (some .int) (by decide) rfl (Nat.le_of_ble_eq_true rfl) ?_
  intro p e s m below meth c ls hx hb hr hml hown hlk hnm hts hK hsz hE hW hl
  have hA := mA_A (M := M) hsz
  have hl : lv_has ls 4 [(0, .ref (Γ 5 r)), (1, .int (nI q)), (2, .int (nI d))] := hl
  have hinX2 : ∀ w ∈ u_ws RX2 TX2 6, w ∈ wsX2_portOfMeeting := (fun _ h => List.mem_cons_of_mem _ (List.mem_append_right _ h))
  obtain ⟨P, hPd⟩ : ∃ P : Nat → Prop, P = (fun j => ς 4 (6 * r + j) ≠ q ∧ d + dist q (ς 4 (6 * r + j)) + 1 ≤ ς 6 (6 * r + j)) := ⟨_, rfl⟩
  rw [← hPd] at hv
  have hPj : ∀ j, P j ↔ (ς 4 (6 * r + j) ≠ q ∧ d + dist q (ς 4 (6 * r + j)) + 1 ≤ ς 6 (6 * r + j)) := fun j => by rw [hPd]
  have hdl : ∀ y, y < 10 → dist q y < 10 := fun y hy => by unfold dist; split <;> omega
  refine lv_iconst (v := nI 0) hx hb dX2_portOfMeeting_0 (by decide) ?_
  refine lv_istore_n (lv' := [(3, .int (nI 0)), (0, .ref (Γ 5 r)), (1, .int (nI q)), (2, .int (nI d))]) hx hb dX2_portOfMeeting_1 rfl hl (by decide) rfl (fun ls hl => ?_)
  refine m_loop (ς 3 r) (fun j H locs ls => mW G.1 vwCl (mA M sz) s.heap M H locs ∧ lv_has ls 4 [(3, .int (nI j)), (0, .ref (Γ 5 r)), (1, .int (nI q)), (2, .int (nI d))] ∧ ∀ k, k < j → ¬ P k) 0 (by omega) ⟨hW, lv_sub hl [0, 1, 2, 3] rfl, fun _ z => by omega⟩ (fun j H locs ls hj hI ih => ?_)
  obtain ⟨hW, hl, hP⟩ := hI
  have hb9 : j < ς 3 r → _ := fun z => hb4 j (by omega)
  refine lv_iload_n hx hb dX2_portOfMeeting_2 rfl (lv_at hl 0 rfl) ?_
  refine lv_aload_n hx hb dX2_portOfMeeting_3 rfl (lv_at hl 1 rfl) ?_
  refine mr_get hx hb hts hinX2 hown hK hW (hR.o5 (i := r) hr0) (by rfl) 3 (by decide) (hts (.fieldLink RX2 21 "SeaPost$Route" "calls" "I") (by decide +kernel)) (fun _ h => h) rfl dX2_portOfMeeting_4 ?_
  refine nv_icmp_ge (u := j) (v := ς 3 r) (tgt := 54) hx hb dX2_portOfMeeting_7 (by decide) (by omega) (by omega) (fun c_1 => ?_) (fun c_1 => ?_)
  · skip
    refine lv_iconst (v := nI 4294967295) hx hb dX2_portOfMeeting_54 (by decide) ?_
    exact mr_iret hx hb hr hlk (Nat.le_of_ble_eq_true rfl) (Nat.le_of_ble_eq_true rfl) hW ⟨congrArg nI (hv.no (fun k hk => hP k (by omega))), rfl⟩ dX2_portOfMeeting_55
  · skip
    have hb8 := hb9 (by omega)
    have hd8 := hdl _ hb8.1
    refine lv_aload_n hx hb dX2_portOfMeeting_10 rfl (lv_at hl 1 rfl) ?_
    refine mr_get hx hb hts hinX2 hown hK hW (hR.o5 (i := r) hr0) (by rfl) 0 (by decide) (hts (.fieldLink RX2 9 "SeaPost$Route" "ports" "[I") (by decide +kernel)) (fun _ h => h) rfl dX2_portOfMeeting_11 ?_
    refine lv_iload_n hx hb dX2_portOfMeeting_14 rfl (lv_at hl 0 rfl) ?_
    obtain ⟨f_2, f_2a, f_2b⟩ := hR.o6 (k := 4) (i := r) (by decide) hr0
    refine mr_iald (j := j) hx hb hK hW 0 f_2a (by rfl) rfl (by first | omega | assumption) (by omega) dX2_portOfMeeting_15 (lv_tope (f_2b _ (by first | omega | assumption)) ?_)
    refine lv_iload_n hx hb dX2_portOfMeeting_16 rfl (lv_at hl 2 rfl) ?_
    refine nv_icmp_eq (u := ς 4 (6 * r + j)) (v := q) (tgt := 48) hx hb dX2_portOfMeeting_17 (by decide) (by omega) (by omega) (fun c_3 => ?_) (fun c_3 => ?_)
    · skip
      refine lv_iinc (v := nI (j + 1)) (lv' := [(3, .int (nI (j + 1))), (0, .ref (Γ 5 r)), (1, .int (nI q)), (2, .int (nI d))]) hx hb dX2_portOfMeeting_48 hl (k := 0) rfl (by rw [show (Int32.ofInt 1) = nI 1 by decide, nI_add]) (by decide) rfl (fun ls hl => ?_)
      refine lv_goto (tgt := 2) hx hb dX2_portOfMeeting_51 (by decide) ?_
      exact ih _ _ _ (by omega) ⟨hW, lv_sub hl [0, 1, 2, 3] rfl, FS.step hP (fun z => by have := (hPj j).mp z; omega)⟩
    · skip
      refine lv_aload_n hx hb dX2_portOfMeeting_20 rfl (lv_at hl 1 rfl) ?_
      refine mr_get hx hb hts hinX2 hown hK hW (hR.o5 (i := r) hr0) (by rfl) 2 (by decide) (hts (.fieldLink RX2 18 "SeaPost$Route" "leavings" "[I") (by decide +kernel)) (fun _ h => h) rfl dX2_portOfMeeting_21 ?_
      refine lv_iload_n hx hb dX2_portOfMeeting_24 rfl (lv_at hl 0 rfl) ?_
      obtain ⟨f_4, f_4a, f_4b⟩ := hR.o6 (k := 6) (i := r) (by decide) hr0
      refine mr_iald (j := j) hx hb hK hW 0 f_4a (by rfl) rfl (by first | omega | assumption) (by omega) dX2_portOfMeeting_25 (lv_tope (f_4b _ (by first | omega | assumption)) ?_)
      refine lv_iload_n hx hb dX2_portOfMeeting_26 rfl (lv_at hl 3 rfl) ?_
      refine lv_iload_n hx hb dX2_portOfMeeting_27 rfl (lv_at hl 2 rfl) ?_
      refine lv_aload_n hx hb dX2_portOfMeeting_28 rfl (lv_at hl 1 rfl) ?_
      refine mr_get hx hb hts hinX2 hown hK hW (hR.o5 (i := r) hr0) (by rfl) 0 (by decide) (hts (.fieldLink RX2 9 "SeaPost$Route" "ports" "[I") (by decide +kernel)) (fun _ h => h) rfl dX2_portOfMeeting_29 ?_
      refine lv_iload_n hx hb dX2_portOfMeeting_32 rfl (lv_at hl 0 rfl) ?_
      obtain ⟨f_5, f_5a, f_5b⟩ := hR.o6 (k := 4) (i := r) (by decide) hr0
      refine mr_iald (j := j) hx hb hK hW 0 f_5a (by rfl) rfl (by first | omega | assumption) (by omega) dX2_portOfMeeting_33 (lv_tope (f_5b _ (by first | omega | assumption)) ?_)
      refine mk_i (va_runSN (As := [.int (nI q), .int (nI (ς 4 (6 * r + j)))]) (nL := 4) ⟨hx, hb, hml, hown, hts⟩ (@kMail l G q (ς 4 (6 * r + j)) hq (by omega) _ _ ) ⟨va_cnB 2 hts gX2_portOfMeeting_X4_mailDays_n25 rfl rfl rfl (hE.2.2.1 (RX2, 25, yX4_mailDays) (by decide +kernel)) (hts (.initialized RX4) (by decide +kernel)) (by decide +kernel) ⟨(Nat.le_of_ble_eq_true rfl), (Nat.le_of_ble_eq_true rfl)⟩, hts (.static yX4_mailDays) (by decide +kernel), trivial⟩ (mp_S hK hE hW hA) rfl rfl hl.1 rfl (lv_room (Nat.le_of_ble_eq_true rfl)) dX2_portOfMeeting_34 ⟨(Nat.le_of_ble_eq_true rfl), (Nat.le_of_ble_eq_true rfl)⟩) hW hA (fun r9 M9 H locs hp_6 hW => ?_)
      obtain ⟨e91, e92⟩ := hp_6
      subst e91
      rw [e92] at hW
      clear e92
      refine W.eq (g2 := F0 m 37 ls [.int (nI (dist q (ς 4 (6 * r + j)) + 1)), .int (nI d), .int (nI (ς 6 (6 * r + j)))]) rfl ?_
      refine lv_iadd hx hb dX2_portOfMeeting_37 (lv_tope (nI_add d (dist q (ς 4 (6 * r + j)) + 1)) ?_)
      refine nv_icmp_lt (u := ς 6 (6 * r + j)) (v := d + (dist q (ς 4 (6 * r + j)) + 1)) (tgt := 48) hx hb dX2_portOfMeeting_38 (by decide) (by omega) (by omega) (fun c_7 => ?_) (fun c_7 => ?_)
      · skip
        refine lv_iinc (v := nI (j + 1)) (lv' := [(3, .int (nI (j + 1))), (0, .ref (Γ 5 r)), (1, .int (nI q)), (2, .int (nI d))]) hx hb dX2_portOfMeeting_48 hl (k := 0) rfl (by rw [show (Int32.ofInt 1) = nI 1 by decide, nI_add]) (by decide) rfl (fun ls hl => ?_)
        refine lv_goto (tgt := 2) hx hb dX2_portOfMeeting_51 (by decide) ?_
        exact ih _ _ _ (by omega) ⟨hW, lv_sub hl [0, 1, 2, 3] rfl, FS.step hP (fun z => by have := (hPj j).mp z; omega)⟩
      · skip
        refine lv_aload_n hx hb dX2_portOfMeeting_41 rfl (lv_at hl 1 rfl) ?_
        refine mr_get hx hb hts hinX2 hown hK hW (hR.o5 (i := r) hr0) (by rfl) 0 (by decide) (hts (.fieldLink RX2 9 "SeaPost$Route" "ports" "[I") (by decide +kernel)) (fun _ h => h) rfl dX2_portOfMeeting_42 ?_
        refine lv_iload_n hx hb dX2_portOfMeeting_45 rfl (lv_at hl 0 rfl) ?_
        obtain ⟨f_8, f_8a, f_8b⟩ := hR.o6 (k := 4) (i := r) (by decide) hr0
        refine mr_iald (j := j) hx hb hK hW 0 f_8a (by rfl) rfl (by first | omega | assumption) (by omega) dX2_portOfMeeting_46 (lv_tope (f_8b _ (by first | omega | assumption)) ?_)
        exact mr_iret hx hb hr hlk (Nat.le_of_ble_eq_true rfl) (Nat.le_of_ble_eq_true rfl) hW ⟨congrArg nI (hv.hit (i := j) (by omega) ((hPj j).mpr (by omega)) hP), rfl⟩ dX2_portOfMeeting_47

set_option maxHeartbeats 4000000 in
set_option maxRecDepth 100000 in
theorem kLying (l : Launch) (G : mG) (N : Mem) (Γ : Adr) (ς : Sg) (i : Nat) (hi : i < ς 33 1) (h12 : ς 12 i < 4294967296) (M : Mem) (sz : Nat) (hR : Rp G N Γ ς M) : cMi l yX1_isLying wsX1_isLying 0 0 0 G M sz [.ref (Γ 9 i)] (fun y9 M' => y9 = nI (if ς 12 i = 0 ∨ ς 12 i = 2 ∨ ς 12 i = 4 then 1 else 0) ∧ M' = M) := by
  refine m_start cX1_isLying 1 (some .boolean) (by decide) rfl (Nat.le_of_ble_eq_true rfl) ?_
  intro p e s m below meth c ls hx hb hr hml hown hlk hnm hts hK hsz hE hW hl
  have hA := mA_A (M := M) hsz
  have hl : lv_has ls 1 [(0, .ref (Γ 9 i))] := hl
  have hinX1 : ∀ w ∈ u_ws RX1 TX1 10, w ∈ wsX1_isLying := (fun _ h => List.mem_cons_of_mem _ (List.mem_append_right _ h))
  refine lv_aload_n hx hb dX1_isLying_0 rfl (lv_at hl 0 rfl) ?_
  refine mr_get hx hb hts hinX1 hown hK hW (hR.o9 (i := i) hi) (by rfl) 5 (by decide) (hts (.fieldLink RX1 18 "SeaPost$Letter" "condition" "I") (by decide +kernel)) (fun _ h => h) rfl dX1_isLying_1 ?_
  refine nv_if_eq (tgt := 23) hx hb dX1_isLying_4 (by decide) (by omega) (fun c_1 => ?_) (fun c_1 => ?_)
  · skip
    refine lv_iconst (v := nI 1) hx hb dX1_isLying_23 (by decide) ?_
    refine lv_goto (tgt := 28) hx hb dX1_isLying_24 (by decide) ?_
    exact mr_zret (v := nI 1) hx hb hr hlk (by first | rfl | exact mc_nb | (exact mc_nc (by omega))) (Nat.le_of_ble_eq_true rfl) (Nat.le_of_ble_eq_true rfl) hW ⟨by first | rw [if_pos (by omega)] | rw [if_neg (by omega)], rfl⟩ dX1_isLying_28
  · skip
    refine lv_aload_n hx hb dX1_isLying_7 rfl (lv_at hl 0 rfl) ?_
    refine mr_get hx hb hts hinX1 hown hK hW (hR.o9 (i := i) hi) (by rfl) 5 (by decide) (hts (.fieldLink RX1 18 "SeaPost$Letter" "condition" "I") (by decide +kernel)) (fun _ h => h) rfl dX1_isLying_8 ?_
    refine lv_iconst (v := nI 2) hx hb dX1_isLying_11 (by decide) ?_
    refine nv_icmp_eq (u := ς 12 i) (v := 2) (tgt := 23) hx hb dX1_isLying_12 (by decide) (by omega) (by omega) (fun c_2 => ?_) (fun c_2 => ?_)
    · skip
      refine lv_iconst (v := nI 1) hx hb dX1_isLying_23 (by decide) ?_
      refine lv_goto (tgt := 28) hx hb dX1_isLying_24 (by decide) ?_
      exact mr_zret (v := nI 1) hx hb hr hlk (by first | rfl | exact mc_nb | (exact mc_nc (by omega))) (Nat.le_of_ble_eq_true rfl) (Nat.le_of_ble_eq_true rfl) hW ⟨by first | rw [if_pos (by omega)] | rw [if_neg (by omega)], rfl⟩ dX1_isLying_28
    · skip
      refine lv_aload_n hx hb dX1_isLying_15 rfl (lv_at hl 0 rfl) ?_
      refine mr_get hx hb hts hinX1 hown hK hW (hR.o9 (i := i) hi) (by rfl) 5 (by decide) (hts (.fieldLink RX1 18 "SeaPost$Letter" "condition" "I") (by decide +kernel)) (fun _ h => h) rfl dX1_isLying_16 ?_
      refine lv_iconst (v := nI 4) hx hb dX1_isLying_19 (by decide) ?_
      refine nv_icmp_ne (u := ς 12 i) (v := 4) (tgt := 27) hx hb dX1_isLying_20 (by decide) (by omega) (by omega) (fun c_3 => ?_) (fun c_3 => ?_)
      · skip
        refine lv_iconst (v := nI 0) hx hb dX1_isLying_27 (by decide) ?_
        exact mr_zret (v := nI 0) hx hb hr hlk (by first | rfl | exact mc_nb | (exact mc_nc (by omega))) (Nat.le_of_ble_eq_true rfl) (Nat.le_of_ble_eq_true rfl) hW ⟨by first | rw [if_pos (by omega)] | rw [if_neg (by omega)], rfl⟩ dX1_isLying_28
      · skip
        refine lv_iconst (v := nI 1) hx hb dX1_isLying_23 (by decide) ?_
        refine lv_goto (tgt := 28) hx hb dX1_isLying_24 (by decide) ?_
        exact mr_zret (v := nI 1) hx hb hr hlk (by first | rfl | exact mc_nb | (exact mc_nc (by omega))) (Nat.le_of_ble_eq_true rfl) (Nat.le_of_ble_eq_true rfl) hW ⟨by first | rw [if_pos (by omega)] | rw [if_neg (by omega)], rfl⟩ dX1_isLying_28
