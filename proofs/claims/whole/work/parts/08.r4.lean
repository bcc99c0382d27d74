/-! THE REFERENCE'S METHODS, FOURTH PART (rows laid by my program gen/ref4.py) -/
theorem dist_le {a b : Nat} : dist a b ≤ a + b := by unfold dist; split <;> omega
theorem mtg_b {σ : Sg} {p k : Nat} (h5 : σ 5 k ≤ 1000) (hd : σ 24 0 ≤ 1000) (h4 : σ 4 k ≤ 9) (hp : p ≤ 9) : mtg σ p k ≤ 2000 := by
  have h3 : dist p (σ 4 k) ≤ p + σ 4 k := dist_le
  have e : mtg σ p k = if σ 5 k < σ 24 0 + dist p (σ 4 k) + 1 then σ 24 0 + dist p (σ 4 k) + 1 else σ 5 k := rfl
  rw [e]
  split <;> omega
theorem mtF_b {σ : Sg} {b p : Nat} : ∀ n, (b ≤ (mtF σ b p n).1 ∧ (mtF σ b p n).1 < b + n) ∨ (mtF σ b p n).1 = 4294967295
  | 0 => Or.inr rfl
  | n + 1 => by
    unfold mtF
    split
    · exact Or.inl ⟨Nat.le_add_right _ _, Nat.lt_succ_self _⟩
    · rcases mtF_b (σ := σ) (b := b) (p := p) n with h | h
      · exact Or.inl ⟨h.1, by omega⟩
      · exact Or.inr h
theorem mtF_e {σ : Sg} {b p : Nat} (h : ∀ k, σ 5 k ≤ 1000) (hd : σ 24 0 ≤ 1000) (hp : p < 10) (h4 : ∀ k, σ 4 k ≤ 9) : ∀ n, (mtF σ b p n).2 ≤ 2000
  | 0 => Nat.zero_le _
  | n + 1 => by
    unfold mtF
    split
    · have h1 := h (b + n)
      have h2 := h4 (b + n)
      have h3 : dist p (σ 4 (b + n)) ≤ p + σ 4 (b + n) := dist_le
      exact mtg_b h1 hd h2 (by omega)
    · exact mtF_e h hd hp h4 n

set_option maxHeartbeats 4000000 in
set_option maxRecDepth 100000 in
theorem c5_isCallHere (l : Launch) (G : mG) (ad : Nat → Nat) (σ : Sg) (r : Nat) (q : Nat) (hr9 : r < 168) (hq : q < 10) (h3 : ∀ r, r < 168 → σ 3 r ≤ 6) (h45 : ∀ k, k < 1008 → σ 4 k ≤ 9 ∧ σ 5 k ≤ 1000 ∧ σ 6 k ≤ 1030) (hd : σ 24 0 ≤ 1000) : cRi l yX5_isCallHere wsX5_isCallHere 0 G ad σ [.int (nI r), .int (nI q)] (fun r9 σ9 => r9 = nI (if chF σ (6 * r) q (σ 3 r) = true then 1 else 0) ∧ σ9 = σ) := by
  intro M sz hR
  refine m_start cX5_isCallHere 5 (some .boolean) (by decide) rfl (Nat.le_of_ble_eq_true rfl) ?_
  intro p e s m below meth c ls hx hb hr hml hown hlk hnm hts hK hsz hE hW hl
  have hA := mA_A (M := M) hsz
  have hl : lv_has ls 5 [(0, .ref (ad 0)), (1, .int (nI r)), (2, .int (nI q))] := hl
  have hW := rW_start hR hW
  have hinX5 : ∀ w ∈ u_ws RX5 TX5 26, w ∈ wsX5_isCallHere := (fun _ h => List.mem_cons_of_mem _ (List.mem_append_right _ h))
  refine lv_iconst (v := nI 0) hx hb dX5_isCallHere_0 (by decide) ?_
  refine lv_tope (y := nI (if chF σ (6 * r) q 0 = true then 1 else 0)) rfl ?_
  refine lv_istore_n (lv' := [(3, .int (nI (if chF σ (6 * r) q 0 = true then 1 else 0))), (0, .ref (ad 0)), (1, .int (nI r)), (2, .int (nI q))]) hx hb dX5_isCallHere_1 rfl hl (by decide) rfl (fun ls hl => ?_)
  refine lv_bipush (v := nI 6) hx hb dX5_isCallHere_2 (by decide) ?_
  refine lv_iload_n hx hb dX5_isCallHere_4 rfl (lv_at hl 2 rfl) ?_
  refine lv_imul hx hb dX5_isCallHere_5 (lv_tope (pk_mul 6 r) ?_)
  refine lv_istore (lv' := [(4, .int (nI (6 * r))), (3, .int (nI (if chF σ (6 * r) q 0 = true then 1 else 0))), (0, .ref (ad 0)), (1, .int (nI r)), (2, .int (nI q))]) hx hb dX5_isCallHere_6 hl (by decide) rfl (fun ls hl => ?_)
  have h3r := h3 r hr9
  refine W.eq (g2 := F0 m 8 ls []) rfl ?_
  refine m_loop (σ 3 r) (fun n H locs ls => rW G ad (mA M sz) s.heap M σ H locs ∧ lv_has ls 5 [(4, .int (nI (6 * r + n))), (3, .int (nI (if chF σ (6 * r) q n = true then 1 else 0))), (0, .ref (ad 0)), (1, .int (nI r)), (2, .int (nI q))]) 0 (by omega) ⟨hW, lv_sub hl [0, 1, 2, 3, 4] rfl⟩ (fun n H locs ls hn hI ih => ?_)
  obtain ⟨hW, hl⟩ := hI
  have h45n := fun h => h45 (6 * r + n) h
  refine lv_iload hx hb dX5_isCallHere_8 (lv_at hl 0 rfl) ?_
  refine lv_bipush (v := nI 6) hx hb dX5_isCallHere_10 (by decide) ?_
  refine lv_iload_n hx hb dX5_isCallHere_12 rfl (lv_at hl 3 rfl) ?_
  refine lv_imul hx hb dX5_isCallHere_13 (lv_tope (pk_mul 6 r) ?_)
  refine lv_aload_n hx hb dX5_isCallHere_14 rfl (lv_at hl 2 rfl) ?_
  refine rr_geta hx hb hts hinX5 hown hK hW 3 (by decide) rfl rfl (hts (.fieldLink RX5 16 "SeaPostModel" "callMany" "[I") (by decide +kernel)) dX5_isCallHere_15 ?_
  refine lv_iload_n hx hb dX5_isCallHere_18 rfl (lv_at hl 3 rfl) ?_
  refine rr_ald (j := r) hx hb hK hW 3 rfl rfl (show r < 168 by omega) dX5_isCallHere_19 ?_
  refine lv_iadd hx hb dX5_isCallHere_20 (lv_tope (nI_add (6 * r) (σ 3 r)) ?_)
  refine nv_icmp_ge (u := 6 * r + n) (v := 6 * r + (σ 3 r)) (tgt := 65) hx hb dX5_isCallHere_21 (by decide) (by omega) (by omega) (fun c_1 => ?_) (fun c_1 => ?_)
  · skip
    refine lv_iload_n hx hb dX5_isCallHere_65 rfl (lv_at hl 1 rfl) ?_
    exact rr_zret (v := nI (if chF σ (6 * r) q n = true then 1 else 0)) hx hb hr hlk (by first | rfl | exact mc_nb | (exact mc_nc (by omega))) (Nat.le_refl 0) (Nat.le_refl 0) hW ⟨by rw [show n = σ 3 r by omega], rfl⟩ dX5_isCallHere_66
  · skip
    refine lv_iload_n hx hb dX5_isCallHere_24 rfl (lv_at hl 1 rfl) ?_
    refine nb_if_ne (tgt := 53) hx hb dX5_isCallHere_25 (by decide) (fun c_2 => ?_) (fun c_2 => ?_)
    · skip
      refine lv_iconst (v := nI 1) hx hb dX5_isCallHere_53 (by decide) ?_
      refine lv_goto (tgt := 58) hx hb dX5_isCallHere_54 (by decide) ?_
      refine lv_tope (y := nI (if chF σ (6 * r) q (n + 1) = true then 1 else 0)) (congrArg nI (show 1 = (if (chF σ (6 * r) q n || (decide (σ 4 (6 * r + n) = q) && decide (σ 24 0 < σ 5 (6 * r + n)))) = true then 1 else 0) by first | (rw [if_pos (by simp only [Bool.or_eq_true, Bool.and_eq_true, decide_eq_true_eq]; first | exact Or.inl (by assumption) | exact Or.inr ⟨by omega, by omega⟩)]) | (rw [if_neg (by simp only [Bool.or_eq_true, Bool.and_eq_true, decide_eq_true_eq]; rintro (z | ⟨z1, z2⟩); exact absurd z (by assumption); omega)]))) ?_
      refine lv_istore_n (lv' := [(3, .int (nI (if chF σ (6 * r) q (n + 1) = true then 1 else 0))), (4, .int (nI (6 * r + n))), (0, .ref (ad 0)), (1, .int (nI r)), (2, .int (nI q))]) hx hb dX5_isCallHere_58 rfl hl (by decide) rfl (fun ls hl => ?_)
      refine lv_iinc (v := nI (6 * r + n + 1)) (lv' := [(4, .int (nI (6 * r + n + 1))), (3, .int (nI (if chF σ (6 * r) q (n + 1) = true then 1 else 0))), (0, .ref (ad 0)), (1, .int (nI r)), (2, .int (nI q))]) hx hb dX5_isCallHere_59 hl (k := 1) rfl (by rw [show (Int32.ofInt 1) = nI 1 by decide, nI_add]) (by decide) rfl (fun ls hl => ?_)
      refine lv_goto (tgt := 8) hx hb dX5_isCallHere_62 (by decide) ?_
      exact ih _ _ _ (by omega) ⟨hW, lv_sub hl [0, 1, 2, 3, 4] rfl⟩
    · skip
      refine lv_aload_n hx hb dX5_isCallHere_28 rfl (lv_at hl 2 rfl) ?_
      refine rr_geta hx hb hts hinX5 hown hK hW 4 (by decide) rfl rfl (hts (.fieldLink RX5 19 "SeaPostModel" "callPort" "[I") (by decide +kernel)) dX5_isCallHere_29 ?_
      refine lv_iload hx hb dX5_isCallHere_32 (lv_at hl 0 rfl) ?_
      refine rr_ald (j := 6 * r + n) hx hb hK hW 4 rfl rfl (show 6 * r + n < 1008 by omega) dX5_isCallHere_34 ?_
      refine lv_iload_n hx hb dX5_isCallHere_35 rfl (lv_at hl 4 rfl) ?_
      refine nv_icmp_ne (u := σ 4 (6 * r + n)) (v := q) (tgt := 57) hx hb dX5_isCallHere_36 (by decide) (by omega) (by omega) (fun c_3 => ?_) (fun c_3 => ?_)
      · skip
        refine lv_iconst (v := nI 0) hx hb dX5_isCallHere_57 (by decide) ?_
        refine lv_tope (y := nI (if chF σ (6 * r) q (n + 1) = true then 1 else 0)) (congrArg nI (show 0 = (if (chF σ (6 * r) q n || (decide (σ 4 (6 * r + n) = q) && decide (σ 24 0 < σ 5 (6 * r + n)))) = true then 1 else 0) by first | (rw [if_pos (by simp only [Bool.or_eq_true, Bool.and_eq_true, decide_eq_true_eq]; first | exact Or.inl (by assumption) | exact Or.inr ⟨by omega, by omega⟩)]) | (rw [if_neg (by simp only [Bool.or_eq_true, Bool.and_eq_true, decide_eq_true_eq]; rintro (z | ⟨z1, z2⟩); exact absurd z (by assumption); omega)]))) ?_
        refine lv_istore_n (lv' := [(3, .int (nI (if chF σ (6 * r) q (n + 1) = true then 1 else 0))), (4, .int (nI (6 * r + n))), (0, .ref (ad 0)), (1, .int (nI r)), (2, .int (nI q))]) hx hb dX5_isCallHere_58 rfl hl (by decide) rfl (fun ls hl => ?_)
        refine lv_iinc (v := nI (6 * r + n + 1)) (lv' := [(4, .int (nI (6 * r + n + 1))), (3, .int (nI (if chF σ (6 * r) q (n + 1) = true then 1 else 0))), (0, .ref (ad 0)), (1, .int (nI r)), (2, .int (nI q))]) hx hb dX5_isCallHere_59 hl (k := 1) rfl (by rw [show (Int32.ofInt 1) = nI 1 by decide, nI_add]) (by decide) rfl (fun ls hl => ?_)
        refine lv_goto (tgt := 8) hx hb dX5_isCallHere_62 (by decide) ?_
        exact ih _ _ _ (by omega) ⟨hW, lv_sub hl [0, 1, 2, 3, 4] rfl⟩
      · skip
        refine lv_aload_n hx hb dX5_isCallHere_39 rfl (lv_at hl 2 rfl) ?_
        refine rr_geta hx hb hts hinX5 hown hK hW 5 (by decide) rfl rfl (hts (.fieldLink RX5 22 "SeaPostModel" "arrival" "[I") (by decide +kernel)) dX5_isCallHere_40 ?_
        refine lv_iload hx hb dX5_isCallHere_43 (lv_at hl 0 rfl) ?_
        refine rr_ald (j := 6 * r + n) hx hb hK hW 5 rfl rfl (show 6 * r + n < 1008 by omega) dX5_isCallHere_45 ?_
        refine lv_aload_n hx hb dX5_isCallHere_46 rfl (lv_at hl 2 rfl) ?_
        refine rr_geti hx hb hts hinX5 hown hK hW 24 (by decide) rfl rfl (hts (.fieldLink RX5 92 "SeaPostModel" "today" "I") (by decide +kernel)) dX5_isCallHere_47 ?_
        refine nv_icmp_le (u := σ 5 (6 * r + n)) (v := σ 24 0) (tgt := 57) hx hb dX5_isCallHere_50 (by decide) (by omega) (by omega) (fun c_4 => ?_) (fun c_4 => ?_)
        · skip
          refine lv_iconst (v := nI 0) hx hb dX5_isCallHere_57 (by decide) ?_
          refine lv_tope (y := nI (if chF σ (6 * r) q (n + 1) = true then 1 else 0)) (congrArg nI (show 0 = (if (chF σ (6 * r) q n || (decide (σ 4 (6 * r + n) = q) && decide (σ 24 0 < σ 5 (6 * r + n)))) = true then 1 else 0) by first | (rw [if_pos (by simp only [Bool.or_eq_true, Bool.and_eq_true, decide_eq_true_eq]; first | exact Or.inl (by assumption) | exact Or.inr ⟨by omega, by omega⟩)]) | (rw [if_neg (by simp only [Bool.or_eq_true, Bool.and_eq_true, decide_eq_true_eq]; rintro (z | ⟨z1, z2⟩); exact absurd z (by assumption); omega)]))) ?_
          refine lv_istore_n (lv' := [(3, .int (nI (if chF σ (6 * r) q (n + 1) = true then 1 else 0))), (4, .int (nI (6 * r + n))), (0, .ref (ad 0)), (1, .int (nI r)), (2, .int (nI q))]) hx hb dX5_isCallHere_58 rfl hl (by decide) rfl (fun ls hl => ?_)
          refine lv_iinc (v := nI (6 * r + n + 1)) (lv' := [(4, .int (nI (6 * r + n + 1))), (3, .int (nI (if chF σ (6 * r) q (n + 1) = true then 1 else 0))), (0, .ref (ad 0)), (1, .int (nI r)), (2, .int (nI q))]) hx hb dX5_isCallHere_59 hl (k := 1) rfl (by rw [show (Int32.ofInt 1) = nI 1 by decide, nI_add]) (by decide) rfl (fun ls hl => ?_)
          refine lv_goto (tgt := 8) hx hb dX5_isCallHere_62 (by decide) ?_
          exact ih _ _ _ (by omega) ⟨hW, lv_sub hl [0, 1, 2, 3, 4] rfl⟩
        · skip
          refine lv_iconst (v := nI 1) hx hb dX5_isCallHere_53 (by decide) ?_
          refine lv_goto (tgt := 58) hx hb dX5_isCallHere_54 (by decide) ?_
          refine lv_tope (y := nI (if chF σ (6 * r) q (n + 1) = true then 1 else 0)) (congrArg nI (show 1 = (if (chF σ (6 * r) q n || (decide (σ 4 (6 * r + n) = q) && decide (σ 24 0 < σ 5 (6 * r + n)))) = true then 1 else 0) by first | (rw [if_pos (by simp only [Bool.or_eq_true, Bool.and_eq_true, decide_eq_true_eq]; first | exact Or.inl (by assumption) | exact Or.inr ⟨by omega, by omega⟩)]) | (rw [if_neg (by simp only [Bool.or_eq_true, Bool.and_eq_true, decide_eq_true_eq]; rintro (z | ⟨z1, z2⟩); exact absurd z (by assumption); omega)]))) ?_
          refine lv_istore_n (lv' := [(3, .int (nI (if chF σ (6 * r) q (n + 1) = true then 1 else 0))), (4, .int (nI (6 * r + n))), (0, .ref (ad 0)), (1, .int (nI r)), (2, .int (nI q))]) hx hb dX5_isCallHere_58 rfl hl (by decide) rfl (fun ls hl => ?_)
          refine lv_iinc (v := nI (6 * r + n + 1)) (lv' := [(4, .int (nI (6 * r + n + 1))), (3, .int (nI (if chF σ (6 * r) q (n + 1) = true then 1 else 0))), (0, .ref (ad 0)), (1, .int (nI r)), (2, .int (nI q))]) hx hb dX5_isCallHere_59 hl (k := 1) rfl (by rw [show (Int32.ofInt 1) = nI 1 by decide, nI_add]) (by decide) rfl (fun ls hl => ?_)
          refine lv_goto (tgt := 8) hx hb dX5_isCallHere_62 (by decide) ?_
          exact ih _ _ _ (by omega) ⟨hW, lv_sub hl [0, 1, 2, 3, 4] rfl⟩

set_option maxHeartbeats 4000000 in
set_option maxRecDepth 100000 in
theorem c5_meets (l : Launch) (G : mG) (ad : Nat → Nat) (σ : Sg) (r : Nat) (q : Nat) (hr9 : r < 168) (hq : q < 10) (h3 : ∀ r, r < 168 → σ 3 r ≤ 6) (h45 : ∀ k, k < 1008 → σ 4 k ≤ 9 ∧ σ 5 k ≤ 1000 ∧ σ 6 k ≤ 1030) (hd : σ 24 0 ≤ 1000) (hn4 : ∀ k, σ 4 k ≤ 9) (hn5 : ∀ k, σ 5 k ≤ 1000) : cRi l yX5_meets wsX5_meets 1 G ad σ [.int (nI r), .int (nI q)] (fun r9 σ9 => r9 = nI (mtF σ (6 * r) q (σ 3 r)).1 ∧ σ9 = σ) := by
  intro M sz hR
  refine m_start cX5_meets 8 (some .int) (by decide) rfl (Nat.le_of_ble_eq_true rfl) ?_
  intro p e s m below meth c ls hx hb hr hml hown hlk hnm hts hK hsz hE hW hl
  have hA := mA_A (M := M) hsz
  have hl : lv_has ls 8 [(0, .ref (ad 0)), (1, .int (nI r)), (2, .int (nI q))] := hl
  have hW := rW_start hR hW
  have hinX5 : ∀ w ∈ u_ws RX5 TX5 26, w ∈ wsX5_meets := (fun _ h => List.mem_cons_of_mem _ (List.mem_append_right _ h))
  refine lv_iconst (v := nI 4294967295) hx hb dX5_meets_0 (by decide) ?_
  refine lv_istore_n (lv' := [(3, .int (nI 4294967295)), (0, .ref (ad 0)), (1, .int (nI r)), (2, .int (nI q))]) hx hb dX5_meets_1 rfl hl (by decide) rfl (fun ls hl => ?_)
  refine lv_iconst (v := nI 0) hx hb dX5_meets_2 (by decide) ?_
  refine lv_istore (lv' := [(4, .int (nI 0)), (3, .int (nI 4294967295)), (0, .ref (ad 0)), (1, .int (nI r)), (2, .int (nI q))]) hx hb dX5_meets_3 hl (by decide) rfl (fun ls hl => ?_)
  refine lv_bipush (v := nI 6) hx hb dX5_meets_5 (by decide) ?_
  refine lv_iload_n hx hb dX5_meets_7 rfl (lv_at hl 3 rfl) ?_
  refine lv_imul hx hb dX5_meets_8 (lv_tope (pk_mul 6 r) ?_)
  refine lv_istore (lv' := [(5, .int (nI (6 * r))), (4, .int (nI 0)), (3, .int (nI 4294967295)), (0, .ref (ad 0)), (1, .int (nI r)), (2, .int (nI q))]) hx hb dX5_meets_9 hl (by decide) rfl (fun ls hl => ?_)
  have h3r := h3 r hr9
  refine m_loop (σ 3 r) (fun n H locs ls => rW G ad (mA M sz) s.heap M σ H locs ∧ lv_has ls 8 [(5, .int (nI (6 * r + n))), (4, .int (nI ((mtF σ (6 * r) q n).2))), (3, .int (nI ((mtF σ (6 * r) q n).1))), (0, .ref (ad 0)), (1, .int (nI r)), (2, .int (nI q))]) 0 (by omega) ⟨hW, lv_sub hl [0, 1, 2, 3, 4, 5] rfl⟩ (fun n H locs ls hn hI ih => ?_)
  obtain ⟨hW, hl⟩ := hI
  have h45n := fun h => h45 (6 * r + n) h
  have hds : dist q (σ 4 (6 * r + n)) ≤ q + σ 4 (6 * r + n) := dist_le
  have hmb := mtF_b (σ := σ) (b := 6 * r) (p := q) n
  have hme := mtF_e (σ := σ) (b := 6 * r) (p := q) hn5 hd hq hn4 n
  refine lv_iload hx hb dX5_meets_11 (lv_at hl 0 rfl) ?_
  refine lv_bipush (v := nI 6) hx hb dX5_meets_13 (by decide) ?_
  refine lv_iload_n hx hb dX5_meets_15 rfl (lv_at hl 4 rfl) ?_
  refine lv_imul hx hb dX5_meets_16 (lv_tope (pk_mul 6 r) ?_)
  refine lv_aload_n hx hb dX5_meets_17 rfl (lv_at hl 3 rfl) ?_
  refine rr_geta hx hb hts hinX5 hown hK hW 3 (by decide) rfl rfl (hts (.fieldLink RX5 16 "SeaPostModel" "callMany" "[I") (by decide +kernel)) dX5_meets_18 ?_
  refine lv_iload_n hx hb dX5_meets_21 rfl (lv_at hl 4 rfl) ?_
  refine rr_ald (j := r) hx hb hK hW 3 rfl rfl (show r < 168 by omega) dX5_meets_22 ?_
  refine lv_iadd hx hb dX5_meets_23 (lv_tope (nI_add (6 * r) (σ 3 r)) ?_)
  refine nv_icmp_ge (u := 6 * r + n) (v := 6 * r + (σ 3 r)) (tgt := 121) hx hb dX5_meets_24 (by decide) (by omega) (by omega) (fun c_1 => ?_) (fun c_1 => ?_)
  · skip
    refine lv_iload_n hx hb dX5_meets_121 rfl (lv_at hl 2 rfl) ?_
    exact rr_iret hx hb hr hlk (Nat.le_refl 0) (Nat.le_refl 0) hW ⟨by rw [show n = σ 3 r by omega], rfl⟩ dX5_meets_122
  · skip
    refine lv_aload_n hx hb dX5_meets_27 rfl (lv_at hl 3 rfl) ?_
    refine rr_geti hx hb hts hinX5 hown hK hW 24 (by decide) rfl rfl (hts (.fieldLink RX5 92 "SeaPostModel" "today" "I") (by decide +kernel)) dX5_meets_28 ?_
    refine lv_iload_n hx hb dX5_meets_31 rfl (lv_at hl 5 rfl) ?_
    refine lv_aload_n hx hb dX5_meets_32 rfl (lv_at hl 3 rfl) ?_
    refine rr_geta hx hb hts hinX5 hown hK hW 4 (by decide) rfl rfl (hts (.fieldLink RX5 19 "SeaPostModel" "callPort" "[I") (by decide +kernel)) dX5_meets_33 ?_
    refine lv_iload hx hb dX5_meets_36 (lv_at hl 0 rfl) ?_
    refine rr_ald (j := 6 * r + n) hx hb hK hW 4 rfl rfl (show 6 * r + n < 1008 by omega) dX5_meets_38 ?_
    refine rk_S (As := [.int (nI q), .int (nI (σ 4 (6 * r + n)))]) (nL := 8) ⟨hx, hb, hml, hown, hts⟩ (c5_apart l q (σ 4 (6 * r + n)) (by omega) (by omega)) (va_cwS 2 hts gX5_meets_X5_apart rfl rfl rfl (by decide +kernel) ⟨(Nat.le_of_ble_eq_true rfl), (Nat.le_of_ble_eq_true rfl)⟩) hK hE hW hA rfl hl.1 rfl (Nat.le_of_ble_eq_true rfl) dX5_meets_39 (Nat.zero_le _) (Nat.zero_le _) (fun H locs hW => ?_)
    refine lv_iadd hx hb dX5_meets_42 (lv_tope (nI_add (σ 24 0) (dist q (σ 4 (6 * r + n)))) ?_)
    refine lv_iconst (v := nI 1) hx hb dX5_meets_43 (by decide) ?_
    refine lv_iadd hx hb dX5_meets_44 (lv_tope (nI_add (σ 24 0 + (dist q (σ 4 (6 * r + n)))) 1) ?_)
    refine lv_istore (lv' := [(6, .int (nI (σ 24 0 + (dist q (σ 4 (6 * r + n))) + 1))), (5, .int (nI (6 * r + n))), (4, .int (nI ((mtF σ (6 * r) q n).2))), (3, .int (nI ((mtF σ (6 * r) q n).1))), (0, .ref (ad 0)), (1, .int (nI r)), (2, .int (nI q))]) hx hb dX5_meets_45 hl (by decide) rfl (fun ls hl => ?_)
    refine lv_iload hx hb dX5_meets_47 (lv_at hl 0 rfl) ?_
    refine lv_aload_n hx hb dX5_meets_49 rfl (lv_at hl 4 rfl) ?_
    refine rr_geta hx hb hts hinX5 hown hK hW 5 (by decide) rfl rfl (hts (.fieldLink RX5 22 "SeaPostModel" "arrival" "[I") (by decide +kernel)) dX5_meets_50 ?_
    refine lv_iload hx hb dX5_meets_53 (lv_at hl 1 rfl) ?_
    refine rr_ald (j := 6 * r + n) hx hb hK hW 5 rfl rfl (show 6 * r + n < 1008 by omega) dX5_meets_55 ?_
    refine nv_icmp_le (u := σ 24 0 + (dist q (σ 4 (6 * r + n))) + 1) (v := σ 5 (6 * r + n)) (tgt := 64) hx hb dX5_meets_56 (by decide) (by omega) (by omega) (fun c_2 => ?_) (fun c_2 => ?_)
    · skip
      refine lv_aload_n hx hb dX5_meets_64 rfl (lv_at hl 4 rfl) ?_
      refine rr_geta hx hb hts hinX5 hown hK hW 5 (by decide) rfl rfl (hts (.fieldLink RX5 22 "SeaPostModel" "arrival" "[I") (by decide +kernel)) dX5_meets_65 ?_
      refine lv_iload hx hb dX5_meets_68 (lv_at hl 1 rfl) ?_
      refine rr_ald (j := 6 * r + n) hx hb hK hW 5 rfl rfl (show 6 * r + n < 1008 by omega) dX5_meets_70 ?_
      refine lv_tope (y := nI (mtg σ q (6 * r + n))) (congrArg nI (show σ 5 (6 * r + n) = (if σ 5 (6 * r + n) < thr σ q (6 * r + n) then thr σ q (6 * r + n) else σ 5 (6 * r + n)) by unfold thr; first | (rw [if_pos (by omega)]) | (rw [if_neg (by omega)]))) ?_
      have hmg : mtg σ q (6 * r + n) ≤ 2000 := mtg_b (hn5 _) hd (hn4 _) (by omega)
      refine lv_istore (lv' := [(7, .int (nI (mtg σ q (6 * r + n)))), (6, .int (nI (σ 24 0 + (dist q (σ 4 (6 * r + n))) + 1))), (5, .int (nI (6 * r + n))), (4, .int (nI ((mtF σ (6 * r) q n).2))), (3, .int (nI ((mtF σ (6 * r) q n).1))), (0, .ref (ad 0)), (1, .int (nI r)), (2, .int (nI q))]) hx hb dX5_meets_71 hl (by decide) rfl (fun ls hl => ?_)
      refine lv_aload_n hx hb dX5_meets_73 rfl (lv_at hl 5 rfl) ?_
      refine rr_geta hx hb hts hinX5 hown hK hW 4 (by decide) rfl rfl (hts (.fieldLink RX5 19 "SeaPostModel" "callPort" "[I") (by decide +kernel)) dX5_meets_74 ?_
      refine lv_iload hx hb dX5_meets_77 (lv_at hl 2 rfl) ?_
      refine rr_ald (j := 6 * r + n) hx hb hK hW 4 rfl rfl (show 6 * r + n < 1008 by omega) dX5_meets_79 ?_
      refine lv_iload_n hx hb dX5_meets_80 rfl (lv_at hl 7 rfl) ?_
      refine nv_icmp_eq (u := σ 4 (6 * r + n)) (v := q) (tgt := 115) hx hb dX5_meets_81 (by decide) (by omega) (by omega) (fun c_3 => ?_) (fun c_3 => ?_)
      · skip
        have hstep : mtF σ (6 * r) q (n + 1) = ((mtF σ (6 * r) q n).1, (mtF σ (6 * r) q n).2) := by
          show (if _ then _ else _) = _
          first | (rw [if_pos ⟨by omega, by show σ 24 0 + dist q (σ 4 (6 * r + n)) + 1 ≤ _; omega, by first | exact Or.inl (by omega) | exact Or.inr (by omega)⟩]; done) | (rw [if_neg (fun z => by obtain ⟨z1, z2, z3⟩ := z; have z2 : σ 24 0 + dist q (σ 4 (6 * r + n)) + 1 ≤ σ 6 (6 * r + n) := z2; omega)]; done)
        have hl : lv_has ls 8 [(7, .int (nI (mtg σ q (6 * r + n)))), (6, .int (nI (σ 24 0 + (dist q (σ 4 (6 * r + n))) + 1))), (5, .int (nI (6 * r + n))), (4, .int (nI ((mtF σ (6 * r) q n).2))), (3, .int (nI ((mtF σ (6 * r) q n).1))), (0, .ref (ad 0)), (1, .int (nI r)), (2, .int (nI q))] := hl
        have hl : lv_has ls 8 [(7, .int (nI (mtg σ q (6 * r + n)))), (6, .int (nI (σ 24 0 + (dist q (σ 4 (6 * r + n))) + 1))), (5, .int (nI (6 * r + n))), (4, .int (nI ((mtF σ (6 * r) q (n + 1)).2))), (3, .int (nI ((mtF σ (6 * r) q (n + 1)).1))), (0, .ref (ad 0)), (1, .int (nI r)), (2, .int (nI q))] := by rw [hstep]; exact hl
        refine lv_iinc (v := nI (6 * r + n + 1)) (lv' := [(5, .int (nI (6 * r + n + 1))), (7, .int (nI (mtg σ q (6 * r + n)))), (6, .int (nI (σ 24 0 + (dist q (σ 4 (6 * r + n))) + 1))), (4, .int (nI ((mtF σ (6 * r) q (n + 1)).2))), (3, .int (nI ((mtF σ (6 * r) q (n + 1)).1))), (0, .ref (ad 0)), (1, .int (nI r)), (2, .int (nI q))]) hx hb dX5_meets_115 hl (k := 2) rfl (by rw [show (Int32.ofInt 1) = nI 1 by decide, nI_add]) (by decide) rfl (fun ls hl => ?_)
        refine lv_goto (tgt := 11) hx hb dX5_meets_118 (by decide) ?_
        exact ih _ _ _ (by omega) ⟨hW, lv_sub hl [0, 3, 4, 5, 6, 7] rfl⟩
      · skip
        refine lv_aload_n hx hb dX5_meets_84 rfl (lv_at hl 5 rfl) ?_
        refine rr_geta hx hb hts hinX5 hown hK hW 6 (by decide) rfl rfl (hts (.fieldLink RX5 25 "SeaPostModel" "leaving" "[I") (by decide +kernel)) dX5_meets_85 ?_
        refine lv_iload hx hb dX5_meets_88 (lv_at hl 2 rfl) ?_
        refine rr_ald (j := 6 * r + n) hx hb hK hW 6 rfl rfl (show 6 * r + n < 1008 by omega) dX5_meets_90 ?_
        refine lv_iload hx hb dX5_meets_91 (lv_at hl 1 rfl) ?_
        refine nv_icmp_lt (u := σ 6 (6 * r + n)) (v := σ 24 0 + (dist q (σ 4 (6 * r + n))) + 1) (tgt := 115) hx hb dX5_meets_93 (by decide) (by omega) (by omega) (fun c_4 => ?_) (fun c_4 => ?_)
        · skip
          have hstep : mtF σ (6 * r) q (n + 1) = ((mtF σ (6 * r) q n).1, (mtF σ (6 * r) q n).2) := by
            show (if _ then _ else _) = _
            first | (rw [if_pos ⟨by omega, by show σ 24 0 + dist q (σ 4 (6 * r + n)) + 1 ≤ _; omega, by first | exact Or.inl (by omega) | exact Or.inr (by omega)⟩]; done) | (rw [if_neg (fun z => by obtain ⟨z1, z2, z3⟩ := z; have z2 : σ 24 0 + dist q (σ 4 (6 * r + n)) + 1 ≤ σ 6 (6 * r + n) := z2; omega)]; done)
          have hl : lv_has ls 8 [(7, .int (nI (mtg σ q (6 * r + n)))), (6, .int (nI (σ 24 0 + (dist q (σ 4 (6 * r + n))) + 1))), (5, .int (nI (6 * r + n))), (4, .int (nI ((mtF σ (6 * r) q n).2))), (3, .int (nI ((mtF σ (6 * r) q n).1))), (0, .ref (ad 0)), (1, .int (nI r)), (2, .int (nI q))] := hl
          have hl : lv_has ls 8 [(7, .int (nI (mtg σ q (6 * r + n)))), (6, .int (nI (σ 24 0 + (dist q (σ 4 (6 * r + n))) + 1))), (5, .int (nI (6 * r + n))), (4, .int (nI ((mtF σ (6 * r) q (n + 1)).2))), (3, .int (nI ((mtF σ (6 * r) q (n + 1)).1))), (0, .ref (ad 0)), (1, .int (nI r)), (2, .int (nI q))] := by rw [hstep]; exact hl
          refine lv_iinc (v := nI (6 * r + n + 1)) (lv' := [(5, .int (nI (6 * r + n + 1))), (7, .int (nI (mtg σ q (6 * r + n)))), (6, .int (nI (σ 24 0 + (dist q (σ 4 (6 * r + n))) + 1))), (4, .int (nI ((mtF σ (6 * r) q (n + 1)).2))), (3, .int (nI ((mtF σ (6 * r) q (n + 1)).1))), (0, .ref (ad 0)), (1, .int (nI r)), (2, .int (nI q))]) hx hb dX5_meets_115 hl (k := 2) rfl (by rw [show (Int32.ofInt 1) = nI 1 by decide, nI_add]) (by decide) rfl (fun ls hl => ?_)
          refine lv_goto (tgt := 11) hx hb dX5_meets_118 (by decide) ?_
          exact ih _ _ _ (by omega) ⟨hW, lv_sub hl [0, 3, 4, 5, 6, 7] rfl⟩
        · skip
          refine lv_iload_n hx hb dX5_meets_96 rfl (lv_at hl 4 rfl) ?_
          refine lv_iconst (v := nI 4294967295) hx hb dX5_meets_97 (by decide) ?_
          refine nv_icmp_eq (u := (mtF σ (6 * r) q n).1) (v := 4294967295) (tgt := 108) hx hb dX5_meets_98 (by decide) (by omega) (by omega) (fun c_5 => ?_) (fun c_5 => ?_)
          · skip
            refine lv_iload hx hb dX5_meets_108 (lv_at hl 2 rfl) ?_
            refine lv_istore_n (lv' := [(3, .int (nI (6 * r + n))), (7, .int (nI (mtg σ q (6 * r + n)))), (6, .int (nI (σ 24 0 + (dist q (σ 4 (6 * r + n))) + 1))), (5, .int (nI (6 * r + n))), (4, .int (nI ((mtF σ (6 * r) q n).2))), (0, .ref (ad 0)), (1, .int (nI r)), (2, .int (nI q))]) hx hb dX5_meets_110 rfl hl (by decide) rfl (fun ls hl => ?_)
            refine lv_iload hx hb dX5_meets_111 (lv_at hl 1 rfl) ?_
            refine lv_istore (lv' := [(4, .int (nI (mtg σ q (6 * r + n)))), (3, .int (nI (6 * r + n))), (7, .int (nI (mtg σ q (6 * r + n)))), (6, .int (nI (σ 24 0 + (dist q (σ 4 (6 * r + n))) + 1))), (5, .int (nI (6 * r + n))), (0, .ref (ad 0)), (1, .int (nI r)), (2, .int (nI q))]) hx hb dX5_meets_113 hl (by decide) rfl (fun ls hl => ?_)
            have hstep : mtF σ (6 * r) q (n + 1) = (6 * r + n, mtg σ q (6 * r + n)) := by
              show (if _ then _ else _) = _
              first | (rw [if_pos ⟨by omega, by show σ 24 0 + dist q (σ 4 (6 * r + n)) + 1 ≤ _; omega, by first | exact Or.inl (by omega) | exact Or.inr (by omega)⟩]; done) | (rw [if_neg (fun z => by obtain ⟨z1, z2, z3⟩ := z; have z2 : σ 24 0 + dist q (σ 4 (6 * r + n)) + 1 ≤ σ 6 (6 * r + n) := z2; omega)]; done)
            have hl : lv_has ls 8 [(4, .int (nI (mtg σ q (6 * r + n)))), (3, .int (nI (6 * r + n))), (7, .int (nI (mtg σ q (6 * r + n)))), (6, .int (nI (σ 24 0 + (dist q (σ 4 (6 * r + n))) + 1))), (5, .int (nI (6 * r + n))), (0, .ref (ad 0)), (1, .int (nI r)), (2, .int (nI q))] := hl
            have hl : lv_has ls 8 [(4, .int (nI ((mtF σ (6 * r) q (n + 1)).2))), (3, .int (nI ((mtF σ (6 * r) q (n + 1)).1))), (7, .int (nI (mtg σ q (6 * r + n)))), (6, .int (nI (σ 24 0 + (dist q (σ 4 (6 * r + n))) + 1))), (5, .int (nI (6 * r + n))), (0, .ref (ad 0)), (1, .int (nI r)), (2, .int (nI q))] := by rw [hstep]; exact hl
            refine lv_iinc (v := nI (6 * r + n + 1)) (lv' := [(5, .int (nI (6 * r + n + 1))), (4, .int (nI ((mtF σ (6 * r) q (n + 1)).2))), (3, .int (nI ((mtF σ (6 * r) q (n + 1)).1))), (7, .int (nI (mtg σ q (6 * r + n)))), (6, .int (nI (σ 24 0 + (dist q (σ 4 (6 * r + n))) + 1))), (0, .ref (ad 0)), (1, .int (nI r)), (2, .int (nI q))]) hx hb dX5_meets_115 hl (k := 4) rfl (by rw [show (Int32.ofInt 1) = nI 1 by decide, nI_add]) (by decide) rfl (fun ls hl => ?_)
            refine lv_goto (tgt := 11) hx hb dX5_meets_118 (by decide) ?_
            exact ih _ _ _ (by omega) ⟨hW, lv_sub hl [0, 1, 2, 5, 6, 7] rfl⟩
          · skip
            refine lv_iload hx hb dX5_meets_101 (lv_at hl 0 rfl) ?_
            refine lv_iload hx hb dX5_meets_103 (lv_at hl 3 rfl) ?_
            refine nv_icmp_ge (u := mtg σ q (6 * r + n)) (v := (mtF σ (6 * r) q n).2) (tgt := 115) hx hb dX5_meets_105 (by decide) (by omega) (by omega) (fun c_6 => ?_) (fun c_6 => ?_)
            · skip
              have hstep : mtF σ (6 * r) q (n + 1) = ((mtF σ (6 * r) q n).1, (mtF σ (6 * r) q n).2) := by
                show (if _ then _ else _) = _
                first | (rw [if_pos ⟨by omega, by show σ 24 0 + dist q (σ 4 (6 * r + n)) + 1 ≤ _; omega, by first | exact Or.inl (by omega) | exact Or.inr (by omega)⟩]; done) | (rw [if_neg (fun z => by obtain ⟨z1, z2, z3⟩ := z; have z2 : σ 24 0 + dist q (σ 4 (6 * r + n)) + 1 ≤ σ 6 (6 * r + n) := z2; omega)]; done)
              have hl : lv_has ls 8 [(7, .int (nI (mtg σ q (6 * r + n)))), (6, .int (nI (σ 24 0 + (dist q (σ 4 (6 * r + n))) + 1))), (5, .int (nI (6 * r + n))), (4, .int (nI ((mtF σ (6 * r) q n).2))), (3, .int (nI ((mtF σ (6 * r) q n).1))), (0, .ref (ad 0)), (1, .int (nI r)), (2, .int (nI q))] := hl
              have hl : lv_has ls 8 [(7, .int (nI (mtg σ q (6 * r + n)))), (6, .int (nI (σ 24 0 + (dist q (σ 4 (6 * r + n))) + 1))), (5, .int (nI (6 * r + n))), (4, .int (nI ((mtF σ (6 * r) q (n + 1)).2))), (3, .int (nI ((mtF σ (6 * r) q (n + 1)).1))), (0, .ref (ad 0)), (1, .int (nI r)), (2, .int (nI q))] := by rw [hstep]; exact hl
              refine lv_iinc (v := nI (6 * r + n + 1)) (lv' := [(5, .int (nI (6 * r + n + 1))), (7, .int (nI (mtg σ q (6 * r + n)))), (6, .int (nI (σ 24 0 + (dist q (σ 4 (6 * r + n))) + 1))), (4, .int (nI ((mtF σ (6 * r) q (n + 1)).2))), (3, .int (nI ((mtF σ (6 * r) q (n + 1)).1))), (0, .ref (ad 0)), (1, .int (nI r)), (2, .int (nI q))]) hx hb dX5_meets_115 hl (k := 2) rfl (by rw [show (Int32.ofInt 1) = nI 1 by decide, nI_add]) (by decide) rfl (fun ls hl => ?_)
              refine lv_goto (tgt := 11) hx hb dX5_meets_118 (by decide) ?_
              exact ih _ _ _ (by omega) ⟨hW, lv_sub hl [0, 3, 4, 5, 6, 7] rfl⟩
            · skip
              refine lv_iload hx hb dX5_meets_108 (lv_at hl 2 rfl) ?_
              refine lv_istore_n (lv' := [(3, .int (nI (6 * r + n))), (7, .int (nI (mtg σ q (6 * r + n)))), (6, .int (nI (σ 24 0 + (dist q (σ 4 (6 * r + n))) + 1))), (5, .int (nI (6 * r + n))), (4, .int (nI ((mtF σ (6 * r) q n).2))), (0, .ref (ad 0)), (1, .int (nI r)), (2, .int (nI q))]) hx hb dX5_meets_110 rfl hl (by decide) rfl (fun ls hl => ?_)
              refine lv_iload hx hb dX5_meets_111 (lv_at hl 1 rfl) ?_
              refine lv_istore (lv' := [(4, .int (nI (mtg σ q (6 * r + n)))), (3, .int (nI (6 * r + n))), (7, .int (nI (mtg σ q (6 * r + n)))), (6, .int (nI (σ 24 0 + (dist q (σ 4 (6 * r + n))) + 1))), (5, .int (nI (6 * r + n))), (0, .ref (ad 0)), (1, .int (nI r)), (2, .int (nI q))]) hx hb dX5_meets_113 hl (by decide) rfl (fun ls hl => ?_)
              have hstep : mtF σ (6 * r) q (n + 1) = (6 * r + n, mtg σ q (6 * r + n)) := by
                show (if _ then _ else _) = _
                first | (rw [if_pos ⟨by omega, by show σ 24 0 + dist q (σ 4 (6 * r + n)) + 1 ≤ _; omega, by first | exact Or.inl (by omega) | exact Or.inr (by omega)⟩]; done) | (rw [if_neg (fun z => by obtain ⟨z1, z2, z3⟩ := z; have z2 : σ 24 0 + dist q (σ 4 (6 * r + n)) + 1 ≤ σ 6 (6 * r + n) := z2; omega)]; done)
              have hl : lv_has ls 8 [(4, .int (nI (mtg σ q (6 * r + n)))), (3, .int (nI (6 * r + n))), (7, .int (nI (mtg σ q (6 * r + n)))), (6, .int (nI (σ 24 0 + (dist q (σ 4 (6 * r + n))) + 1))), (5, .int (nI (6 * r + n))), (0, .ref (ad 0)), (1, .int (nI r)), (2, .int (nI q))] := hl
              have hl : lv_has ls 8 [(4, .int (nI ((mtF σ (6 * r) q (n + 1)).2))), (3, .int (nI ((mtF σ (6 * r) q (n + 1)).1))), (7, .int (nI (mtg σ q (6 * r + n)))), (6, .int (nI (σ 24 0 + (dist q (σ 4 (6 * r + n))) + 1))), (5, .int (nI (6 * r + n))), (0, .ref (ad 0)), (1, .int (nI r)), (2, .int (nI q))] := by rw [hstep]; exact hl
              refine lv_iinc (v := nI (6 * r + n + 1)) (lv' := [(5, .int (nI (6 * r + n + 1))), (4, .int (nI ((mtF σ (6 * r) q (n + 1)).2))), (3, .int (nI ((mtF σ (6 * r) q (n + 1)).1))), (7, .int (nI (mtg σ q (6 * r + n)))), (6, .int (nI (σ 24 0 + (dist q (σ 4 (6 * r + n))) + 1))), (0, .ref (ad 0)), (1, .int (nI r)), (2, .int (nI q))]) hx hb dX5_meets_115 hl (k := 4) rfl (by rw [show (Int32.ofInt 1) = nI 1 by decide, nI_add]) (by decide) rfl (fun ls hl => ?_)
              refine lv_goto (tgt := 11) hx hb dX5_meets_118 (by decide) ?_
              exact ih _ _ _ (by omega) ⟨hW, lv_sub hl [0, 1, 2, 5, 6, 7] rfl⟩
    · skip
      refine lv_iload hx hb dX5_meets_59 (lv_at hl 0 rfl) ?_
      refine lv_goto (tgt := 71) hx hb dX5_meets_61 (by decide) ?_
      refine lv_tope (y := nI (mtg σ q (6 * r + n))) (congrArg nI (show σ 24 0 + (dist q (σ 4 (6 * r + n))) + 1 = (if σ 5 (6 * r + n) < thr σ q (6 * r + n) then thr σ q (6 * r + n) else σ 5 (6 * r + n)) by unfold thr; first | (rw [if_pos (by omega)]) | (rw [if_neg (by omega)]))) ?_
      have hmg : mtg σ q (6 * r + n) ≤ 2000 := mtg_b (hn5 _) hd (hn4 _) (by omega)
      refine lv_istore (lv' := [(7, .int (nI (mtg σ q (6 * r + n)))), (6, .int (nI (σ 24 0 + (dist q (σ 4 (6 * r + n))) + 1))), (5, .int (nI (6 * r + n))), (4, .int (nI ((mtF σ (6 * r) q n).2))), (3, .int (nI ((mtF σ (6 * r) q n).1))), (0, .ref (ad 0)), (1, .int (nI r)), (2, .int (nI q))]) hx hb dX5_meets_71 hl (by decide) rfl (fun ls hl => ?_)
      refine lv_aload_n hx hb dX5_meets_73 rfl (lv_at hl 5 rfl) ?_
      refine rr_geta hx hb hts hinX5 hown hK hW 4 (by decide) rfl rfl (hts (.fieldLink RX5 19 "SeaPostModel" "callPort" "[I") (by decide +kernel)) dX5_meets_74 ?_
      refine lv_iload hx hb dX5_meets_77 (lv_at hl 2 rfl) ?_
      refine rr_ald (j := 6 * r + n) hx hb hK hW 4 rfl rfl (show 6 * r + n < 1008 by omega) dX5_meets_79 ?_
      refine lv_iload_n hx hb dX5_meets_80 rfl (lv_at hl 7 rfl) ?_
      refine nv_icmp_eq (u := σ 4 (6 * r + n)) (v := q) (tgt := 115) hx hb dX5_meets_81 (by decide) (by omega) (by omega) (fun c_7 => ?_) (fun c_7 => ?_)
      · skip
        have hstep : mtF σ (6 * r) q (n + 1) = ((mtF σ (6 * r) q n).1, (mtF σ (6 * r) q n).2) := by
          show (if _ then _ else _) = _
          first | (rw [if_pos ⟨by omega, by show σ 24 0 + dist q (σ 4 (6 * r + n)) + 1 ≤ _; omega, by first | exact Or.inl (by omega) | exact Or.inr (by omega)⟩]; done) | (rw [if_neg (fun z => by obtain ⟨z1, z2, z3⟩ := z; have z2 : σ 24 0 + dist q (σ 4 (6 * r + n)) + 1 ≤ σ 6 (6 * r + n) := z2; omega)]; done)
        have hl : lv_has ls 8 [(7, .int (nI (mtg σ q (6 * r + n)))), (6, .int (nI (σ 24 0 + (dist q (σ 4 (6 * r + n))) + 1))), (5, .int (nI (6 * r + n))), (4, .int (nI ((mtF σ (6 * r) q n).2))), (3, .int (nI ((mtF σ (6 * r) q n).1))), (0, .ref (ad 0)), (1, .int (nI r)), (2, .int (nI q))] := hl
        have hl : lv_has ls 8 [(7, .int (nI (mtg σ q (6 * r + n)))), (6, .int (nI (σ 24 0 + (dist q (σ 4 (6 * r + n))) + 1))), (5, .int (nI (6 * r + n))), (4, .int (nI ((mtF σ (6 * r) q (n + 1)).2))), (3, .int (nI ((mtF σ (6 * r) q (n + 1)).1))), (0, .ref (ad 0)), (1, .int (nI r)), (2, .int (nI q))] := by rw [hstep]; exact hl
        refine lv_iinc (v := nI (6 * r + n + 1)) (lv' := [(5, .int (nI (6 * r + n + 1))), (7, .int (nI (mtg σ q (6 * r + n)))), (6, .int (nI (σ 24 0 + (dist q (σ 4 (6 * r + n))) + 1))), (4, .int (nI ((mtF σ (6 * r) q (n + 1)).2))), (3, .int (nI ((mtF σ (6 * r) q (n + 1)).1))), (0, .ref (ad 0)), (1, .int (nI r)), (2, .int (nI q))]) hx hb dX5_meets_115 hl (k := 2) rfl (by rw [show (Int32.ofInt 1) = nI 1 by decide, nI_add]) (by decide) rfl (fun ls hl => ?_)
        refine lv_goto (tgt := 11) hx hb dX5_meets_118 (by decide) ?_
        exact ih _ _ _ (by omega) ⟨hW, lv_sub hl [0, 3, 4, 5, 6, 7] rfl⟩
      · skip
        refine lv_aload_n hx hb dX5_meets_84 rfl (lv_at hl 5 rfl) ?_
        refine rr_geta hx hb hts hinX5 hown hK hW 6 (by decide) rfl rfl (hts (.fieldLink RX5 25 "SeaPostModel" "leaving" "[I") (by decide +kernel)) dX5_meets_85 ?_
        refine lv_iload hx hb dX5_meets_88 (lv_at hl 2 rfl) ?_
        refine rr_ald (j := 6 * r + n) hx hb hK hW 6 rfl rfl (show 6 * r + n < 1008 by omega) dX5_meets_90 ?_
        refine lv_iload hx hb dX5_meets_91 (lv_at hl 1 rfl) ?_
        refine nv_icmp_lt (u := σ 6 (6 * r + n)) (v := σ 24 0 + (dist q (σ 4 (6 * r + n))) + 1) (tgt := 115) hx hb dX5_meets_93 (by decide) (by omega) (by omega) (fun c_8 => ?_) (fun c_8 => ?_)
        · skip
          have hstep : mtF σ (6 * r) q (n + 1) = ((mtF σ (6 * r) q n).1, (mtF σ (6 * r) q n).2) := by
            show (if _ then _ else _) = _
            first | (rw [if_pos ⟨by omega, by show σ 24 0 + dist q (σ 4 (6 * r + n)) + 1 ≤ _; omega, by first | exact Or.inl (by omega) | exact Or.inr (by omega)⟩]; done) | (rw [if_neg (fun z => by obtain ⟨z1, z2, z3⟩ := z; have z2 : σ 24 0 + dist q (σ 4 (6 * r + n)) + 1 ≤ σ 6 (6 * r + n) := z2; omega)]; done)
          have hl : lv_has ls 8 [(7, .int (nI (mtg σ q (6 * r + n)))), (6, .int (nI (σ 24 0 + (dist q (σ 4 (6 * r + n))) + 1))), (5, .int (nI (6 * r + n))), (4, .int (nI ((mtF σ (6 * r) q n).2))), (3, .int (nI ((mtF σ (6 * r) q n).1))), (0, .ref (ad 0)), (1, .int (nI r)), (2, .int (nI q))] := hl
          have hl : lv_has ls 8 [(7, .int (nI (mtg σ q (6 * r + n)))), (6, .int (nI (σ 24 0 + (dist q (σ 4 (6 * r + n))) + 1))), (5, .int (nI (6 * r + n))), (4, .int (nI ((mtF σ (6 * r) q (n + 1)).2))), (3, .int (nI ((mtF σ (6 * r) q (n + 1)).1))), (0, .ref (ad 0)), (1, .int (nI r)), (2, .int (nI q))] := by rw [hstep]; exact hl
          refine lv_iinc (v := nI (6 * r + n + 1)) (lv' := [(5, .int (nI (6 * r + n + 1))), (7, .int (nI (mtg σ q (6 * r + n)))), (6, .int (nI (σ 24 0 + (dist q (σ 4 (6 * r + n))) + 1))), (4, .int (nI ((mtF σ (6 * r) q (n + 1)).2))), (3, .int (nI ((mtF σ (6 * r) q (n + 1)).1))), (0, .ref (ad 0)), (1, .int (nI r)), (2, .int (nI q))]) hx hb dX5_meets_115 hl (k := 2) rfl (by rw [show (Int32.ofInt 1) = nI 1 by decide, nI_add]) (by decide) rfl (fun ls hl => ?_)
          refine lv_goto (tgt := 11) hx hb dX5_meets_118 (by decide) ?_
          exact ih _ _ _ (by omega) ⟨hW, lv_sub hl [0, 3, 4, 5, 6, 7] rfl⟩
        · skip
          refine lv_iload_n hx hb dX5_meets_96 rfl (lv_at hl 4 rfl) ?_
          refine lv_iconst (v := nI 4294967295) hx hb dX5_meets_97 (by decide) ?_
          refine nv_icmp_eq (u := (mtF σ (6 * r) q n).1) (v := 4294967295) (tgt := 108) hx hb dX5_meets_98 (by decide) (by omega) (by omega) (fun c_9 => ?_) (fun c_9 => ?_)
          · skip
            refine lv_iload hx hb dX5_meets_108 (lv_at hl 2 rfl) ?_
            refine lv_istore_n (lv' := [(3, .int (nI (6 * r + n))), (7, .int (nI (mtg σ q (6 * r + n)))), (6, .int (nI (σ 24 0 + (dist q (σ 4 (6 * r + n))) + 1))), (5, .int (nI (6 * r + n))), (4, .int (nI ((mtF σ (6 * r) q n).2))), (0, .ref (ad 0)), (1, .int (nI r)), (2, .int (nI q))]) hx hb dX5_meets_110 rfl hl (by decide) rfl (fun ls hl => ?_)
            refine lv_iload hx hb dX5_meets_111 (lv_at hl 1 rfl) ?_
            refine lv_istore (lv' := [(4, .int (nI (mtg σ q (6 * r + n)))), (3, .int (nI (6 * r + n))), (7, .int (nI (mtg σ q (6 * r + n)))), (6, .int (nI (σ 24 0 + (dist q (σ 4 (6 * r + n))) + 1))), (5, .int (nI (6 * r + n))), (0, .ref (ad 0)), (1, .int (nI r)), (2, .int (nI q))]) hx hb dX5_meets_113 hl (by decide) rfl (fun ls hl => ?_)
            have hstep : mtF σ (6 * r) q (n + 1) = (6 * r + n, mtg σ q (6 * r + n)) := by
              show (if _ then _ else _) = _
              first | (rw [if_pos ⟨by omega, by show σ 24 0 + dist q (σ 4 (6 * r + n)) + 1 ≤ _; omega, by first | exact Or.inl (by omega) | exact Or.inr (by omega)⟩]; done) | (rw [if_neg (fun z => by obtain ⟨z1, z2, z3⟩ := z; have z2 : σ 24 0 + dist q (σ 4 (6 * r + n)) + 1 ≤ σ 6 (6 * r + n) := z2; omega)]; done)
            have hl : lv_has ls 8 [(4, .int (nI (mtg σ q (6 * r + n)))), (3, .int (nI (6 * r + n))), (7, .int (nI (mtg σ q (6 * r + n)))), (6, .int (nI (σ 24 0 + (dist q (σ 4 (6 * r + n))) + 1))), (5, .int (nI (6 * r + n))), (0, .ref (ad 0)), (1, .int (nI r)), (2, .int (nI q))] := hl
            have hl : lv_has ls 8 [(4, .int (nI ((mtF σ (6 * r) q (n + 1)).2))), (3, .int (nI ((mtF σ (6 * r) q (n + 1)).1))), (7, .int (nI (mtg σ q (6 * r + n)))), (6, .int (nI (σ 24 0 + (dist q (σ 4 (6 * r + n))) + 1))), (5, .int (nI (6 * r + n))), (0, .ref (ad 0)), (1, .int (nI r)), (2, .int (nI q))] := by rw [hstep]; exact hl
            refine lv_iinc (v := nI (6 * r + n + 1)) (lv' := [(5, .int (nI (6 * r + n + 1))), (4, .int (nI ((mtF σ (6 * r) q (n + 1)).2))), (3, .int (nI ((mtF σ (6 * r) q (n + 1)).1))), (7, .int (nI (mtg σ q (6 * r + n)))), (6, .int (nI (σ 24 0 + (dist q (σ 4 (6 * r + n))) + 1))), (0, .ref (ad 0)), (1, .int (nI r)), (2, .int (nI q))]) hx hb dX5_meets_115 hl (k := 4) rfl (by rw [show (Int32.ofInt 1) = nI 1 by decide, nI_add]) (by decide) rfl (fun ls hl => ?_)
            refine lv_goto (tgt := 11) hx hb dX5_meets_118 (by decide) ?_
            exact ih _ _ _ (by omega) ⟨hW, lv_sub hl [0, 1, 2, 5, 6, 7] rfl⟩
          · skip
            refine lv_iload hx hb dX5_meets_101 (lv_at hl 0 rfl) ?_
            refine lv_iload hx hb dX5_meets_103 (lv_at hl 3 rfl) ?_
            refine nv_icmp_ge (u := mtg σ q (6 * r + n)) (v := (mtF σ (6 * r) q n).2) (tgt := 115) hx hb dX5_meets_105 (by decide) (by omega) (by omega) (fun c_10 => ?_) (fun c_10 => ?_)
            · skip
              have hstep : mtF σ (6 * r) q (n + 1) = ((mtF σ (6 * r) q n).1, (mtF σ (6 * r) q n).2) := by
                show (if _ then _ else _) = _
                first | (rw [if_pos ⟨by omega, by show σ 24 0 + dist q (σ 4 (6 * r + n)) + 1 ≤ _; omega, by first | exact Or.inl (by omega) | exact Or.inr (by omega)⟩]; done) | (rw [if_neg (fun z => by obtain ⟨z1, z2, z3⟩ := z; have z2 : σ 24 0 + dist q (σ 4 (6 * r + n)) + 1 ≤ σ 6 (6 * r + n) := z2; omega)]; done)
              have hl : lv_has ls 8 [(7, .int (nI (mtg σ q (6 * r + n)))), (6, .int (nI (σ 24 0 + (dist q (σ 4 (6 * r + n))) + 1))), (5, .int (nI (6 * r + n))), (4, .int (nI ((mtF σ (6 * r) q n).2))), (3, .int (nI ((mtF σ (6 * r) q n).1))), (0, .ref (ad 0)), (1, .int (nI r)), (2, .int (nI q))] := hl
              have hl : lv_has ls 8 [(7, .int (nI (mtg σ q (6 * r + n)))), (6, .int (nI (σ 24 0 + (dist q (σ 4 (6 * r + n))) + 1))), (5, .int (nI (6 * r + n))), (4, .int (nI ((mtF σ (6 * r) q (n + 1)).2))), (3, .int (nI ((mtF σ (6 * r) q (n + 1)).1))), (0, .ref (ad 0)), (1, .int (nI r)), (2, .int (nI q))] := by rw [hstep]; exact hl
              refine lv_iinc (v := nI (6 * r + n + 1)) (lv' := [(5, .int (nI (6 * r + n + 1))), (7, .int (nI (mtg σ q (6 * r + n)))), (6, .int (nI (σ 24 0 + (dist q (σ 4 (6 * r + n))) + 1))), (4, .int (nI ((mtF σ (6 * r) q (n + 1)).2))), (3, .int (nI ((mtF σ (6 * r) q (n + 1)).1))), (0, .ref (ad 0)), (1, .int (nI r)), (2, .int (nI q))]) hx hb dX5_meets_115 hl (k := 2) rfl (by rw [show (Int32.ofInt 1) = nI 1 by decide, nI_add]) (by decide) rfl (fun ls hl => ?_)
              refine lv_goto (tgt := 11) hx hb dX5_meets_118 (by decide) ?_
              exact ih _ _ _ (by omega) ⟨hW, lv_sub hl [0, 3, 4, 5, 6, 7] rfl⟩
            · skip
              refine lv_iload hx hb dX5_meets_108 (lv_at hl 2 rfl) ?_
              refine lv_istore_n (lv' := [(3, .int (nI (6 * r + n))), (7, .int (nI (mtg σ q (6 * r + n)))), (6, .int (nI (σ 24 0 + (dist q (σ 4 (6 * r + n))) + 1))), (5, .int (nI (6 * r + n))), (4, .int (nI ((mtF σ (6 * r) q n).2))), (0, .ref (ad 0)), (1, .int (nI r)), (2, .int (nI q))]) hx hb dX5_meets_110 rfl hl (by decide) rfl (fun ls hl => ?_)
              refine lv_iload hx hb dX5_meets_111 (lv_at hl 1 rfl) ?_
              refine lv_istore (lv' := [(4, .int (nI (mtg σ q (6 * r + n)))), (3, .int (nI (6 * r + n))), (7, .int (nI (mtg σ q (6 * r + n)))), (6, .int (nI (σ 24 0 + (dist q (σ 4 (6 * r + n))) + 1))), (5, .int (nI (6 * r + n))), (0, .ref (ad 0)), (1, .int (nI r)), (2, .int (nI q))]) hx hb dX5_meets_113 hl (by decide) rfl (fun ls hl => ?_)
              have hstep : mtF σ (6 * r) q (n + 1) = (6 * r + n, mtg σ q (6 * r + n)) := by
                show (if _ then _ else _) = _
                first | (rw [if_pos ⟨by omega, by show σ 24 0 + dist q (σ 4 (6 * r + n)) + 1 ≤ _; omega, by first | exact Or.inl (by omega) | exact Or.inr (by omega)⟩]; done) | (rw [if_neg (fun z => by obtain ⟨z1, z2, z3⟩ := z; have z2 : σ 24 0 + dist q (σ 4 (6 * r + n)) + 1 ≤ σ 6 (6 * r + n) := z2; omega)]; done)
              have hl : lv_has ls 8 [(4, .int (nI (mtg σ q (6 * r + n)))), (3, .int (nI (6 * r + n))), (7, .int (nI (mtg σ q (6 * r + n)))), (6, .int (nI (σ 24 0 + (dist q (σ 4 (6 * r + n))) + 1))), (5, .int (nI (6 * r + n))), (0, .ref (ad 0)), (1, .int (nI r)), (2, .int (nI q))] := hl
              have hl : lv_has ls 8 [(4, .int (nI ((mtF σ (6 * r) q (n + 1)).2))), (3, .int (nI ((mtF σ (6 * r) q (n + 1)).1))), (7, .int (nI (mtg σ q (6 * r + n)))), (6, .int (nI (σ 24 0 + (dist q (σ 4 (6 * r + n))) + 1))), (5, .int (nI (6 * r + n))), (0, .ref (ad 0)), (1, .int (nI r)), (2, .int (nI q))] := by rw [hstep]; exact hl
              refine lv_iinc (v := nI (6 * r + n + 1)) (lv' := [(5, .int (nI (6 * r + n + 1))), (4, .int (nI ((mtF σ (6 * r) q (n + 1)).2))), (3, .int (nI ((mtF σ (6 * r) q (n + 1)).1))), (7, .int (nI (mtg σ q (6 * r + n)))), (6, .int (nI (σ 24 0 + (dist q (σ 4 (6 * r + n))) + 1))), (0, .ref (ad 0)), (1, .int (nI r)), (2, .int (nI q))]) hx hb dX5_meets_115 hl (k := 4) rfl (by rw [show (Int32.ofInt 1) = nI 1 by decide, nI_add]) (by decide) rfl (fun ls hl => ?_)
              refine lv_goto (tgt := 11) hx hb dX5_meets_118 (by decide) ?_
              exact ih _ _ _ (by omega) ⟨hW, lv_sub hl [0, 1, 2, 5, 6, 7] rfl⟩

set_option maxHeartbeats 4000000 in
set_option maxRecDepth 100000 in
theorem c5_goesOn (l : Launch) (G : mG) (ad : Nat → Nat) (σ : Sg) (i : Nat) (q : Nat) (hi : i < 40) (hq : q < 10) (hm : σ 18 i < 180) (hp : lpS σ i < σ 18 i) (h17 : ∀ k, k < 8000 → σ 17 k < 65536) (h20 : σ 20 0 < 40) (h15 : σ 15 i ≤ 6) (h13 : σ 13 i ≤ 9) (hd : σ 24 0 ≤ 1000) : cRv l yX5_goesOn wsX5_goesOn 2 G ad σ [.int (nI i), .int (nI q)] (fun σ9 => σ9 = go σ i q) := by
  intro M sz hR
  refine m_start cX5_goesOn 3 none (by decide) rfl (Nat.le_of_ble_eq_true rfl) ?_
  intro p e s m below meth c ls hx hb hr hml hown hlk hnm hts hK hsz hE hW hl
  have hA := mA_A (M := M) hsz
  have hl : lv_has ls 3 [(0, .ref (ad 0)), (1, .int (nI i)), (2, .int (nI q))] := hl
  have hW := rW_start hR hW
  have hinX5 : ∀ w ∈ u_ws RX5 TX5 26, w ∈ wsX5_goesOn := (fun _ h => List.mem_cons_of_mem _ (List.mem_append_right _ h))
  refine lv_aload_n hx hb dX5_goesOn_0 rfl (lv_at hl 0 rfl) ?_
  refine rr_geta hx hb hts hinX5 hown hK hW 15 (by decide) rfl rfl (hts (.fieldLink RX5 49 "SeaPostModel" "sent" "[I") (by decide +kernel)) dX5_goesOn_1 ?_
  refine lv_iload_n hx hb dX5_goesOn_4 rfl (lv_at hl 1 rfl) ?_
  refine rr_ald (j := i) hx hb hK hW 15 rfl rfl (show i < 40 by omega) dX5_goesOn_5 ?_
  refine lv_bipush (v := nI 6) hx hb dX5_goesOn_6 (by decide) ?_
  refine nv_icmp_ne (u := σ 15 i) (v := 6) (tgt := 17) hx hb dX5_goesOn_8 (by decide) (by omega) (by omega) (fun c_1 => ?_) (fun c_1 => ?_)
  · skip
    refine lv_aload_n hx hb dX5_goesOn_17 rfl (lv_at hl 0 rfl) ?_
    refine lv_iload_n hx hb dX5_goesOn_18 rfl (lv_at hl 1 rfl) ?_
    refine rk_Vv (As := [.int (nI i)]) (nL := 3) ⟨hx, hb, hml, hown, hts⟩ (c5_strikesOut l G ad σ i hi (by omega) hp h17) (cwV 1 hts gX5_goesOn_X5_strikesOut rfl rfl rfl (by decide +kernel) ⟨(Nat.le_of_ble_eq_true rfl), (Nat.le_of_ble_eq_true rfl)⟩) hK hE hW hA rfl hl.1 rfl (Nat.le_of_ble_eq_true rfl) dX5_goesOn_19 (Nat.zero_le _) (Nat.zero_le _) (fun σ9 H locs hp_2 hW => ?_)
    obtain ⟨σ_3, eσ_3⟩ : ∃ z : Sg, z = σ9 := ⟨_, rfl⟩
    rw [← eσ_3] at hW
    rw [hp_2] at eσ_3
    clear hp_2
    refine lv_aload_n hx hb dX5_goesOn_22 rfl (lv_at hl 0 rfl) ?_
    refine lv_iload_n hx hb dX5_goesOn_23 rfl (lv_at hl 1 rfl) ?_
    refine lv_bipush (v := nI 62) hx hb dX5_goesOn_24 (by decide) ?_
    refine rk_Vv (As := [.int (nI i), .int (nI 62)]) (nL := 3) ⟨hx, hb, hml, hown, hts⟩ (c5_writes l G ad σ_3 i 62 (by omega) (by have h18a := shS_18 (σ := σ) (i := i); subst eσ_3; first | omega | (rw [wr_18]; omega))) (cwV 2 hts gX5_goesOn_X5_writes rfl rfl rfl (by decide +kernel) ⟨(Nat.le_of_ble_eq_true rfl), (Nat.le_of_ble_eq_true rfl)⟩) hK hE hW hA rfl hl.1 rfl (Nat.le_of_ble_eq_true rfl) dX5_goesOn_26 (Nat.zero_le _) (Nat.zero_le _) (fun σ9 H locs hp_4 hW => ?_)
    obtain ⟨σ_5, eσ_5⟩ : ∃ z : Sg, z = σ9 := ⟨_, rfl⟩
    rw [← eσ_5] at hW
    rw [hp_4] at eσ_5
    clear hp_4
    refine lv_aload_n hx hb dX5_goesOn_29 rfl (lv_at hl 0 rfl) ?_
    refine lv_iload_n hx hb dX5_goesOn_30 rfl (lv_at hl 1 rfl) ?_
    refine lv_bipush (v := nI 65) hx hb dX5_goesOn_31 (by decide) ?_
    refine lv_iload_n hx hb dX5_goesOn_33 rfl (lv_at hl 2 rfl) ?_
    refine lv_iadd hx hb dX5_goesOn_34 (lv_tope (nI_add 65 q) ?_)
    refine rk_Vv (As := [.int (nI i), .int (nI (65 + q))]) (nL := 3) ⟨hx, hb, hml, hown, hts⟩ (c5_writes l G ad σ_5 i (65 + q) (by omega) (by have h18a := shS_18 (σ := σ) (i := i); subst eσ_3; subst eσ_5; first | omega | (rw [wr_18]; omega))) (cwV 2 hts gX5_goesOn_X5_writes rfl rfl rfl (by decide +kernel) ⟨(Nat.le_of_ble_eq_true rfl), (Nat.le_of_ble_eq_true rfl)⟩) hK hE hW hA rfl hl.1 rfl (Nat.le_of_ble_eq_true rfl) dX5_goesOn_35 (Nat.zero_le _) (Nat.zero_le _) (fun σ9 H locs hp_6 hW => ?_)
    obtain ⟨σ_7, eσ_7⟩ : ∃ z : Sg, z = σ9 := ⟨_, rfl⟩
    rw [← eσ_7] at hW
    rw [hp_6] at eσ_7
    clear hp_6
    refine lv_aload_n hx hb dX5_goesOn_38 rfl (lv_at hl 0 rfl) ?_
    refine rr_geta hx hb hts hinX5 hown hK hW 14 (by decide) rfl rfl (hts (.fieldLink RX5 46 "SeaPostModel" "comesOn" "[I") (by decide +kernel)) dX5_goesOn_39 ?_
    refine lv_iload_n hx hb dX5_goesOn_42 rfl (lv_at hl 1 rfl) ?_
    refine lv_aload_n hx hb dX5_goesOn_43 rfl (lv_at hl 0 rfl) ?_
    refine rr_geti hx hb hts hinX5 hown hK hW 24 (by decide) rfl rfl (hts (.fieldLink RX5 92 "SeaPostModel" "today" "I") (by decide +kernel)) dX5_goesOn_44 ?_
    refine lv_tope (congrArg nI (show σ_7 24 0 = σ 24 0 by rw [eσ_7, wr_f (by decide), eσ_5, wr_f (by decide), eσ_3, shS_f (by decide)])) ?_
    refine lv_aload_n hx hb dX5_goesOn_47 rfl (lv_at hl 0 rfl) ?_
    refine rr_geta hx hb hts hinX5 hown hK hW 13 (by decide) rfl rfl (hts (.fieldLink RX5 43 "SeaPostModel" "portOf" "[I") (by decide +kernel)) dX5_goesOn_48 ?_
    refine lv_iload_n hx hb dX5_goesOn_51 rfl (lv_at hl 1 rfl) ?_
    refine rr_ald (j := i) hx hb hK hW 13 rfl rfl (show i < 40 by omega) dX5_goesOn_52 ?_
    refine lv_tope (congrArg nI (show σ_7 13 i = σ 13 i by rw [eσ_7, wr_f (by decide), eσ_5, wr_f (by decide), eσ_3, shS_f (by decide)])) ?_
    refine lv_iload_n hx hb dX5_goesOn_53 rfl (lv_at hl 2 rfl) ?_
    refine rk_S (As := [.int (nI (σ 13 i)), .int (nI q)]) (nL := 3) ⟨hx, hb, hml, hown, hts⟩ (c5_apart l (σ 13 i) q (by omega) (by omega)) (va_cwS 2 hts gX5_goesOn_X5_apart rfl rfl rfl (by decide +kernel) ⟨(Nat.le_of_ble_eq_true rfl), (Nat.le_of_ble_eq_true rfl)⟩) hK hE hW hA rfl hl.1 rfl (Nat.le_of_ble_eq_true rfl) dX5_goesOn_54 (Nat.zero_le _) (Nat.zero_le _) (fun H locs hW => ?_)
    have hds : dist (σ 13 i) q ≤ σ 13 i + q := dist_le
    refine lv_iadd hx hb dX5_goesOn_57 (lv_tope (nI_add (σ 24 0) (dist (σ 13 i) q)) ?_)
    refine lv_iconst (v := nI 1) hx hb dX5_goesOn_58 (by decide) ?_
    refine lv_iadd hx hb dX5_goesOn_59 (lv_tope (nI_add (σ 24 0 + (dist (σ 13 i) q)) 1) ?_)
    refine rr_ast (j := i) (v := σ 24 0 + (dist (σ 13 i) q) + 1) hx hb hK hW 14 rfl rfl (show i < 40 by omega) dX5_goesOn_60 (fun H locs hW => ?_)
    obtain ⟨σ_8, eσ_8⟩ : ∃ z : Sg, z = st σ_7 14 i (σ 24 0 + (dist (σ 13 i) q) + 1) := ⟨_, rfl⟩
    rw [← eσ_8] at hW
    refine lv_aload_n hx hb dX5_goesOn_61 rfl (lv_at hl 0 rfl) ?_
    refine rr_geta hx hb hts hinX5 hown hK hW 13 (by decide) rfl rfl (hts (.fieldLink RX5 43 "SeaPostModel" "portOf" "[I") (by decide +kernel)) dX5_goesOn_62 ?_
    refine lv_iload_n hx hb dX5_goesOn_65 rfl (lv_at hl 1 rfl) ?_
    refine lv_iload_n hx hb dX5_goesOn_66 rfl (lv_at hl 2 rfl) ?_
    refine rr_ast (j := i) (v := q) hx hb hK hW 13 rfl rfl (show i < 40 by omega) dX5_goesOn_67 (fun H locs hW => ?_)
    obtain ⟨σ_9, eσ_9⟩ : ∃ z : Sg, z = st σ_8 13 i q := ⟨_, rfl⟩
    rw [← eσ_9] at hW
    refine lv_aload_n hx hb dX5_goesOn_68 rfl (lv_at hl 0 rfl) ?_
    refine rr_geta hx hb hts hinX5 hown hK hW 12 (by decide) rfl rfl (hts (.fieldLink RX5 40 "SeaPostModel" "stateOf" "[I") (by decide +kernel)) dX5_goesOn_69 ?_
    refine lv_iload_n hx hb dX5_goesOn_72 rfl (lv_at hl 1 rfl) ?_
    refine lv_iconst (v := nI 3) hx hb dX5_goesOn_73 (by decide) ?_
    refine rr_ast (j := i) (v := 3) hx hb hK hW 12 rfl rfl (show i < 40 by omega) dX5_goesOn_74 (fun H locs hW => ?_)
    obtain ⟨σ_10, eσ_10⟩ : ∃ z : Sg, z = st σ_9 12 i 3 := ⟨_, rfl⟩
    rw [← eσ_10] at hW
    refine lv_aload_n hx hb dX5_goesOn_75 rfl (lv_at hl 0 rfl) ?_
    refine rr_geta hx hb hts hinX5 hown hK hW 15 (by decide) rfl rfl (hts (.fieldLink RX5 49 "SeaPostModel" "sent" "[I") (by decide +kernel)) dX5_goesOn_76 ?_
    refine lv_iload_n hx hb dX5_goesOn_79 rfl (lv_at hl 1 rfl) ?_
    refine lv_dup2_11 hx hb dX5_goesOn_80 rfl rfl ?_
    refine rr_ald (j := i) hx hb hK hW 15 rfl rfl (show i < 40 by omega) dX5_goesOn_81 ?_
    refine lv_tope (congrArg nI (show σ_10 15 i = σ 15 i by rw [eσ_10, st_f (by decide), eσ_9, st_f (by decide), eσ_8, st_f (by decide), eσ_7, wr_f (by decide), eσ_5, wr_f (by decide), eσ_3, shS_f (by decide)])) ?_
    refine lv_iconst (v := nI 1) hx hb dX5_goesOn_82 (by decide) ?_
    refine lv_iadd hx hb dX5_goesOn_83 (lv_tope (nI_add (σ 15 i) 1) ?_)
    refine rr_ast (j := i) (v := σ 15 i + 1) hx hb hK hW 15 rfl rfl (show i < 40 by omega) dX5_goesOn_84 (fun H locs hW => ?_)
    obtain ⟨σ_11, eσ_11⟩ : ∃ z : Sg, z = st σ_10 15 i (σ 15 i + 1) := ⟨_, rfl⟩
    rw [← eσ_11] at hW
    exact rr_vret hx hb hr hlk (Nat.le_refl 0) (Nat.le_refl 0) hW (by subst eσ_3; subst eσ_5; subst eσ_7; subst eσ_8; subst eσ_9; subst eσ_10; subst eσ_11; unfold go; first | (rw [if_pos (by omega)]; done) | (rw [if_neg (by omega)]; done)) dX5_goesOn_85
  · skip
    refine lv_aload_n hx hb dX5_goesOn_11 rfl (lv_at hl 0 rfl) ?_
    refine lv_iload_n hx hb dX5_goesOn_12 rfl (lv_at hl 1 rfl) ?_
    refine rk_Vv (As := [.int (nI i)]) (nL := 3) ⟨hx, hb, hml, hown, hts⟩ (c5_dies l G ad σ i hi (by omega) (by omega)) (cwV 1 hts gX5_goesOn_X5_dies rfl rfl rfl (by decide +kernel) ⟨(Nat.le_of_ble_eq_true rfl), (Nat.le_of_ble_eq_true rfl)⟩) hK hE hW hA rfl hl.1 rfl (Nat.le_of_ble_eq_true rfl) dX5_goesOn_13 (Nat.zero_le _) (Nat.zero_le _) (fun σ9 H locs hp_12 hW => ?_)
    obtain ⟨σ_13, eσ_13⟩ : ∃ z : Sg, z = σ9 := ⟨_, rfl⟩
    rw [← eσ_13] at hW
    rw [hp_12] at eσ_13
    clear hp_12
    exact rr_vret hx hb hr hlk (Nat.le_refl 0) (Nat.le_refl 0) hW (by subst eσ_13; unfold go; first | (rw [if_pos (by omega)]; done) | (rw [if_neg (by omega)]; done)) dX5_goesOn_16
