/-! THE CLASS: marks go in ahead of others; a letter is held, sent, opened; calls are added (mine; the rows are laid by wip/whole/gen) -/
/-- the marks behind place j are shifted -/
def shL (ς : Sg) (i j : Nat) : Sg := fun g k => if g = 17 ∧ 200 * i + j < k ∧ k ≤ 200 * i + ς 18 i then ς 17 (k - 1) else ς g k
theorem shL_f {ς : Sg} {i j g k : Nat} (h : g ≠ 17) : shL ς i j g k = ς g k := if_neg (fun z => h z.1)
theorem shL_r {ς : Sg} {i j k : Nat} (h : k ≤ j) : shL ς i j 17 (200 * i + k) = ς 17 (200 * i + k) := if_neg (fun z => by omega)
theorem shL_0 {ς : Sg} {i : Nat} : shL ς i (ς 18 i) = ς := by
  funext g k
  exact if_neg (fun z => by omega)
theorem shL_st {ς : Sg} {i j : Nat} (h1 : 0 < j) (h2 : j ≤ ς 18 i) : st (shL ς i j) 17 (200 * i + j) (shL ς i j 17 (200 * i + (j - 1))) = shL ς i (j - 1) := by
  funext g k
  rw [shL_r (by omega)]
  by_cases a : g = 17
  · subst a
    by_cases b : k = 200 * i + j
    · subst b
      rw [st_s]
      exact ((show shL ς i (j - 1) 17 (200 * i + j) = ς 17 (200 * i + j - 1) from if_pos ⟨rfl, by omega, by omega⟩).trans (congrArg (ς 17) (by omega))).symm
    · rw [st_i b]
      by_cases c : 200 * i + j < k ∧ k ≤ 200 * i + ς 18 i
      · exact (if_pos ⟨rfl, c.1, c.2⟩).trans (if_pos ⟨rfl, by omega, c.2⟩).symm
      · exact (if_neg (fun z => c z.2)).trans (if_neg (fun z => c ⟨by omega, z.2.2⟩)).symm
  · rw [st_f a, shL_f a, shL_f a]
theorem shL_end {ς : Sg} {i : Nat} (h : lpS ς i < ς 18 i) : st (st (shL ς i (lpS ς i)) 17 (200 * i + lpS ς i) 45) 18 i (ς 18 i + 1) = shS ς i := by
  funext g k
  unfold shS
  by_cases a : g = 18 ∧ k = i
  · obtain ⟨rfl, rfl⟩ := a
    rw [st_s, if_neg (fun z => absurd z.1 (by decide)), if_neg (fun z => absurd z.1 (by decide)), if_pos ⟨rfl, rfl⟩]
  · by_cases b : g = 17
    · subst b
      rw [st_f (by decide)]
      by_cases c : k = 200 * i + lpS ς i
      · subst c
        rw [st_s, if_neg (fun z => by omega), if_pos ⟨rfl, rfl⟩]
      · rw [st_i c]
        by_cases d : 200 * i + lpS ς i < k ∧ k ≤ 200 * i + ς 18 i
        · rw [if_pos ⟨rfl, d⟩]; exact if_pos ⟨rfl, d⟩
        · rw [if_neg (fun z => d z.2), if_neg (fun z => c z.2), if_neg (fun z => absurd z.1 (by decide))]; exact if_neg (fun z => d z.2)
    · rw [if_neg (fun z => b z.1), if_neg (fun z => b z.1), if_neg a]
      by_cases c : g = 18
      · subst c; rw [st_i (fun z => a ⟨rfl, z⟩), st_f (by decide), shL_f (by decide)]
      · rw [st_f c, st_f b, shL_f b]
theorem lpS_st {ς : Sg} {i f j v : Nat} (h : f ≠ 17) (h8 : f ≠ 18) : lpS (st ς f j v) i = lpS ς i := by
  have key : ∀ n, lpF (st ς f j v) i n = lpF ς i n := by
    intro n
    induction n with
    | zero => rfl
    | succ n ih =>
      show (if isPM (st ς f j v 17 (200 * i + n)) then n else lpF (st ς f j v) i n) = _
      rw [st_f (Ne.symm h), ih]
      rfl
  unfold lpS
  rw [st_f (Ne.symm h8)]
  exact key _
theorem st_co {ς : Sg} {f g i j v w : Nat} (h : f ≠ g) : st (st ς f i v) g j w = st (st ς g j w) f i v := by
  funext a b
  by_cases p : a = g ∧ b = j
  · obtain ⟨rfl, rfl⟩ := p
    rw [st_s, st_f (Ne.symm h), st_s]
  · by_cases q : a = f ∧ b = i
    · obtain ⟨rfl, rfl⟩ := q
      rw [st_f h, st_s, st_s]
    · unfold st
      rw [if_neg p, if_neg q, if_neg q, if_neg p]
theorem shS_st {ς : Sg} {i f j v : Nat} (h : f ≠ 17) (h8 : f ≠ 18) : shS (st ς f j v) i = st (shS ς i) f j v := by
  funext g k
  unfold shS
  rw [lpS_st h h8, st_f (Ne.symm h8)]
  by_cases a : g = f ∧ k = j
  · obtain ⟨rfl, rfl⟩ := a
    rw [st_s, if_neg (fun z => h z.1), if_neg (fun z => h z.1), if_neg (fun z => h8 z.1), st_s]
  · have e : ∀ x, st ς f j v 17 x = ς 17 x := fun x => st_f (Ne.symm h)
    have e2 : st ς f j v g k = ς g k := if_neg a
    rw [e, e2]
    exact (if_neg a).symm
theorem wr_st {ς : Sg} {i c f j v : Nat} (h : f ≠ 17) (h8 : f ≠ 18) : wr (st ς f j v) i c = st (wr ς i c) f j v := by
  unfold wr
  rw [st_f (Ne.symm h8)]
  rw [st_co (Ne.symm (Ne.symm h)), st_co (f := f) (g := 18) h8]
/-- a letter is sent on -/
def sdC (ς : Sg) (i q : Nat) : Sg := st (st (st (st (wr (wr (shS ς i) i 62) i (65 + q)) 14 i (ς 24 0 + dist (ς 13 i) q + 1)) 13 i q) 12 i 3) 15 i (ς 15 i + 1)
theorem sdC_eq {ς : Sg} {i q a b : Nat} : wr (wr (shS (st (st (st (st ς 14 i a) 13 i q) 12 i 3) 15 i b) i) i 62) i (65 + q) = st (st (st (st (wr (wr (shS ς i) i 62) i (65 + q)) 14 i a) 13 i q) 12 i 3) 15 i b := by
  rw [shS_st (by decide) (by decide), shS_st (by decide) (by decide), shS_st (by decide) (by decide), shS_st (by decide) (by decide)]
  rw [wr_st (by decide) (by decide), wr_st (by decide) (by decide), wr_st (by decide) (by decide), wr_st (by decide) (by decide)]
  rw [wr_st (by decide) (by decide), wr_st (by decide) (by decide), wr_st (by decide) (by decide), wr_st (by decide) (by decide)]
def opC (ς : Sg) (i : Nat) : Sg := if ς 10 i = 4294967295 then wr (st ς 12 i 7) i 42 else wr (wr (st (st ς 12 i 6) 13 i (ς 10 i)) i 60) i (65 + ς 10 i)
def acC (ς : Sg) (r q a d : Nat) : Sg := st (st (st (st ς 4 (6 * r + ς 3 r) q) 5 (6 * r + ς 3 r) a) 6 (6 * r + ς 3 r) d) 3 r (ς 3 r + 1)

set_option maxHeartbeats 4000000 in
set_option maxRecDepth 100000 in
theorem uInsert (l : Launch) (G : mG) (N : Mem) (Γ : Adr) (ς : Sg) (i x : Nat) (hi : i < ς 33 1) (h18 : ς 18 i < 128) (hx0 : x = lpS ς i) (hx1 : x < ς 18 i) (hs : ∀ j, j < 128 → ς 17 (200 * i + j) < 65536) : cUv l yX0_insert wsX0_insert 0 0 0 G N Γ ς [.ref (Γ 10 i), .int (nI x), .int (nI 45)] (shS ς i) := by
  intro M sz hR
  refine m_start cX0_insert 4 none (by decide) rfl (Nat.le_of_ble_eq_true rfl) ?_
  intro p e s m below meth c ls hx hb hr hml hown hlk hnm hts hK hsz hE hW hl
  have hA := mA_A (M := M) hsz
  have hW : cW G N Γ ς (mA M sz) s.heap s.heap [] := ⟨M, hW, hR⟩
  have hl : lv_has ls 4 [(0, .ref (Γ 10 i)), (1, .int (nI x)), (2, .int (nI 45))] := hl
  have hinX0 : ∀ w ∈ u_ws RX0 TX0 2, w ∈ wsX0_insert := (fun _ h => List.mem_cons_of_mem _ (List.mem_append_right _ h))
  refine lv_iload_n hx hb dX0_insert_0 rfl (lv_at hl 1 rfl) ?_
  refine nv_if_lt (tgt := 22) hx hb dX0_insert_1 (by decide) (by omega) (fun c_1 => ?_) (fun c_1 => ?_)
  · skip
    exact cr_vret hx hb hr hlk (Nat.le_of_ble_eq_true rfl) (Nat.le_of_ble_eq_true rfl) hW (by exfalso; omega) dX0_insert_22
  · skip
    refine lv_iload_n hx hb dX0_insert_4 rfl (lv_at hl 1 rfl) ?_
    refine lv_aload_n hx hb dX0_insert_5 rfl (lv_at hl 0 rfl) ?_
    refine cr_get hx hb hts hinX0 hown hK hW (fun M hM => hM.o10 (i := i) hi) (by rfl) 1 (by decide) (hts (.fieldLink RX0 15 "SeaPost$Cover" "length" "I") (by decide +kernel)) (fun _ h => h) rfl dX0_insert_6 ?_
    refine nv_icmp_gt (u := x) (v := ς 18 i) (tgt := 22) hx hb dX0_insert_9 (by decide) (by omega) (by omega) (fun c_2 => ?_) (fun c_2 => ?_)
    · skip
      exact cr_vret hx hb hr hlk (Nat.le_of_ble_eq_true rfl) (Nat.le_of_ble_eq_true rfl) hW (by exfalso; omega) dX0_insert_22
    · skip
      refine lv_aload_n hx hb dX0_insert_12 rfl (lv_at hl 0 rfl) ?_
      refine cr_get hx hb hts hinX0 hown hK hW (fun M hM => hM.o10 (i := i) hi) (by rfl) 1 (by decide) (hts (.fieldLink RX0 15 "SeaPost$Cover" "length" "I") (by decide +kernel)) (fun _ h => h) rfl dX0_insert_13 ?_
      refine lv_sipush (v := nI 128) hx hb dX0_insert_16 (by decide) ?_
      refine nv_icmp_lt (u := ς 18 i) (v := 128) (tgt := 23) hx hb dX0_insert_19 (by decide) (by omega) (by omega) (fun c_3 => ?_) (fun c_3 => ?_)
      · skip
        refine lv_aload_n hx hb dX0_insert_23 rfl (lv_at hl 0 rfl) ?_
        refine cr_get hx hb hts hinX0 hown hK hW (fun M hM => hM.o10 (i := i) hi) (by rfl) 1 (by decide) (hts (.fieldLink RX0 15 "SeaPost$Cover" "length" "I") (by decide +kernel)) (fun _ h => h) rfl dX0_insert_24 ?_
        refine lv_istore_n (lv' := [(3, .int (nI (ς 18 i))), (0, .ref (Γ 10 i)), (1, .int (nI x)), (2, .int (nI 45))]) hx hb dX0_insert_27 rfl hl (by decide) rfl (fun ls hl => ?_)
        refine m_loopD (ς 18 i) (fun j H locs ls => x ≤ j ∧ j ≤ ς 18 i ∧ cW G N Γ (shL ς i j) (mA M sz) s.heap H locs ∧ lv_has ls 4 [(3, .int (nI j)), (0, .ref (Γ 10 i)), (1, .int (nI x)), (2, .int (nI 45))]) ⟨by omega, Nat.le_refl _, by rw [shL_0]; exact hW, lv_sub hl [0, 1, 2, 3] rfl⟩ (fun j H locs ls hI ih => ?_)
        obtain ⟨hj1, hj2, hW, hl⟩ := hI
        have ih : ∀ (H' : Heap) (locs' : List Loc) (ls' : Array Slot) (n' : Nat), j = n' + 1 → _ := ih
        obtain ⟨σ_4, eσ_4⟩ : ∃ z : Sg, z = shL ς i j := ⟨_, rfl⟩
        rw [← eσ_4] at hW
        have hb17 : ∀ k, k < j → σ_4 17 (200 * i + k) < 65536 := fun k hk => by rw [eσ_4, shL_r (by omega)]; exact hs k (by omega)
        refine lv_iload_n hx hb dX0_insert_28 rfl (lv_at hl 0 rfl) ?_
        refine lv_iload_n hx hb dX0_insert_29 rfl (lv_at hl 2 rfl) ?_
        refine nv_icmp_le (u := j) (v := x) (tgt := 53) hx hb dX0_insert_30 (by decide) (by omega) (by omega) (fun c_5 => ?_) (fun c_5 => ?_)
        · skip
          have hjx : j = lpS ς i := by omega
          refine lv_aload_n hx hb dX0_insert_53 rfl (lv_at hl 1 rfl) ?_
          refine cr_get hx hb hts hinX0 hown hK hW (fun M hM => hM.o10 (i := i) (by subst eσ_4; exact hi)) (by rfl) 0 (by decide) (hts (.fieldLink RX0 9 "SeaPost$Cover" "signs" "[C") (by decide +kernel)) (fun _ h => h) rfl dX0_insert_54 ?_
          refine lv_iload_n hx hb dX0_insert_57 rfl (lv_at hl 2 rfl) ?_
          refine lv_iload_n hx hb dX0_insert_58 rfl (lv_at hl 3 rfl) ?_
          refine cr_cast (j := x) (x := 45) (ς' := st σ_4 17 (200 * i + x) 45) hx hb hK hW (fun M hM => by obtain ⟨f, h1, h2⟩ := hM.o11 (i := i) (by subst eσ_4; exact hi); exact ⟨f, h1, hM.a11 (by subst eσ_4; exact hi) (by omega) h2⟩) (by omega) (by omega) (mc_char (by omega)) dX0_insert_59 (fun H locs hW => ?_)
          obtain ⟨σ_6, eσ_6⟩ : ∃ z : Sg, z = st σ_4 17 (200 * i + x) 45 := ⟨_, rfl⟩
          rw [← eσ_6] at hW
          refine lv_aload_n hx hb dX0_insert_60 rfl (lv_at hl 1 rfl) ?_
          refine lv_dup hx hb dX0_insert_61 rfl ?_
          refine cr_get hx hb hts hinX0 hown hK hW (fun M hM => hM.o10 (i := i) (by subst eσ_4; subst eσ_6; exact hi)) (by rfl) 1 (by decide) (hts (.fieldLink RX0 15 "SeaPost$Cover" "length" "I") (by decide +kernel)) (fun _ h => h) rfl dX0_insert_62 ?_
          refine lv_tope (congrArg nI (show σ_6 18 i = ς 18 i by rw [eσ_6, st_f (by decide), eσ_4, shL_f (by decide)])) ?_
          refine lv_iconst (v := nI 1) hx hb dX0_insert_65 (by decide) ?_
          refine lv_iadd hx hb dX0_insert_66 (lv_tope (nI_add (ς 18 i) 1) ?_)
          refine cr_put (ty := .int) (ς' := st σ_6 18 i (ς 18 i + 1)) hx hb hts hinX0 tyX0 tyX0_ok nmX0 hown hK hW (fun M hM => hM.o10 (i := i) (by subst eσ_4; subst eσ_6; exact hi)) (by rfl) 1 (by decide) (hts (.fieldLink RX0 15 "SeaPost$Cover" "length" "I") (by decide +kernel)) (fun _ h => h) rfl (by decide +kernel) rfl rfl (Nat.le_of_ble_eq_true rfl) rfl (fun M hM => hM.p10 (i := i) (v := ς 18 i + 1) (by subst eσ_4; subst eσ_6; exact hi)) dX0_insert_67 (fun H locs hW => ?_)
          obtain ⟨σ_7, eσ_7⟩ : ∃ z : Sg, z = st σ_6 18 i (ς 18 i + 1) := ⟨_, rfl⟩
          rw [← eσ_7] at hW
          exact cr_vret hx hb hr hlk (Nat.le_of_ble_eq_true rfl) (Nat.le_of_ble_eq_true rfl) hW (by subst eσ_4; subst eσ_6; subst eσ_7; rw [hjx, hx0]; exact shL_end (by omega)) dX0_insert_70
        · skip
          have hc9 := hb17 (j - 1) (by omega)
          refine lv_aload_n hx hb dX0_insert_33 rfl (lv_at hl 1 rfl) ?_
          refine cr_get hx hb hts hinX0 hown hK hW (fun M hM => hM.o10 (i := i) (by subst eσ_4; exact hi)) (by rfl) 0 (by decide) (hts (.fieldLink RX0 9 "SeaPost$Cover" "signs" "[C") (by decide +kernel)) (fun _ h => h) rfl dX0_insert_34 ?_
          refine lv_iload_n hx hb dX0_insert_37 rfl (lv_at hl 0 rfl) ?_
          refine lv_aload_n hx hb dX0_insert_38 rfl (lv_at hl 1 rfl) ?_
          refine cr_get hx hb hts hinX0 hown hK hW (fun M hM => hM.o10 (i := i) (by subst eσ_4; exact hi)) (by rfl) 0 (by decide) (hts (.fieldLink RX0 9 "SeaPost$Cover" "signs" "[C") (by decide +kernel)) (fun _ h => h) rfl dX0_insert_39 ?_
          refine lv_iload_n hx hb dX0_insert_42 rfl (lv_at hl 0 rfl) ?_
          refine lv_iconst (v := nI 1) hx hb dX0_insert_43 (by decide) ?_
          refine lv_isub hx hb dX0_insert_44 (lv_tope (pk_sub (a := j) (b := 1) (by omega)) ?_)
          refine cr_cald (j := j - 1) (x := σ_4 17 (200 * i + (j - 1))) hx hb hK hW (fun M hM => by obtain ⟨f, h1, h2⟩ := (hM.o11 (i := i) (by subst eσ_4; exact hi)); exact ⟨f, h1, h2 _ (by first | omega | assumption)⟩) (by first | omega | assumption) (by omega) dX0_insert_45 ?_
          refine cr_cast (j := j) (x := σ_4 17 (200 * i + (j - 1))) (ς' := st σ_4 17 (200 * i + j) (σ_4 17 (200 * i + (j - 1)))) hx hb hK hW (fun M hM => by obtain ⟨f, h1, h2⟩ := hM.o11 (i := i) (by subst eσ_4; exact hi); exact ⟨f, h1, hM.a11 (by subst eσ_4; exact hi) (by omega) h2⟩) (by omega) (by omega) (mc_char (by omega)) dX0_insert_46 (fun H locs hW => ?_)
          obtain ⟨σ_8, eσ_8⟩ : ∃ z : Sg, z = st σ_4 17 (200 * i + j) (σ_4 17 (200 * i + (j - 1))) := ⟨_, rfl⟩
          rw [← eσ_8] at hW
          refine lv_iinc (v := nI (j - 1)) (lv' := [(3, .int (nI (j - 1))), (0, .ref (Γ 10 i)), (1, .int (nI x)), (2, .int (nI 45))]) hx hb dX0_insert_47 hl (k := 0) rfl (by rw [show (Int32.ofInt (-1)) = - nI 1 by decide]; exact (Int32.sub_eq_add_neg ..).symm.trans (pk_sub (by omega))) (by decide) rfl (fun ls hl => ?_)
          refine lv_goto (tgt := 28) hx hb dX0_insert_50 (by decide) ?_
          exact ih _ _ _ (j - 1) (by omega) ⟨by omega, by omega, by rw [eσ_8, eσ_4, shL_st (by omega) (by omega)] at hW; exact hW, lv_sub hl [0, 1, 2, 3] rfl⟩
      · skip
        exact cr_vret hx hb hr hlk (Nat.le_of_ble_eq_true rfl) (Nat.le_of_ble_eq_true rfl) hW (by exfalso; omega) dX0_insert_22

set_option maxHeartbeats 4000000 in
set_option maxRecDepth 100000 in
theorem uHold (l : Launch) (G : mG) (N : Mem) (Γ : Adr) (ς : Sg) (i : Nat) (hi : i < ς 33 1) (h12 : ς 12 i < 4294967296) (h18 : ς 18 i ≤ 126) : cUv l yX1_hold wsX1_hold 1 0 0 G N Γ ς [.ref (Γ 9 i)] (hld ς i) := by
  intro M sz hR
  refine m_start cX1_hold 1 none (by decide) rfl (Nat.le_of_ble_eq_true rfl) ?_
  intro p e s m below meth c ls hx hb hr hml hown hlk hnm hts hK hsz hE hW hl
  have hA := mA_A (M := M) hsz
  have hW : cW G N Γ ς (mA M sz) s.heap s.heap [] := ⟨M, hW, hR⟩
  have hl : lv_has ls 1 [(0, .ref (Γ 9 i))] := hl
  have hinX0 : ∀ w ∈ u_ws RX0 TX0 2, w ∈ wsX1_hold := (fun _ h => List.mem_cons_of_mem _ (List.mem_append_right _ h))
  have hinX1 : ∀ w ∈ u_ws RX1 TX1 10, w ∈ wsX1_hold := (fun _ h => List.mem_cons_of_mem _ (List.mem_append_left _ (List.mem_append_right _ h)))
  refine lv_aload_n hx hb dX1_hold_0 rfl (lv_at hl 0 rfl) ?_
  refine cr_get hx hb hts hinX1 hown hK hW (fun M hM => hM.o9 (i := i) hi) (by rfl) 5 (by decide) (hts (.fieldLink RX1 18 "SeaPost$Letter" "condition" "I") (by decide +kernel)) (fun _ h => h) rfl dX1_hold_1 ?_
  refine nv_if_eq (tgt := 25) hx hb dX1_hold_4 (by decide) (by omega) (fun c_1 => ?_) (fun c_1 => ?_)
  · skip
    refine lv_aload_n hx hb dX1_hold_25 rfl (lv_at hl 0 rfl) ?_
    refine lv_iconst (v := nI 0) hx hb dX1_hold_26 (by decide) ?_
    refine cr_put (ty := .int) (ς' := st ς 12 i 0) hx hb hts hinX1 tyX1 tyX1_ok nmX1 hown hK hW (fun M hM => hM.o9 (i := i) hi) (by rfl) 5 (by decide) (hts (.fieldLink RX1 18 "SeaPost$Letter" "condition" "I") (by decide +kernel)) (fun _ h => h) rfl (by decide +kernel) rfl rfl (Nat.le_of_ble_eq_true rfl) rfl (fun M hM => hM.p9_12 (i := i) (v := 0) hi) dX1_hold_27 (fun H locs hW => ?_)
    obtain ⟨σ_2, eσ_2⟩ : ∃ z : Sg, z = st ς 12 i 0 := ⟨_, rfl⟩
    rw [← eσ_2] at hW
    exact cr_vret hx hb hr hlk (Nat.le_of_ble_eq_true rfl) (Nat.le_of_ble_eq_true rfl) hW (by subst eσ_2; unfold hld; first | rw [if_pos (by assumption)] | rw [if_neg (by assumption)]) dX1_hold_30
  · skip
    refine lv_aload_n hx hb dX1_hold_7 rfl (lv_at hl 0 rfl) ?_
    refine cr_get hx hb hts hinX1 hown hK hW (fun M hM => hM.o9 (i := i) hi) (by rfl) 4 (by decide) (hts (.fieldLink RX1 12 "SeaPost$Letter" "cover" "LSeaPost$Cover;") (by decide +kernel)) (fun _ h => h) rfl dX1_hold_8 ?_
    refine lv_ldc (v := nI 55357) hx hb hown (hts (.constant RX1 38 (55357)) (by decide +kernel)) dX1_hold_11 ?_
    refine ck_Vv (r := (RX0, TX0, 2)) (As := [.int (nI 55357)]) (nL := 1) ⟨hx, hb, hml, hown, hts⟩ (uWrite l G N Γ ς i (55357) hi (by omega) (by omega)) (cwV 1 hts gX1_hold_X0_write rfl rfl rfl (by decide +kernel) ⟨(Nat.le_of_ble_eq_true rfl), (Nat.le_of_ble_eq_true rfl)⟩) hK hE hW hA (fun M hM => hM.o10 (i := i) hi) (by rfl) rfl hl.1 rfl (Nat.le_of_ble_eq_true rfl) dX1_hold_13 ⟨(Nat.le_of_ble_eq_true rfl), (Nat.le_of_ble_eq_true rfl)⟩ (fun H locs hW => ?_)
    obtain ⟨σ_3, eσ_3⟩ : ∃ z : Sg, z = wr ς i (55357) := ⟨_, rfl⟩
    rw [← eσ_3] at hW
    refine W.eq (g2 := F0 m 16 ls []) rfl ?_
    have lσ_3 : σ_3 18 i = ς 18 i + 1 := by rw [eσ_3]; exact st_s
    refine lv_aload_n hx hb dX1_hold_16 rfl (lv_at hl 0 rfl) ?_
    refine cr_get hx hb hts hinX1 hown hK hW (fun M hM => hM.o9 (i := i) (by subst eσ_3; exact hi)) (by rfl) 4 (by decide) (hts (.fieldLink RX1 12 "SeaPost$Letter" "cover" "LSeaPost$Cover;") (by decide +kernel)) (fun _ h => h) rfl dX1_hold_17 ?_
    refine lv_ldc (v := nI 57003) hx hb hown (hts (.constant RX1 43 (57003)) (by decide +kernel)) dX1_hold_20 ?_
    refine ck_Vv (r := (RX0, TX0, 2)) (As := [.int (nI 57003)]) (nL := 1) ⟨hx, hb, hml, hown, hts⟩ (uWrite l G N Γ σ_3 i (57003) (by subst eσ_3; exact hi) (by omega) (by omega)) (cwV 1 hts gX1_hold_X0_write rfl rfl rfl (by decide +kernel) ⟨(Nat.le_of_ble_eq_true rfl), (Nat.le_of_ble_eq_true rfl)⟩) hK hE hW hA (fun M hM => hM.o10 (i := i) (by subst eσ_3; exact hi)) (by rfl) rfl hl.1 rfl (Nat.le_of_ble_eq_true rfl) dX1_hold_22 ⟨(Nat.le_of_ble_eq_true rfl), (Nat.le_of_ble_eq_true rfl)⟩ (fun H locs hW => ?_)
    obtain ⟨σ_4, eσ_4⟩ : ∃ z : Sg, z = wr σ_3 i (57003) := ⟨_, rfl⟩
    rw [← eσ_4] at hW
    refine W.eq (g2 := F0 m 25 ls []) rfl ?_
    have lσ_4 : σ_4 18 i = σ_3 18 i + 1 := by rw [eσ_4]; exact st_s
    refine lv_aload_n hx hb dX1_hold_25 rfl (lv_at hl 0 rfl) ?_
    refine lv_iconst (v := nI 0) hx hb dX1_hold_26 (by decide) ?_
    refine cr_put (ty := .int) (ς' := st σ_4 12 i 0) hx hb hts hinX1 tyX1 tyX1_ok nmX1 hown hK hW (fun M hM => hM.o9 (i := i) (by subst eσ_3; subst eσ_4; exact hi)) (by rfl) 5 (by decide) (hts (.fieldLink RX1 18 "SeaPost$Letter" "condition" "I") (by decide +kernel)) (fun _ h => h) rfl (by decide +kernel) rfl rfl (Nat.le_of_ble_eq_true rfl) rfl (fun M hM => hM.p9_12 (i := i) (v := 0) (by subst eσ_3; subst eσ_4; exact hi)) dX1_hold_27 (fun H locs hW => ?_)
    obtain ⟨σ_5, eσ_5⟩ : ∃ z : Sg, z = st σ_4 12 i 0 := ⟨_, rfl⟩
    rw [← eσ_5] at hW
    exact cr_vret hx hb hr hlk (Nat.le_of_ble_eq_true rfl) (Nat.le_of_ble_eq_true rfl) hW (by subst eσ_3; subst eσ_4; subst eσ_5; unfold hld; first | rw [if_pos (by assumption)] | rw [if_neg (by assumption)]) dX1_hold_30

theorem ptF_0 {ς : Sg} {i : Nat} (n : Nat) : ptF ς i 0 n = lpF ς i n := by
  induction n with
  | zero => rfl
  | succ n ih =>
    show (if isPM (ς 17 (200 * i + n)) then (if 0 = 0 then n else ptF ς i (0 - 1) n) else ptF ς i 0 n) = (if isPM (ς 17 (200 * i + n)) then n else lpF ς i n)
    rw [if_pos rfl, ih]

set_option maxHeartbeats 4000000 in
set_option maxRecDepth 100000 in
theorem uSend (l : Launch) (G : mG) (N : Mem) (Γ : Adr) (ς : Sg) (i q : Nat) (hi : i < ς 33 1) (h13 : ς 13 i < 10) (hq : q < 10) (h24 : ς 24 0 ≤ 1000) (h18 : ς 18 i ≤ 125) (hx1 : lpS ς i < ς 18 i) (hs : ∀ j, j < 128 → ς 17 (200 * i + j) < 65536) : cUv l yX1_sendTo wsX1_sendTo 3 0 0 G N Γ ς [.ref (Γ 9 i), .int (nI q), .int (nI (ς 24 0))] (sdC ς i q) := by
  intro M sz hR
  refine m_start cX1_sendTo 3 none (by decide) rfl (Nat.le_of_ble_eq_true rfl) ?_
  intro p e s m below meth c ls hx hb hr hml hown hlk hnm hts hK hsz hE hW hl
  have hA := mA_A (M := M) hsz
  have hW : cW G N Γ ς (mA M sz) s.heap s.heap [] := ⟨M, hW, hR⟩
  have hl : lv_has ls 3 [(0, .ref (Γ 9 i)), (1, .int (nI q)), (2, .int (nI (ς 24 0)))] := hl
  have hinX0 : ∀ w ∈ u_ws RX0 TX0 2, w ∈ wsX1_sendTo := (fun _ h => List.mem_cons_of_mem _ (List.mem_append_right _ h))
  have hinX1 : ∀ w ∈ u_ws RX1 TX1 10, w ∈ wsX1_sendTo := (fun _ h => List.mem_cons_of_mem _ (List.mem_append_left _ (List.mem_append_right _ h)))
  refine lv_aload_n hx hb dX1_sendTo_0 rfl (lv_at hl 0 rfl) ?_
  refine lv_iload_n hx hb dX1_sendTo_1 rfl (lv_at hl 2 rfl) ?_
  refine lv_aload_n hx hb dX1_sendTo_2 rfl (lv_at hl 0 rfl) ?_
  refine cr_get hx hb hts hinX1 hown hK hW (fun M hM => hM.o9 (i := i) hi) (by rfl) 6 (by decide) (hts (.fieldLink RX1 29 "SeaPost$Letter" "port" "I") (by decide +kernel)) (fun _ h => h) rfl dX1_sendTo_3 ?_
  refine lv_iload_n hx hb dX1_sendTo_6 rfl (lv_at hl 1 rfl) ?_
  obtain ⟨M9x, hW, hR⟩ := hW
  refine mk_i (va_runSN (As := [.int (nI (ς 13 i)), .int (nI q)]) (nL := 3) ⟨hx, hb, hml, hown, hts⟩ (@kMail l G (ς 13 i) q (by omega) (by omega) _ _ ) ⟨va_cnB 2 hts gX1_sendTo_X4_mailDays_n44 rfl rfl rfl (hE.2.2.1 (RX1, 44, yX4_mailDays) (by decide +kernel)) (hts (.initialized RX4) (by decide +kernel)) (by decide +kernel) ⟨(Nat.le_of_ble_eq_true rfl), (Nat.le_of_ble_eq_true rfl)⟩, hts (.static yX4_mailDays) (by decide +kernel), trivial⟩ (mp_S hK hE hW hA) rfl rfl hl.1 rfl (lv_room (Nat.le_of_ble_eq_true rfl)) dX1_sendTo_7 ⟨(Nat.le_of_ble_eq_true rfl), (Nat.le_of_ble_eq_true rfl)⟩) hW hA (fun r9 M9 H locs hp_1 hW => ?_)
  obtain ⟨e91, e92⟩ := hp_1
  subst e91
  rw [e92] at hW
  clear e92
  refine W.eq (g2 := F0 m 10 ls [.int (nI (dist (ς 13 i) q + 1)), .int (nI (ς 24 0)), .ref (Γ 9 i)]) rfl ?_
  have hW : cW G N Γ (ς) (mA M sz) s.heap H locs := ⟨_, hW, hR⟩
  refine lv_iadd hx hb dX1_sendTo_10 (lv_tope (nI_add (ς 24 0) (dist (ς 13 i) q + 1)) ?_)
  refine cr_put (ty := .int) (ς' := st ς 14 i (ς 24 0 + (dist (ς 13 i) q + 1))) hx hb hts hinX1 tyX1 tyX1_ok nmX1 hown hK hW (fun M hM => hM.o9 (i := i) hi) (by rfl) 7 (by decide) (hts (.fieldLink RX1 48 "SeaPost$Letter" "comesOn" "I") (by decide +kernel)) (fun _ h => h) rfl (by decide +kernel) rfl rfl (Nat.le_of_ble_eq_true rfl) rfl (fun M hM => hM.p9_14 (i := i) (v := ς 24 0 + (dist (ς 13 i) q + 1)) hi) dX1_sendTo_11 (fun H locs hW => ?_)
  obtain ⟨σ_2, eσ_2⟩ : ∃ z : Sg, z = st ς 14 i (ς 24 0 + (dist (ς 13 i) q + 1)) := ⟨_, rfl⟩
  rw [← eσ_2] at hW
  refine lv_aload_n hx hb dX1_sendTo_14 rfl (lv_at hl 0 rfl) ?_
  refine lv_iload_n hx hb dX1_sendTo_15 rfl (lv_at hl 1 rfl) ?_
  refine cr_put (ty := .int) (ς' := st σ_2 13 i q) hx hb hts hinX1 tyX1 tyX1_ok nmX1 hown hK hW (fun M hM => hM.o9 (i := i) (by subst eσ_2; exact hi)) (by rfl) 6 (by decide) (hts (.fieldLink RX1 29 "SeaPost$Letter" "port" "I") (by decide +kernel)) (fun _ h => h) rfl (by decide +kernel) rfl rfl (Nat.le_of_ble_eq_true rfl) rfl (fun M hM => hM.p9_13 (i := i) (v := q) (by subst eσ_2; exact hi)) dX1_sendTo_16 (fun H locs hW => ?_)
  obtain ⟨σ_3, eσ_3⟩ : ∃ z : Sg, z = st σ_2 13 i q := ⟨_, rfl⟩
  rw [← eσ_3] at hW
  refine lv_aload_n hx hb dX1_sendTo_19 rfl (lv_at hl 0 rfl) ?_
  refine lv_iconst (v := nI 3) hx hb dX1_sendTo_20 (by decide) ?_
  refine cr_put (ty := .int) (ς' := st σ_3 12 i 3) hx hb hts hinX1 tyX1 tyX1_ok nmX1 hown hK hW (fun M hM => hM.o9 (i := i) (by subst eσ_2; subst eσ_3; exact hi)) (by rfl) 5 (by decide) (hts (.fieldLink RX1 18 "SeaPost$Letter" "condition" "I") (by decide +kernel)) (fun _ h => h) rfl (by decide +kernel) rfl rfl (Nat.le_of_ble_eq_true rfl) rfl (fun M hM => hM.p9_12 (i := i) (v := 3) (by subst eσ_2; subst eσ_3; exact hi)) dX1_sendTo_21 (fun H locs hW => ?_)
  obtain ⟨σ_4, eσ_4⟩ : ∃ z : Sg, z = st σ_3 12 i 3 := ⟨_, rfl⟩
  rw [← eσ_4] at hW
  refine lv_aload_n hx hb dX1_sendTo_24 rfl (lv_at hl 0 rfl) ?_
  refine lv_dup hx hb dX1_sendTo_25 rfl ?_
  refine cr_get hx hb hts hinX1 hown hK hW (fun M hM => hM.o9 (i := i) (by subst eσ_2; subst eσ_3; subst eσ_4; exact hi)) (by rfl) 8 (by decide) (hts (.fieldLink RX1 51 "SeaPost$Letter" "sendings" "I") (by decide +kernel)) (fun _ h => h) rfl dX1_sendTo_26 ?_
  refine lv_tope (congrArg nI (show σ_4 15 i = ς 15 i by rw [eσ_4, st_f (by decide), eσ_3, st_f (by decide), eσ_2, st_f (by decide)])) ?_
  refine lv_iconst (v := nI 1) hx hb dX1_sendTo_29 (by decide) ?_
  refine lv_iadd hx hb dX1_sendTo_30 (lv_tope (nI_add (ς 15 i) 1) ?_)
  refine cr_put (ty := .int) (ς' := st σ_4 15 i (ς 15 i + 1)) hx hb hts hinX1 tyX1 tyX1_ok nmX1 hown hK hW (fun M hM => hM.o9 (i := i) (by subst eσ_2; subst eσ_3; subst eσ_4; exact hi)) (by rfl) 8 (by decide) (hts (.fieldLink RX1 51 "SeaPost$Letter" "sendings" "I") (by decide +kernel)) (fun _ h => h) rfl (by decide +kernel) rfl rfl (Nat.le_of_ble_eq_true rfl) rfl (fun M hM => hM.p9_15 (i := i) (v := ς 15 i + 1) (by subst eσ_2; subst eσ_3; subst eσ_4; exact hi)) dX1_sendTo_31 (fun H locs hW => ?_)
  obtain ⟨σ_5, eσ_5⟩ : ∃ z : Sg, z = st σ_4 15 i (ς 15 i + 1) := ⟨_, rfl⟩
  rw [← eσ_5] at hW
  have l18 : σ_5 18 i = ς 18 i := by subst eσ_2; subst eσ_3; subst eσ_4; subst eσ_5; rfl
  have lps : lpS σ_5 i = lpS ς i := by subst eσ_2; subst eσ_3; subst eσ_4; subst eσ_5; rw [lpS_st (by decide) (by decide), lpS_st (by decide) (by decide), lpS_st (by decide) (by decide), lpS_st (by decide) (by decide)]
  have hs9 : ∀ j, j < 128 → σ_5 17 (200 * i + j) < 65536 := by subst eσ_2; subst eσ_3; subst eσ_4; subst eσ_5; exact hs
  refine lv_aload_n hx hb dX1_sendTo_34 rfl (lv_at hl 0 rfl) ?_
  refine cr_get hx hb hts hinX1 hown hK hW (fun M hM => hM.o9 (i := i) (by subst eσ_2; subst eσ_3; subst eσ_4; subst eσ_5; exact hi)) (by rfl) 4 (by decide) (hts (.fieldLink RX1 12 "SeaPost$Letter" "cover" "LSeaPost$Cover;") (by decide +kernel)) (fun _ h => h) rfl dX1_sendTo_35 ?_
  refine lv_aload_n hx hb dX1_sendTo_38 rfl (lv_at hl 0 rfl) ?_
  refine cr_get hx hb hts hinX1 hown hK hW (fun M hM => hM.o9 (i := i) (by subst eσ_2; subst eσ_3; subst eσ_4; subst eσ_5; exact hi)) (by rfl) 4 (by decide) (hts (.fieldLink RX1 12 "SeaPost$Letter" "cover" "LSeaPost$Cover;") (by decide +kernel)) (fun _ h => h) rfl dX1_sendTo_39 ?_
  refine lv_iconst (v := nI 0) hx hb dX1_sendTo_42 (by decide) ?_
  obtain ⟨M9x, hW, hR⟩ := hW
  refine mk_i (va_runV (As := [.int (nI 0)]) (nL := 3) ⟨hx, hb, hml, hown, hts⟩ (kPort0 l G N Γ σ_5 i (lpS ς i) (by subst eσ_2; subst eσ_3; subst eσ_4; subst eσ_5; exact hi) (by omega) hs9 (by rw [← lps]; exact ptF_0 _) _ _ hR) (cwV 1 hts gX1_sendTo_X0_portIndex rfl rfl rfl (by decide +kernel) ⟨(Nat.le_of_ble_eq_true rfl), (Nat.le_of_ble_eq_true rfl)⟩) (mp_V hK hE hW hA (mW_recv hK hW.1 (hR.o10 (i := i) (by subst eσ_2; subst eσ_3; subst eσ_4; subst eσ_5; exact hi)) (by rfl))) rfl rfl hl.1 rfl (lv_room (Nat.le_of_ble_eq_true rfl)) dX1_sendTo_43 ⟨(Nat.le_of_ble_eq_true rfl), (Nat.le_of_ble_eq_true rfl)⟩) hW hA (fun r9 M9 H locs hp_6 hW => ?_)
  obtain ⟨e91, e92⟩ := hp_6
  subst e91
  rw [e92] at hW
  clear e92
  refine W.eq (g2 := F0 m 46 ls [.int (nI (lpS ς i)), .ref (Γ 10 i)]) rfl ?_
  have hW : cW G N Γ (σ_5) (mA M sz) s.heap H locs := ⟨_, hW, hR⟩
  refine lv_bipush (v := nI 45) hx hb dX1_sendTo_46 (by decide) ?_
  refine ck_Vv (r := (RX0, TX0, 2)) (As := [.int (nI (lpS ς i)), .int (nI 45)]) (nL := 3) ⟨hx, hb, hml, hown, hts⟩ (uInsert l G N Γ σ_5 i (lpS ς i) (by subst eσ_2; subst eσ_3; subst eσ_4; subst eσ_5; exact hi) (by omega) lps.symm (by omega) hs9) (cwV 2 hts gX1_sendTo_X0_insert rfl rfl rfl (by decide +kernel) ⟨(Nat.le_of_ble_eq_true rfl), (Nat.le_of_ble_eq_true rfl)⟩) hK hE hW hA (fun M hM => hM.o10 (i := i) (by subst eσ_2; subst eσ_3; subst eσ_4; subst eσ_5; exact hi)) (by rfl) rfl hl.1 rfl (Nat.le_of_ble_eq_true rfl) dX1_sendTo_48 ⟨(Nat.le_of_ble_eq_true rfl), (Nat.le_of_ble_eq_true rfl)⟩ (fun H locs hW => ?_)
  obtain ⟨σ_7, eσ_7⟩ : ∃ z : Sg, z = shS σ_5 i := ⟨_, rfl⟩
  rw [← eσ_7] at hW
  refine W.eq (g2 := F0 m 51 ls []) rfl ?_
  have lσ_7 : σ_7 18 i = ς 18 i + 1 := by rw [eσ_7, shS_18, l18]
  refine lv_aload_n hx hb dX1_sendTo_51 rfl (lv_at hl 0 rfl) ?_
  refine cr_get hx hb hts hinX1 hown hK hW (fun M hM => hM.o9 (i := i) (by subst eσ_2; subst eσ_3; subst eσ_4; subst eσ_5; subst eσ_7; exact hi)) (by rfl) 4 (by decide) (hts (.fieldLink RX1 12 "SeaPost$Letter" "cover" "LSeaPost$Cover;") (by decide +kernel)) (fun _ h => h) rfl dX1_sendTo_52 ?_
  refine lv_bipush (v := nI 62) hx hb dX1_sendTo_55 (by decide) ?_
  refine ck_Vv (r := (RX0, TX0, 2)) (As := [.int (nI 62)]) (nL := 3) ⟨hx, hb, hml, hown, hts⟩ (uWrite l G N Γ σ_7 i (62) (by subst eσ_2; subst eσ_3; subst eσ_4; subst eσ_5; subst eσ_7; exact hi) (by omega) (by omega)) (cwV 1 hts gX1_sendTo_X0_write rfl rfl rfl (by decide +kernel) ⟨(Nat.le_of_ble_eq_true rfl), (Nat.le_of_ble_eq_true rfl)⟩) hK hE hW hA (fun M hM => hM.o10 (i := i) (by subst eσ_2; subst eσ_3; subst eσ_4; subst eσ_5; subst eσ_7; exact hi)) (by rfl) rfl hl.1 rfl (Nat.le_of_ble_eq_true rfl) dX1_sendTo_57 ⟨(Nat.le_of_ble_eq_true rfl), (Nat.le_of_ble_eq_true rfl)⟩ (fun H locs hW => ?_)
  obtain ⟨σ_8, eσ_8⟩ : ∃ z : Sg, z = wr σ_7 i (62) := ⟨_, rfl⟩
  rw [← eσ_8] at hW
  refine W.eq (g2 := F0 m 60 ls []) rfl ?_
  have lσ_8 : σ_8 18 i = σ_7 18 i + 1 := by rw [eσ_8]; exact st_s
  refine lv_aload_n hx hb dX1_sendTo_60 rfl (lv_at hl 0 rfl) ?_
  refine cr_get hx hb hts hinX1 hown hK hW (fun M hM => hM.o9 (i := i) (by subst eσ_2; subst eσ_3; subst eσ_4; subst eσ_5; subst eσ_7; subst eσ_8; exact hi)) (by rfl) 4 (by decide) (hts (.fieldLink RX1 12 "SeaPost$Letter" "cover" "LSeaPost$Cover;") (by decide +kernel)) (fun _ h => h) rfl dX1_sendTo_61 ?_
  refine lv_iload_n hx hb dX1_sendTo_64 rfl (lv_at hl 1 rfl) ?_
  refine ck_Vv (r := (RX0, TX0, 2)) (As := [.int (nI q)]) (nL := 3) ⟨hx, hb, hml, hown, hts⟩ (uPort l G N Γ σ_8 i (q) (by subst eσ_2; subst eσ_3; subst eσ_4; subst eσ_5; subst eσ_7; subst eσ_8; exact hi) (by omega) (by omega)) (cwV 1 hts gX1_sendTo_X0_writePort rfl rfl rfl (by decide +kernel) ⟨(Nat.le_of_ble_eq_true rfl), (Nat.le_of_ble_eq_true rfl)⟩) hK hE hW hA (fun M hM => hM.o10 (i := i) (by subst eσ_2; subst eσ_3; subst eσ_4; subst eσ_5; subst eσ_7; subst eσ_8; exact hi)) (by rfl) rfl hl.1 rfl (Nat.le_of_ble_eq_true rfl) dX1_sendTo_65 ⟨(Nat.le_of_ble_eq_true rfl), (Nat.le_of_ble_eq_true rfl)⟩ (fun H locs hW => ?_)
  obtain ⟨σ_9, eσ_9⟩ : ∃ z : Sg, z = wr σ_8 i (65 + q) := ⟨_, rfl⟩
  rw [← eσ_9] at hW
  refine W.eq (g2 := F0 m 68 ls []) rfl ?_
  have lσ_9 : σ_9 18 i = σ_8 18 i + 1 := by rw [eσ_9]; exact st_s
  exact cr_vret hx hb hr hlk (Nat.le_of_ble_eq_true rfl) (Nat.le_of_ble_eq_true rfl) hW (by subst eσ_2; subst eσ_3; subst eσ_4; subst eσ_5; subst eσ_7; subst eσ_8; subst eσ_9; exact sdC_eq) dX1_sendTo_68

set_option maxHeartbeats 4000000 in
set_option maxRecDepth 100000 in
theorem uOpen (l : Launch) (G : mG) (N : Mem) (Γ : Adr) (ς : Sg) (i : Nat) (hi : i < ς 33 1) (h10 : ς 10 i < 10 ∨ ς 10 i = 4294967295) (h18 : ς 18 i ≤ 126) : cUv l yX1_open wsX1_open 2 0 0 G N Γ ς [.ref (Γ 9 i)] (opC ς i) := by
  intro M sz hR
  refine m_start cX1_open 1 none (by decide) rfl (Nat.le_of_ble_eq_true rfl) ?_
  intro p e s m below meth c ls hx hb hr hml hown hlk hnm hts hK hsz hE hW hl
  have hA := mA_A (M := M) hsz
  have hW : cW G N Γ ς (mA M sz) s.heap s.heap [] := ⟨M, hW, hR⟩
  have hl : lv_has ls 1 [(0, .ref (Γ 9 i))] := hl
  have hinX0 : ∀ w ∈ u_ws RX0 TX0 2, w ∈ wsX1_open := (fun _ h => List.mem_cons_of_mem _ (List.mem_append_right _ h))
  have hinX1 : ∀ w ∈ u_ws RX1 TX1 10, w ∈ wsX1_open := (fun _ h => List.mem_cons_of_mem _ (List.mem_append_left _ (List.mem_append_right _ h)))
  refine lv_aload_n hx hb dX1_open_0 rfl (lv_at hl 0 rfl) ?_
  refine cr_get hx hb hts hinX1 hown hK hW (fun M hM => hM.o9 (i := i) hi) (by rfl) 2 (by decide) (hts (.fieldLink RX1 32 "SeaPost$Letter" "home" "I") (by decide +kernel)) (fun _ h => h) rfl dX1_open_1 ?_
  refine lv_iconst (v := nI 4294967295) hx hb dX1_open_4 (by decide) ?_
  refine nv_icmp_ne (u := ς 10 i) (v := 4294967295) (tgt := 26) hx hb dX1_open_5 (by decide) (by omega) (by omega) (fun c_1 => ?_) (fun c_1 => ?_)
  · skip
    refine lv_aload_n hx hb dX1_open_26 rfl (lv_at hl 0 rfl) ?_
    refine lv_bipush (v := nI 6) hx hb dX1_open_27 (by decide) ?_
    refine cr_put (ty := .int) (ς' := st ς 12 i 6) hx hb hts hinX1 tyX1 tyX1_ok nmX1 hown hK hW (fun M hM => hM.o9 (i := i) hi) (by rfl) 5 (by decide) (hts (.fieldLink RX1 18 "SeaPost$Letter" "condition" "I") (by decide +kernel)) (fun _ h => h) rfl (by decide +kernel) rfl rfl (Nat.le_of_ble_eq_true rfl) rfl (fun M hM => hM.p9_12 (i := i) (v := 6) hi) dX1_open_29 (fun H locs hW => ?_)
    obtain ⟨σ_2, eσ_2⟩ : ∃ z : Sg, z = st ς 12 i 6 := ⟨_, rfl⟩
    rw [← eσ_2] at hW
    refine lv_aload_n hx hb dX1_open_32 rfl (lv_at hl 0 rfl) ?_
    refine lv_aload_n hx hb dX1_open_33 rfl (lv_at hl 0 rfl) ?_
    refine cr_get hx hb hts hinX1 hown hK hW (fun M hM => hM.o9 (i := i) (by subst eσ_2; exact hi)) (by rfl) 2 (by decide) (hts (.fieldLink RX1 32 "SeaPost$Letter" "home" "I") (by decide +kernel)) (fun _ h => h) rfl dX1_open_34 ?_
    refine lv_tope (congrArg nI (show σ_2 10 i = ς 10 i by rw [eσ_2, st_f (by decide)])) ?_
    refine cr_put (ty := .int) (ς' := st σ_2 13 i (ς 10 i)) hx hb hts hinX1 tyX1 tyX1_ok nmX1 hown hK hW (fun M hM => hM.o9 (i := i) (by subst eσ_2; exact hi)) (by rfl) 6 (by decide) (hts (.fieldLink RX1 29 "SeaPost$Letter" "port" "I") (by decide +kernel)) (fun _ h => h) rfl (by decide +kernel) rfl rfl (Nat.le_of_ble_eq_true rfl) rfl (fun M hM => hM.p9_13 (i := i) (v := ς 10 i) (by subst eσ_2; exact hi)) dX1_open_37 (fun H locs hW => ?_)
    obtain ⟨σ_3, eσ_3⟩ : ∃ z : Sg, z = st σ_2 13 i (ς 10 i) := ⟨_, rfl⟩
    rw [← eσ_3] at hW
    have l18 : σ_3 18 i = ς 18 i := by subst eσ_2; subst eσ_3; rfl
    refine lv_aload_n hx hb dX1_open_40 rfl (lv_at hl 0 rfl) ?_
    refine cr_get hx hb hts hinX1 hown hK hW (fun M hM => hM.o9 (i := i) (by subst eσ_2; subst eσ_3; exact hi)) (by rfl) 4 (by decide) (hts (.fieldLink RX1 12 "SeaPost$Letter" "cover" "LSeaPost$Cover;") (by decide +kernel)) (fun _ h => h) rfl dX1_open_41 ?_
    refine lv_bipush (v := nI 60) hx hb dX1_open_44 (by decide) ?_
    refine ck_Vv (r := (RX0, TX0, 2)) (As := [.int (nI 60)]) (nL := 1) ⟨hx, hb, hml, hown, hts⟩ (uWrite l G N Γ σ_3 i (60) (by subst eσ_2; subst eσ_3; exact hi) (by omega) (by omega)) (cwV 1 hts gX1_open_X0_write rfl rfl rfl (by decide +kernel) ⟨(Nat.le_of_ble_eq_true rfl), (Nat.le_of_ble_eq_true rfl)⟩) hK hE hW hA (fun M hM => hM.o10 (i := i) (by subst eσ_2; subst eσ_3; exact hi)) (by rfl) rfl hl.1 rfl (Nat.le_of_ble_eq_true rfl) dX1_open_46 ⟨(Nat.le_of_ble_eq_true rfl), (Nat.le_of_ble_eq_true rfl)⟩ (fun H locs hW => ?_)
    obtain ⟨σ_4, eσ_4⟩ : ∃ z : Sg, z = wr σ_3 i (60) := ⟨_, rfl⟩
    rw [← eσ_4] at hW
    refine W.eq (g2 := F0 m 49 ls []) rfl ?_
    have lσ_4 : σ_4 18 i = σ_3 18 i + 1 := by rw [eσ_4]; exact st_s
    refine lv_aload_n hx hb dX1_open_49 rfl (lv_at hl 0 rfl) ?_
    refine cr_get hx hb hts hinX1 hown hK hW (fun M hM => hM.o9 (i := i) (by subst eσ_2; subst eσ_3; subst eσ_4; exact hi)) (by rfl) 4 (by decide) (hts (.fieldLink RX1 12 "SeaPost$Letter" "cover" "LSeaPost$Cover;") (by decide +kernel)) (fun _ h => h) rfl dX1_open_50 ?_
    refine lv_aload_n hx hb dX1_open_53 rfl (lv_at hl 0 rfl) ?_
    refine cr_get hx hb hts hinX1 hown hK hW (fun M hM => hM.o9 (i := i) (by subst eσ_2; subst eσ_3; subst eσ_4; exact hi)) (by rfl) 2 (by decide) (hts (.fieldLink RX1 32 "SeaPost$Letter" "home" "I") (by decide +kernel)) (fun _ h => h) rfl dX1_open_54 ?_
    refine lv_tope (congrArg nI (show σ_4 10 i = ς 10 i by rw [eσ_4, wr_f (by decide), eσ_3, st_f (by decide), eσ_2, st_f (by decide)])) ?_
    refine ck_Vv (r := (RX0, TX0, 2)) (As := [.int (nI (ς 10 i))]) (nL := 1) ⟨hx, hb, hml, hown, hts⟩ (uPort l G N Γ σ_4 i (ς 10 i) (by subst eσ_2; subst eσ_3; subst eσ_4; exact hi) (by omega) (by omega)) (cwV 1 hts gX1_open_X0_writePort rfl rfl rfl (by decide +kernel) ⟨(Nat.le_of_ble_eq_true rfl), (Nat.le_of_ble_eq_true rfl)⟩) hK hE hW hA (fun M hM => hM.o10 (i := i) (by subst eσ_2; subst eσ_3; subst eσ_4; exact hi)) (by rfl) rfl hl.1 rfl (Nat.le_of_ble_eq_true rfl) dX1_open_57 ⟨(Nat.le_of_ble_eq_true rfl), (Nat.le_of_ble_eq_true rfl)⟩ (fun H locs hW => ?_)
    obtain ⟨σ_5, eσ_5⟩ : ∃ z : Sg, z = wr σ_4 i (65 + ς 10 i) := ⟨_, rfl⟩
    rw [← eσ_5] at hW
    refine W.eq (g2 := F0 m 60 ls []) rfl ?_
    have lσ_5 : σ_5 18 i = σ_4 18 i + 1 := by rw [eσ_5]; exact st_s
    exact cr_vret hx hb hr hlk (Nat.le_of_ble_eq_true rfl) (Nat.le_of_ble_eq_true rfl) hW (by subst eσ_2; subst eσ_3; subst eσ_4; subst eσ_5; unfold opC; first | rw [if_pos (by assumption)] | rw [if_neg (by assumption)]) dX1_open_60
  · skip
    refine lv_aload_n hx hb dX1_open_8 rfl (lv_at hl 0 rfl) ?_
    refine lv_bipush (v := nI 7) hx hb dX1_open_9 (by decide) ?_
    refine cr_put (ty := .int) (ς' := st ς 12 i 7) hx hb hts hinX1 tyX1 tyX1_ok nmX1 hown hK hW (fun M hM => hM.o9 (i := i) hi) (by rfl) 5 (by decide) (hts (.fieldLink RX1 18 "SeaPost$Letter" "condition" "I") (by decide +kernel)) (fun _ h => h) rfl (by decide +kernel) rfl rfl (Nat.le_of_ble_eq_true rfl) rfl (fun M hM => hM.p9_12 (i := i) (v := 7) hi) dX1_open_11 (fun H locs hW => ?_)
    obtain ⟨σ_6, eσ_6⟩ : ∃ z : Sg, z = st ς 12 i 7 := ⟨_, rfl⟩
    rw [← eσ_6] at hW
    have l18 : σ_6 18 i = ς 18 i := by subst eσ_6; rfl
    refine lv_aload_n hx hb dX1_open_14 rfl (lv_at hl 0 rfl) ?_
    refine cr_get hx hb hts hinX1 hown hK hW (fun M hM => hM.o9 (i := i) (by subst eσ_6; exact hi)) (by rfl) 4 (by decide) (hts (.fieldLink RX1 12 "SeaPost$Letter" "cover" "LSeaPost$Cover;") (by decide +kernel)) (fun _ h => h) rfl dX1_open_15 ?_
    refine lv_bipush (v := nI 42) hx hb dX1_open_18 (by decide) ?_
    refine ck_Vv (r := (RX0, TX0, 2)) (As := [.int (nI 42)]) (nL := 1) ⟨hx, hb, hml, hown, hts⟩ (uWrite l G N Γ σ_6 i (42) (by subst eσ_6; exact hi) (by omega) (by omega)) (cwV 1 hts gX1_open_X0_write rfl rfl rfl (by decide +kernel) ⟨(Nat.le_of_ble_eq_true rfl), (Nat.le_of_ble_eq_true rfl)⟩) hK hE hW hA (fun M hM => hM.o10 (i := i) (by subst eσ_6; exact hi)) (by rfl) rfl hl.1 rfl (Nat.le_of_ble_eq_true rfl) dX1_open_20 ⟨(Nat.le_of_ble_eq_true rfl), (Nat.le_of_ble_eq_true rfl)⟩ (fun H locs hW => ?_)
    obtain ⟨σ_7, eσ_7⟩ : ∃ z : Sg, z = wr σ_6 i (42) := ⟨_, rfl⟩
    rw [← eσ_7] at hW
    refine W.eq (g2 := F0 m 23 ls []) rfl ?_
    have lσ_7 : σ_7 18 i = σ_6 18 i + 1 := by rw [eσ_7]; exact st_s
    refine lv_goto (tgt := 60) hx hb dX1_open_23 (by decide) ?_
    exact cr_vret hx hb hr hlk (Nat.le_of_ble_eq_true rfl) (Nat.le_of_ble_eq_true rfl) hW (by subst eσ_6; subst eσ_7; unfold opC; first | rw [if_pos (by assumption)] | rw [if_neg (by assumption)]) dX1_open_60

set_option maxHeartbeats 4000000 in
set_option maxRecDepth 100000 in
theorem uCall (l : Launch) (G : mG) (N : Mem) (Γ : Adr) (ς : Sg) (r q a d : Nat) (hr0 : isR ς r) (h3 : ς 3 r < 6) : cUv l yX2_addCall wsX2_addCall 0 0 0 G N Γ ς [.ref (Γ 5 r), .int (nI q), .int (nI a), .int (nI d)] (acC ς r q a d) := by
  intro M sz hR
  refine m_start cX2_addCall 4 none (by decide) rfl (Nat.le_of_ble_eq_true rfl) ?_
  intro p e s m below meth c ls hx hb hr hml hown hlk hnm hts hK hsz hE hW hl
  have hA := mA_A (M := M) hsz
  have hW : cW G N Γ ς (mA M sz) s.heap s.heap [] := ⟨M, hW, hR⟩
  have hl : lv_has ls 4 [(0, .ref (Γ 5 r)), (1, .int (nI q)), (2, .int (nI a)), (3, .int (nI d))] := hl
  have hinX2 : ∀ w ∈ u_ws RX2 TX2 6, w ∈ wsX2_addCall := (fun _ h => List.mem_cons_of_mem _ (List.mem_append_right _ h))
  refine lv_aload_n hx hb dX2_addCall_0 rfl (lv_at hl 0 rfl) ?_
  refine cr_get hx hb hts hinX2 hown hK hW (fun M hM => hM.o5 (i := r) hr0) (by rfl) 3 (by decide) (hts (.fieldLink RX2 21 "SeaPost$Route" "calls" "I") (by decide +kernel)) (fun _ h => h) rfl dX2_addCall_1 ?_
  refine lv_bipush (v := nI 6) hx hb dX2_addCall_4 (by decide) ?_
  refine nv_icmp_ge (u := ς 3 r) (v := 6) (tgt := 49) hx hb dX2_addCall_6 (by decide) (by omega) (by omega) (fun c_1 => ?_) (fun c_1 => ?_)
  · skip
    exact cr_vret hx hb hr hlk (Nat.le_of_ble_eq_true rfl) (Nat.le_of_ble_eq_true rfl) hW (by first | (exfalso; omega) | (rfl)) dX2_addCall_49
  · skip
    refine lv_aload_n hx hb dX2_addCall_9 rfl (lv_at hl 0 rfl) ?_
    refine cr_get hx hb hts hinX2 hown hK hW (fun M hM => hM.o5 (i := r) hr0) (by rfl) 0 (by decide) (hts (.fieldLink RX2 9 "SeaPost$Route" "ports" "[I") (by decide +kernel)) (fun _ h => h) rfl dX2_addCall_10 ?_
    refine lv_aload_n hx hb dX2_addCall_13 rfl (lv_at hl 0 rfl) ?_
    refine cr_get hx hb hts hinX2 hown hK hW (fun M hM => hM.o5 (i := r) hr0) (by rfl) 3 (by decide) (hts (.fieldLink RX2 21 "SeaPost$Route" "calls" "I") (by decide +kernel)) (fun _ h => h) rfl dX2_addCall_14 ?_
    refine lv_iload_n hx hb dX2_addCall_17 rfl (lv_at hl 1 rfl) ?_
    refine cr_iast (j := ς 3 r) (x := q) (ς' := st ς 4 (6 * r + ς 3 r) q) hx hb hK hW (fun M hM => by obtain ⟨f, h1, h2⟩ := (hM.o6 (k := 4) (i := r) (by decide) hr0); exact ⟨f, h1, hM.a6 hr0 (by omega) h2⟩) (by omega) (by omega) dX2_addCall_18 (fun H locs hW => ?_)
    obtain ⟨σ_2, eσ_2⟩ : ∃ z : Sg, z = st ς 4 (6 * r + ς 3 r) q := ⟨_, rfl⟩
    rw [← eσ_2] at hW
    refine lv_aload_n hx hb dX2_addCall_19 rfl (lv_at hl 0 rfl) ?_
    refine cr_get hx hb hts hinX2 hown hK hW (fun M hM => hM.o5 (i := r) (by subst eσ_2; exact hr0)) (by rfl) 1 (by decide) (hts (.fieldLink RX2 15 "SeaPost$Route" "arrivals" "[I") (by decide +kernel)) (fun _ h => h) rfl dX2_addCall_20 ?_
    refine lv_aload_n hx hb dX2_addCall_23 rfl (lv_at hl 0 rfl) ?_
    refine cr_get hx hb hts hinX2 hown hK hW (fun M hM => hM.o5 (i := r) (by subst eσ_2; exact hr0)) (by rfl) 3 (by decide) (hts (.fieldLink RX2 21 "SeaPost$Route" "calls" "I") (by decide +kernel)) (fun _ h => h) rfl dX2_addCall_24 ?_
    refine lv_tope (congrArg nI (show σ_2 3 r = ς 3 r by rw [eσ_2, st_f (by decide)])) ?_
    refine lv_iload_n hx hb dX2_addCall_27 rfl (lv_at hl 2 rfl) ?_
    refine cr_iast (j := ς 3 r) (x := a) (ς' := st σ_2 5 (6 * r + ς 3 r) a) hx hb hK hW (fun M hM => by obtain ⟨f, h1, h2⟩ := (hM.o6 (k := 5) (i := r) (by decide) (by subst eσ_2; exact hr0)); exact ⟨f, h1, hM.a7 (by subst eσ_2; exact hr0) (by omega) h2⟩) (by omega) (by omega) dX2_addCall_28 (fun H locs hW => ?_)
    obtain ⟨σ_3, eσ_3⟩ : ∃ z : Sg, z = st σ_2 5 (6 * r + ς 3 r) a := ⟨_, rfl⟩
    rw [← eσ_3] at hW
    refine lv_aload_n hx hb dX2_addCall_29 rfl (lv_at hl 0 rfl) ?_
    refine cr_get hx hb hts hinX2 hown hK hW (fun M hM => hM.o5 (i := r) (by subst eσ_2; subst eσ_3; exact hr0)) (by rfl) 2 (by decide) (hts (.fieldLink RX2 18 "SeaPost$Route" "leavings" "[I") (by decide +kernel)) (fun _ h => h) rfl dX2_addCall_30 ?_
    refine lv_aload_n hx hb dX2_addCall_33 rfl (lv_at hl 0 rfl) ?_
    refine cr_get hx hb hts hinX2 hown hK hW (fun M hM => hM.o5 (i := r) (by subst eσ_2; subst eσ_3; exact hr0)) (by rfl) 3 (by decide) (hts (.fieldLink RX2 21 "SeaPost$Route" "calls" "I") (by decide +kernel)) (fun _ h => h) rfl dX2_addCall_34 ?_
    refine lv_tope (congrArg nI (show σ_3 3 r = ς 3 r by rw [eσ_3, st_f (by decide), eσ_2, st_f (by decide)])) ?_
    refine lv_iload_n hx hb dX2_addCall_37 rfl (lv_at hl 3 rfl) ?_
    refine cr_iast (j := ς 3 r) (x := d) (ς' := st σ_3 6 (6 * r + ς 3 r) d) hx hb hK hW (fun M hM => by obtain ⟨f, h1, h2⟩ := (hM.o6 (k := 6) (i := r) (by decide) (by subst eσ_2; subst eσ_3; exact hr0)); exact ⟨f, h1, hM.a8 (by subst eσ_2; subst eσ_3; exact hr0) (by omega) h2⟩) (by omega) (by omega) dX2_addCall_38 (fun H locs hW => ?_)
    obtain ⟨σ_4, eσ_4⟩ : ∃ z : Sg, z = st σ_3 6 (6 * r + ς 3 r) d := ⟨_, rfl⟩
    rw [← eσ_4] at hW
    refine lv_aload_n hx hb dX2_addCall_39 rfl (lv_at hl 0 rfl) ?_
    refine lv_dup hx hb dX2_addCall_40 rfl ?_
    refine cr_get hx hb hts hinX2 hown hK hW (fun M hM => hM.o5 (i := r) (by subst eσ_2; subst eσ_3; subst eσ_4; exact hr0)) (by rfl) 3 (by decide) (hts (.fieldLink RX2 21 "SeaPost$Route" "calls" "I") (by decide +kernel)) (fun _ h => h) rfl dX2_addCall_41 ?_
    refine lv_tope (congrArg nI (show σ_4 3 r = ς 3 r by rw [eσ_4, st_f (by decide), eσ_3, st_f (by decide), eσ_2, st_f (by decide)])) ?_
    refine lv_iconst (v := nI 1) hx hb dX2_addCall_44 (by decide) ?_
    refine lv_iadd hx hb dX2_addCall_45 (lv_tope (nI_add (ς 3 r) 1) ?_)
    refine cr_put (ty := .int) (ς' := st σ_4 3 r (ς 3 r + 1)) hx hb hts hinX2 tyX2 tyX2_ok nmX2 hown hK hW (fun M hM => hM.o5 (i := r) (by subst eσ_2; subst eσ_3; subst eσ_4; exact hr0)) (by rfl) 3 (by decide) (hts (.fieldLink RX2 21 "SeaPost$Route" "calls" "I") (by decide +kernel)) (fun _ h => h) rfl (by decide +kernel) rfl rfl (Nat.le_of_ble_eq_true rfl) rfl (fun M hM => hM.p5_3 (i := r) (v := ς 3 r + 1) (by subst eσ_2; subst eσ_3; subst eσ_4; exact hr0)) dX2_addCall_46 (fun H locs hW => ?_)
    obtain ⟨σ_5, eσ_5⟩ : ∃ z : Sg, z = st σ_4 3 r (ς 3 r + 1) := ⟨_, rfl⟩
    rw [← eσ_5] at hW
    exact cr_vret hx hb hr hlk (Nat.le_of_ble_eq_true rfl) (Nat.le_of_ble_eq_true rfl) hW (by first | (exfalso; omega) | (subst eσ_2; subst eσ_3; subst eσ_4; subst eσ_5; rfl)) dX2_addCall_49
