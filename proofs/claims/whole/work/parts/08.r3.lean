/-! THE REFERENCE'S METHODS, THIRD PART (rows laid by my program gen/ref3.py) -/
set_option maxHeartbeats 4000000 in
set_option maxRecDepth 100000 in
theorem c5_writes (l : Launch) (G : mG) (ad : Nat → Nat) (σ : Sg) (i : Nat) (c9 : Nat) (hi : i < 40) (hm : σ 18 i < 200) : cRv l yX5_writes wsX5_writes 0 G ad σ [.int (nI i), .int (nI c9)] (fun σ9 => σ9 = wr σ i c9) := by
  intro M sz hR
  refine m_start cX5_writes 3 none (by decide) rfl (Nat.le_of_ble_eq_true rfl) ?_
  intro p e s m below meth c ls hx hb hr hml hown hlk hnm hts hK hsz hE hW hl
  have hA := mA_A (M := M) hsz
  have hl : lv_has ls 3 [(0, .ref (ad 0)), (1, .int (nI i)), (2, .int (nI c9))] := hl
  have hW := rW_start hR hW
  have hinX5 : ∀ w ∈ u_ws RX5 TX5 26, w ∈ wsX5_writes := (fun _ h => List.mem_cons_of_mem _ (List.mem_append_right _ h))
  refine lv_aload_n hx hb dX5_writes_0 rfl (lv_at hl 0 rfl) ?_
  refine rr_geta hx hb hts hinX5 hown hK hW 17 (by decide) rfl rfl (hts (.fieldLink RX5 55 "SeaPostModel" "markOf" "[I") (by decide +kernel)) dX5_writes_1 ?_
  refine lv_sipush (v := nI 200) hx hb dX5_writes_4 (by decide) ?_
  refine lv_iload_n hx hb dX5_writes_7 rfl (lv_at hl 1 rfl) ?_
  refine lv_imul hx hb dX5_writes_8 (lv_tope (pk_mul 200 i) ?_)
  refine lv_aload_n hx hb dX5_writes_9 rfl (lv_at hl 0 rfl) ?_
  refine rr_geta hx hb hts hinX5 hown hK hW 18 (by decide) rfl rfl (hts (.fieldLink RX5 58 "SeaPostModel" "markMany" "[I") (by decide +kernel)) dX5_writes_10 ?_
  refine lv_iload_n hx hb dX5_writes_13 rfl (lv_at hl 1 rfl) ?_
  refine rr_ald (j := i) hx hb hK hW 18 rfl rfl (show i < 40 by omega) dX5_writes_14 ?_
  refine lv_iadd hx hb dX5_writes_15 (lv_tope (nI_add (200 * i) (σ 18 i)) ?_)
  refine lv_iload_n hx hb dX5_writes_16 rfl (lv_at hl 2 rfl) ?_
  refine rr_ast (j := 200 * i + (σ 18 i)) (v := c9) hx hb hK hW 17 rfl rfl (show 200 * i + (σ 18 i) < 8000 by omega) dX5_writes_17 (fun H locs hW => ?_)
  obtain ⟨σ_1, eσ_1⟩ : ∃ z : Sg, z = st σ 17 (200 * i + (σ 18 i)) c9 := ⟨_, rfl⟩
  rw [← eσ_1] at hW
  refine lv_aload_n hx hb dX5_writes_18 rfl (lv_at hl 0 rfl) ?_
  refine rr_geta hx hb hts hinX5 hown hK hW 18 (by decide) rfl rfl (hts (.fieldLink RX5 58 "SeaPostModel" "markMany" "[I") (by decide +kernel)) dX5_writes_19 ?_
  refine lv_iload_n hx hb dX5_writes_22 rfl (lv_at hl 1 rfl) ?_
  refine lv_dup2_11 hx hb dX5_writes_23 rfl rfl ?_
  refine rr_ald (j := i) hx hb hK hW 18 rfl rfl (show i < 40 by omega) dX5_writes_24 ?_
  refine lv_tope (congrArg nI (show σ_1 18 i = σ 18 i by rw [eσ_1, st_f (by decide)])) ?_
  refine lv_iconst (v := nI 1) hx hb dX5_writes_25 (by decide) ?_
  refine lv_iadd hx hb dX5_writes_26 (lv_tope (nI_add (σ 18 i) 1) ?_)
  refine rr_ast (j := i) (v := σ 18 i + 1) hx hb hK hW 18 rfl rfl (show i < 40 by omega) dX5_writes_27 (fun H locs hW => ?_)
  obtain ⟨σ_2, eσ_2⟩ : ∃ z : Sg, z = st σ_1 18 i (σ 18 i + 1) := ⟨_, rfl⟩
  rw [← eσ_2] at hW
  exact rr_vret hx hb hr hlk (Nat.le_refl 0) (Nat.le_refl 0) hW (by subst eσ_1; subst eσ_2; rfl) dX5_writes_28

theorem wr_f {σ : Sg} {i c g j : Nat} (h : g ≠ 17 ∧ g ≠ 18) : wr σ i c g j = σ g j := by
  unfold wr
  rw [st_f h.2, st_f h.1]
theorem wr_18 {σ : Sg} {i c : Nat} : wr σ i c 18 i = σ 18 i + 1 := by
  unfold wr
  rw [st_s]
theorem wr_18o {σ : Sg} {i c j : Nat} (h : j ≠ i) : wr σ i c 18 j = σ 18 j := by
  unfold wr
  rw [st_i h, st_f (by decide)]
theorem wDg_f {σ : Sg} {i u g j : Nat} (h : g ≠ 17 ∧ g ≠ 18) : wDg σ i u g j = σ g j := by
  unfold wDg
  split
  · exact wr_f h
  · rfl
theorem wDg_18 {σ : Sg} {i u : Nat} : σ 18 i ≤ wDg σ i u 18 i ∧ wDg σ i u 18 i ≤ σ 18 i + 1 := by
  unfold wDg
  split
  · rw [wr_18]; omega
  · omega
theorem wDay_f {σ : Sg} {i g j : Nat} (h : g ≠ 17 ∧ g ≠ 18) : wDay σ i g j = σ g j := by
  unfold wDay
  rw [wDg_f h, wDg_f h, wDg_f h, wDg_f h]
theorem wDay_18 {σ : Sg} {i : Nat} : σ 18 i ≤ wDay σ i 18 i ∧ wDay σ i 18 i ≤ σ 18 i + 4 := by
  unfold wDay
  have h1 := wDg_18 (σ := σ) (i := i) (u := 1000)
  have h2 := wDg_18 (σ := wDg σ i 1000) (i := i) (u := 100)
  have h3 := wDg_18 (σ := wDg (wDg σ i 1000) i 100) (i := i) (u := 10)
  have h4 := wDg_18 (σ := wDg (wDg (wDg σ i 1000) i 100) i 10) (i := i) (u := 1)
  omega
theorem di_f {σ : Sg} {i g j : Nat} (h : (g ≠ 17 ∧ g ≠ 18) ∧ g ≠ 12 ∧ g ≠ 19 ∧ g ≠ 20) : di σ i g j = σ g j := by
  unfold di
  rw [st_f h.2.2.2, st_f h.2.2.1, wr_f h.1, st_f h.2.1]
theorem shS_f {σ : Sg} {i g j : Nat} (h : g ≠ 17 ∧ g ≠ 18) : shS σ i g j = σ g j := by
  unfold shS
  rw [if_neg (fun z => h.1 z.1), if_neg (fun z => h.1 z.1), if_neg (fun z => h.2 z.1)]
theorem shS_18 {σ : Sg} {i : Nat} : shS σ i 18 i = σ 18 i + 1 := by
  unfold shS
  rw [if_neg (fun z => by omega), if_neg (fun z => by omega), if_pos ⟨rfl, rfl⟩]

set_option maxHeartbeats 4000000 in
set_option maxRecDepth 100000 in
theorem c5_wD_step {l : Launch} {G : mG} {ad : Nat → Nat} {M : Mem} {sz : Nat} {i : Nat} (hi : i < 40) {p : Program} {e : Env} {s : State} {m : MethodId} {below : List Frame} {meth : Method} {c : Code} {Q : State → Prop} (hx : p.tables.exec = Jvm.exec) (hb : c.code = cX5_writesDay) (hml : c.maxLocals = 3) (hown : s.vm.findClass yX5_writesDay.cls = some m.cls) (hts : ∀ w ∈ wsX5_writesDay, w.before [Value.ref (ad 0), .int (nI i)].toArray s = true) (hK : va_K G.1 vwCl (kT G) s) (hE : sE G (mA M sz) s s.heap) (hA : ∀ q, s.heap.size ≤ q → mA M sz q)
    (u : Nat) (hu0 : 0 < u) (hu : u ≤ 1000) (σ : Sg) (hm : σ 18 i < 199) (hd : σ 24 0 ≤ 1000) {H : Heap} {locs : List Loc} {ls : Array Slot} (hW : rW G ad (mA M sz) s.heap M σ H locs) (hl : lv_has ls 3 [(2, .int (nI u)), (0, .ref (ad 0)), (1, .int (nI i))])
    (kk : ∀ (H : Heap) (locs : List Loc) (ls : Array Slot), rW G ad (mA M sz) s.heap M (wDg σ i u) H locs → lv_has ls 3 [(2, .int (nI (u / 10))), (0, .ref (ad 0)), (1, .int (nI i))] → W p l e (mRm 1 0 0) s m [Value.ref (ad 0), .int (nI i)].toArray below meth c H locs 0 0 Q (F0 m 4 ls [])) : W p l e (mRm 1 0 0) s m [Value.ref (ad 0), .int (nI i)].toArray below meth c H locs 0 0 Q (F0 m 4 ls []) := by
  have hdv : σ 24 0 / u ≤ 1000 := Nat.le_trans (Nat.div_le_self _ _) hd
  have hinX5 : ∀ w ∈ u_ws RX5 TX5 26, w ∈ wsX5_writesDay := (fun _ h => List.mem_cons_of_mem _ (List.mem_append_right _ h))
  refine lv_iload_n hx hb dX5_writesDay_4 rfl (lv_at hl 0 rfl) ?_
  refine nv_if_le (tgt := 46) hx hb dX5_writesDay_5 (by decide) (by omega) (fun z => (by omega : False).elim) (fun _ => ?_)
  refine lv_aload_n hx hb dX5_writesDay_8 rfl (lv_at hl 1 rfl) ?_
  refine rr_geti hx hb hts hinX5 hown hK hW 24 (by decide) rfl rfl (hts (.fieldLink RX5 92 "SeaPostModel" "today" "I") (by decide +kernel)) dX5_writesDay_9 ?_
  refine lv_iload_n hx hb dX5_writesDay_12 rfl (lv_at hl 0 rfl) ?_
  refine nv_icmp_ge (u := σ 24 0) (v := u) (tgt := 21) hx hb dX5_writesDay_13 (by decide) (by omega) (by omega) (fun c_1 => ?_) (fun c_1 => ?_)
  · skip
    refine lv_aload_n hx hb dX5_writesDay_21 rfl (lv_at hl 1 rfl) ?_
    refine lv_iload_n hx hb dX5_writesDay_22 rfl (lv_at hl 2 rfl) ?_
    refine lv_bipush (v := nI 48) hx hb dX5_writesDay_23 (by decide) ?_
    refine lv_aload_n hx hb dX5_writesDay_25 rfl (lv_at hl 1 rfl) ?_
    refine rr_geti hx hb hts hinX5 hown hK hW 24 (by decide) rfl rfl (hts (.fieldLink RX5 92 "SeaPostModel" "today" "I") (by decide +kernel)) dX5_writesDay_26 ?_
    refine lv_iload_n hx hb dX5_writesDay_29 rfl (lv_at hl 0 rfl) ?_
    refine lv_idiv hx hb dX5_writesDay_30 (nI_ne0 (by omega) (by omega)) (lv_tope (pk_div (a := σ 24 0) (d := u) (by omega) (by omega) (by omega)) ?_)
    refine lv_bipush (v := nI 10) hx hb dX5_writesDay_31 (by decide) ?_
    refine lv_irem hx hb dX5_writesDay_33 (nI_ne0 (by omega) (by omega)) (lv_tope (pk_rem (a := (σ 24 0) / u) (d := 10) (by omega) (by omega) (by omega)) ?_)
    refine lv_iadd hx hb dX5_writesDay_34 (lv_tope (nI_add 48 (((σ 24 0) / u) % 10)) ?_)
    refine rk_Vv (As := [.int (nI i), .int (nI (48 + (((σ 24 0) / u) % 10)))]) (nL := 3) ⟨hx, hb, hml, hown, hts⟩ (c5_writes l G ad σ i (48 + (((σ 24 0) / u) % 10)) (by omega) (by omega)) (cwV 2 hts gX5_writesDay_X5_writes rfl rfl rfl (by decide +kernel) ⟨(Nat.le_of_ble_eq_true rfl), (Nat.le_of_ble_eq_true rfl)⟩) hK hE hW hA rfl hl.1 rfl (Nat.le_of_ble_eq_true rfl) dX5_writesDay_35 (Nat.zero_le _) (Nat.zero_le _) (fun σ9 H locs hp_2 hW => ?_)
    obtain ⟨σ_3, eσ_3⟩ : ∃ z : Sg, z = σ9 := ⟨_, rfl⟩
    rw [← eσ_3] at hW
    rw [hp_2] at eσ_3
    clear hp_2
    refine lv_iload_n hx hb dX5_writesDay_38 rfl (lv_at hl 0 rfl) ?_
    refine lv_bipush (v := nI 10) hx hb dX5_writesDay_39 (by decide) ?_
    refine lv_idiv hx hb dX5_writesDay_41 (nI_ne0 (by omega) (by omega)) (lv_tope (pk_div (a := u) (d := 10) (by omega) (by omega) (by omega)) ?_)
    refine lv_istore_n (lv' := [(2, .int (nI (u / 10))), (0, .ref (ad 0)), (1, .int (nI i))]) hx hb dX5_writesDay_42 rfl hl (by decide) rfl (fun ls hl => ?_)
    refine lv_goto (tgt := 4) hx hb dX5_writesDay_43 (by decide) ?_
    exact kk _ _ _ (by rw [show wDg σ i u = σ_3 by unfold wDg; rw [if_pos (by omega), eσ_3]]; exact hW) (lv_sub hl [0, 1, 2] rfl)
  · skip
    refine lv_iload_n hx hb dX5_writesDay_16 rfl (lv_at hl 0 rfl) ?_
    refine lv_iconst (v := nI 1) hx hb dX5_writesDay_17 (by decide) ?_
    refine nv_icmp_ne (u := u) (v := 1) (tgt := 38) hx hb dX5_writesDay_18 (by decide) (by omega) (by omega) (fun c_4 => ?_) (fun c_4 => ?_)
    · skip
      refine lv_iload_n hx hb dX5_writesDay_38 rfl (lv_at hl 0 rfl) ?_
      refine lv_bipush (v := nI 10) hx hb dX5_writesDay_39 (by decide) ?_
      refine lv_idiv hx hb dX5_writesDay_41 (nI_ne0 (by omega) (by omega)) (lv_tope (pk_div (a := u) (d := 10) (by omega) (by omega) (by omega)) ?_)
      refine lv_istore_n (lv' := [(2, .int (nI (u / 10))), (0, .ref (ad 0)), (1, .int (nI i))]) hx hb dX5_writesDay_42 rfl hl (by decide) rfl (fun ls hl => ?_)
      refine lv_goto (tgt := 4) hx hb dX5_writesDay_43 (by decide) ?_
      exact kk _ _ _ (by rw [show wDg σ i u = σ from if_neg (by omega)]; exact hW) (lv_sub hl [0, 1, 2] rfl)
    · skip
      refine lv_aload_n hx hb dX5_writesDay_21 rfl (lv_at hl 1 rfl) ?_
      refine lv_iload_n hx hb dX5_writesDay_22 rfl (lv_at hl 2 rfl) ?_
      refine lv_bipush (v := nI 48) hx hb dX5_writesDay_23 (by decide) ?_
      refine lv_aload_n hx hb dX5_writesDay_25 rfl (lv_at hl 1 rfl) ?_
      refine rr_geti hx hb hts hinX5 hown hK hW 24 (by decide) rfl rfl (hts (.fieldLink RX5 92 "SeaPostModel" "today" "I") (by decide +kernel)) dX5_writesDay_26 ?_
      refine lv_iload_n hx hb dX5_writesDay_29 rfl (lv_at hl 0 rfl) ?_
      refine lv_idiv hx hb dX5_writesDay_30 (nI_ne0 (by omega) (by omega)) (lv_tope (pk_div (a := σ 24 0) (d := u) (by omega) (by omega) (by omega)) ?_)
      refine lv_bipush (v := nI 10) hx hb dX5_writesDay_31 (by decide) ?_
      refine lv_irem hx hb dX5_writesDay_33 (nI_ne0 (by omega) (by omega)) (lv_tope (pk_rem (a := (σ 24 0) / u) (d := 10) (by omega) (by omega) (by omega)) ?_)
      refine lv_iadd hx hb dX5_writesDay_34 (lv_tope (nI_add 48 (((σ 24 0) / u) % 10)) ?_)
      refine rk_Vv (As := [.int (nI i), .int (nI (48 + (((σ 24 0) / u) % 10)))]) (nL := 3) ⟨hx, hb, hml, hown, hts⟩ (c5_writes l G ad σ i (48 + (((σ 24 0) / u) % 10)) (by omega) (by omega)) (cwV 2 hts gX5_writesDay_X5_writes rfl rfl rfl (by decide +kernel) ⟨(Nat.le_of_ble_eq_true rfl), (Nat.le_of_ble_eq_true rfl)⟩) hK hE hW hA rfl hl.1 rfl (Nat.le_of_ble_eq_true rfl) dX5_writesDay_35 (Nat.zero_le _) (Nat.zero_le _) (fun σ9 H locs hp_5 hW => ?_)
      obtain ⟨σ_6, eσ_6⟩ : ∃ z : Sg, z = σ9 := ⟨_, rfl⟩
      rw [← eσ_6] at hW
      rw [hp_5] at eσ_6
      clear hp_5
      refine lv_iload_n hx hb dX5_writesDay_38 rfl (lv_at hl 0 rfl) ?_
      refine lv_bipush (v := nI 10) hx hb dX5_writesDay_39 (by decide) ?_
      refine lv_idiv hx hb dX5_writesDay_41 (nI_ne0 (by omega) (by omega)) (lv_tope (pk_div (a := u) (d := 10) (by omega) (by omega) (by omega)) ?_)
      refine lv_istore_n (lv' := [(2, .int (nI (u / 10))), (0, .ref (ad 0)), (1, .int (nI i))]) hx hb dX5_writesDay_42 rfl hl (by decide) rfl (fun ls hl => ?_)
      refine lv_goto (tgt := 4) hx hb dX5_writesDay_43 (by decide) ?_
      exact kk _ _ _ (by rw [show wDg σ i u = σ_6 by unfold wDg; rw [if_pos (by omega), eσ_6]]; exact hW) (lv_sub hl [0, 1, 2] rfl)

set_option maxHeartbeats 4000000 in
set_option maxRecDepth 100000 in
theorem c5_writesDay (l : Launch) (G : mG) (ad : Nat → Nat) (σ : Sg) (i : Nat) (hi : i < 40) (hm : σ 18 i < 190) (hd : σ 24 0 ≤ 1000) : cRv l yX5_writesDay wsX5_writesDay 1 G ad σ [.int (nI i)] (fun σ9 => σ9 = wDay σ i) := by
  intro M sz hR
  refine m_start cX5_writesDay 3 none (by decide) rfl (Nat.le_of_ble_eq_true rfl) ?_
  intro p e s m below meth c ls hx hb hr hml hown hlk hnm hts hK hsz hE hW hl
  have hA := mA_A (M := M) hsz
  have hl : lv_has ls 3 [(0, .ref (ad 0)), (1, .int (nI i))] := hl
  have hW := rW_start hR hW
  have hinX5 : ∀ w ∈ u_ws RX5 TX5 26, w ∈ wsX5_writesDay := (fun _ h => List.mem_cons_of_mem _ (List.mem_append_right _ h))
  refine lv_sipush (v := nI 1000) hx hb dX5_writesDay_0 (by decide) ?_
  refine lv_istore_n (lv' := [(2, .int (nI 1000)), (0, .ref (ad 0)), (1, .int (nI i))]) hx hb dX5_writesDay_3 rfl hl (by decide) rfl (fun ls hl => ?_)
  refine c5_wD_step hi hx hb hml hown hts hK hE hA 1000 (by decide) (by decide) σ (by omega) (by exact hd) hW (lv_sub hl [0, 1, 2] rfl) (fun H locs ls hW hl => ?_)
  refine c5_wD_step hi hx hb hml hown hts hK hE hA 100 (by decide) (by decide) (wDg σ i 1000) (by have h1 := wDg_18 (σ := σ) (i := i) (u := 1000); have h2 := wDg_18 (σ := wDg σ i 1000) (i := i) (u := 100); have h3 := wDg_18 (σ := wDg (wDg σ i 1000) i 100) (i := i) (u := 10); omega) (by rw [wDg_f (by decide)]; exact hd) hW (lv_sub hl [0, 1, 2] rfl) (fun H locs ls hW hl => ?_)
  refine c5_wD_step hi hx hb hml hown hts hK hE hA 10 (by decide) (by decide) (wDg (wDg σ i 1000) i 100) (by have h1 := wDg_18 (σ := σ) (i := i) (u := 1000); have h2 := wDg_18 (σ := wDg σ i 1000) (i := i) (u := 100); have h3 := wDg_18 (σ := wDg (wDg σ i 1000) i 100) (i := i) (u := 10); omega) (by rw [wDg_f (by decide), wDg_f (by decide)]; exact hd) hW (lv_sub hl [0, 1, 2] rfl) (fun H locs ls hW hl => ?_)
  refine c5_wD_step hi hx hb hml hown hts hK hE hA 1 (by decide) (by decide) (wDg (wDg (wDg σ i 1000) i 100) i 10) (by have h1 := wDg_18 (σ := σ) (i := i) (u := 1000); have h2 := wDg_18 (σ := wDg σ i 1000) (i := i) (u := 100); have h3 := wDg_18 (σ := wDg (wDg σ i 1000) i 100) (i := i) (u := 10); omega) (by rw [wDg_f (by decide), wDg_f (by decide), wDg_f (by decide)]; exact hd) hW (lv_sub hl [0, 1, 2] rfl) (fun H locs ls hW hl => ?_)
  have hl : lv_has ls 3 [(2, .int (nI 0)), (0, .ref (ad 0)), (1, .int (nI i))] := hl
  refine lv_iload_n hx hb dX5_writesDay_4 rfl (lv_at hl 0 rfl) ?_
  refine lv_if_le (tgt := 46) hx hb dX5_writesDay_5 (by decide) (fun _ => ?_) (fun z => absurd (by decide) z)
  exact rr_vret hx hb hr hlk (Nat.le_refl 0) (Nat.le_refl 0) hW rfl dX5_writesDay_46

/-- the marks of letter i, moved up by one from place p on, up to the end n -/
def mvF (σ : Sg) (i p n : Nat) : Sg := fun g j => if g = 17 ∧ 200 * i + p < j ∧ j ≤ 200 * i + n then σ 17 (j - 1) else σ g j
theorem mvF_n {σ : Sg} {i n : Nat} : mvF σ i n n = σ := by
  funext g j
  unfold mvF
  rw [if_neg (by omega)]
theorem mvF_step {σ : Sg} {i p n : Nat} (hp : p < n) : st (mvF σ i (p + 1) n) 17 (200 * i + p + 1) (σ 17 (200 * i + p)) = mvF σ i p n := by
  funext g j
  unfold st mvF
  by_cases hg : g = 17
  · subst hg
    by_cases hj : j = 200 * i + p + 1
    · subst hj
      rw [if_pos ⟨rfl, rfl⟩, if_pos (by omega)]
      rfl
    · rw [if_neg (fun z => hj z.2)]
      by_cases h2 : 200 * i + (p + 1) < j ∧ j ≤ 200 * i + n
      · rw [if_pos ⟨rfl, h2⟩, if_pos (by omega)]
      · rw [if_neg (by omega), if_neg (by omega)]
  · rw [if_neg (fun z => hg z.1), if_neg (fun z => hg z.1), if_neg (fun z => hg z.1)]
theorem mvF_lo {σ : Sg} {i p n j : Nat} (h : j ≤ 200 * i + p) : mvF σ i p n 17 j = σ 17 j := by
  unfold mvF
  rw [if_neg (by omega)]
theorem mvF_f {σ : Sg} {i p n g j : Nat} (h : g ≠ 17) : mvF σ i p n g j = σ g j := by
  unfold mvF
  rw [if_neg (fun z => h z.1)]
theorem lpF_b {σ : Sg} {i : Nat} : ∀ n, (lpF σ i n < n ∧ isPM (σ 17 (200 * i + lpF σ i n))) ∨ lpF σ i n = 4294967295
  | 0 => Or.inr rfl
  | n + 1 => by
    unfold lpF
    split
    · rename_i h
      exact Or.inl ⟨Nat.lt_succ_self n, h⟩
    · rcases lpF_b (σ := σ) (i := i) n with h | h
      · exact Or.inl ⟨by omega, h.2⟩
      · exact Or.inr h
theorem lpF_ge {σ : Sg} {i k : Nat} : ∀ n, k < n → isPM (σ 17 (200 * i + k)) → k ≤ lpF σ i n ∧ lpF σ i n < n
  | 0, h, _ => absurd h (Nat.not_lt_zero k)
  | n + 1, h, hk => by
    unfold lpF
    split
    · omega
    · rename_i hn
      have hkn : k < n := by
        rcases Nat.lt_or_ge k n with z | z
        · exact z
        · have e : k = n := by omega
          subst e
          exact absurd hk hn
      have := lpF_ge n hkn hk
      omega
theorem lpF_no {σ : Sg} {i q n : Nat} (h : lpF σ i n = q) (hq : q < n) : ∀ k, k < n → q < k → ¬ isPM (σ 17 (200 * i + k)) := by
  intro k hk hqk hp
  have := (lpF_ge (σ := σ) (i := i) n hk hp).1
  omega

set_option maxHeartbeats 4000000 in
set_option maxRecDepth 100000 in
theorem c5_strikesOut (l : Launch) (G : mG) (ad : Nat → Nat) (σ : Sg) (i : Nat) (hi : i < 40) (hm : σ 18 i < 190) (hp : lpS σ i < σ 18 i) (h17 : ∀ k, k < 8000 → σ 17 k < 65536) : cRv l yX5_strikesOut wsX5_strikesOut 1 G ad σ [.int (nI i)] (fun σ9 => σ9 = shS σ i) := by
  intro M sz hR
  refine m_start cX5_strikesOut 5 none (by decide) rfl (Nat.le_of_ble_eq_true rfl) ?_
  intro p e s m below meth c ls hx hb hr hml hown hlk hnm hts hK hsz hE hW hl
  have hA := mA_A (M := M) hsz
  have hl : lv_has ls 5 [(0, .ref (ad 0)), (1, .int (nI i))] := hl
  have hW := rW_start hR hW
  have hinX5 : ∀ w ∈ u_ws RX5 TX5 26, w ∈ wsX5_strikesOut := (fun _ h => List.mem_cons_of_mem _ (List.mem_append_right _ h))
  refine lv_aload_n hx hb dX5_strikesOut_0 rfl (lv_at hl 0 rfl) ?_
  refine rr_geta hx hb hts hinX5 hown hK hW 18 (by decide) rfl rfl (hts (.fieldLink RX5 58 "SeaPostModel" "markMany" "[I") (by decide +kernel)) dX5_strikesOut_1 ?_
  refine lv_iload_n hx hb dX5_strikesOut_4 rfl (lv_at hl 1 rfl) ?_
  refine rr_ald (j := i) hx hb hK hW 18 rfl rfl (show i < 40 by omega) dX5_strikesOut_5 ?_
  refine lv_istore_n (lv' := [(2, .int (nI (σ 18 i))), (0, .ref (ad 0)), (1, .int (nI i))]) hx hb dX5_strikesOut_6 rfl hl (by decide) rfl (fun ls hl => ?_)
  refine lv_iconst (v := nI 0) hx hb dX5_strikesOut_7 (by decide) ?_
  refine lv_istore_n (lv' := [(3, .int (nI 0)), (2, .int (nI (σ 18 i))), (0, .ref (ad 0)), (1, .int (nI i))]) hx hb dX5_strikesOut_8 rfl hl (by decide) rfl (fun ls hl => ?_)
  refine m_loop (σ 18 i - lpS σ i) (fun n H locs ls => rW G ad (mA M sz) s.heap M (mvF σ i (σ 18 i - n) (σ 18 i)) H locs ∧ lv_has ls 5 [(2, .int (nI (σ 18 i - n))), (3, .int (nI (if n = σ 18 i - lpS σ i then 1 else 0))), (0, .ref (ad 0)), (1, .int (nI i))]) 0 (Nat.zero_le _) ⟨by rw [Nat.sub_zero, mvF_n]; exact hW, by rw [if_neg (by omega)]; exact lv_sub hl [1, 0, 2, 3] rfl⟩ (fun n H locs ls hn hI ih => ?_)
  obtain ⟨hW, hl⟩ := hI
  refine lv_iload_n hx hb dX5_strikesOut_9 rfl (lv_at hl 1 rfl) ?_
  refine nb_if_ne (tgt := 55) hx hb dX5_strikesOut_10 (by decide) (fun c_1 => ?_) (fun c_1 => ?_)
  · skip
    have hnn : σ 18 i - n = lpS σ i := by omega
    rw [hnn] at hW hl
    refine lv_aload_n hx hb dX5_strikesOut_55 rfl (lv_at hl 2 rfl) ?_
    refine rr_geta hx hb hts hinX5 hown hK hW 17 (by decide) rfl rfl (hts (.fieldLink RX5 55 "SeaPostModel" "markOf" "[I") (by decide +kernel)) dX5_strikesOut_56 ?_
    refine lv_sipush (v := nI 200) hx hb dX5_strikesOut_59 (by decide) ?_
    refine lv_iload_n hx hb dX5_strikesOut_62 rfl (lv_at hl 3 rfl) ?_
    refine lv_imul hx hb dX5_strikesOut_63 (lv_tope (pk_mul 200 i) ?_)
    refine lv_iload_n hx hb dX5_strikesOut_64 rfl (lv_at hl 0 rfl) ?_
    refine lv_iadd hx hb dX5_strikesOut_65 (lv_tope (nI_add (200 * i) (lpS σ i)) ?_)
    refine lv_bipush (v := nI 45) hx hb dX5_strikesOut_66 (by decide) ?_
    refine rr_ast (j := 200 * i + (lpS σ i)) (v := 45) hx hb hK hW 17 rfl rfl (show 200 * i + (lpS σ i) < 8000 by omega) dX5_strikesOut_68 (fun H locs hW => ?_)
    obtain ⟨σ_2, eσ_2⟩ : ∃ z : Sg, z = st (mvF σ i (lpS σ i) (σ 18 i)) 17 (200 * i + (lpS σ i)) 45 := ⟨_, rfl⟩
    rw [← eσ_2] at hW
    refine lv_aload_n hx hb dX5_strikesOut_69 rfl (lv_at hl 2 rfl) ?_
    refine rr_geta hx hb hts hinX5 hown hK hW 18 (by decide) rfl rfl (hts (.fieldLink RX5 58 "SeaPostModel" "markMany" "[I") (by decide +kernel)) dX5_strikesOut_70 ?_
    refine lv_iload_n hx hb dX5_strikesOut_73 rfl (lv_at hl 3 rfl) ?_
    refine lv_dup2_11 hx hb dX5_strikesOut_74 rfl rfl ?_
    refine rr_ald (j := i) hx hb hK hW 18 rfl rfl (show i < 40 by omega) dX5_strikesOut_75 ?_
    refine lv_tope (congrArg nI (show σ_2 18 i = σ 18 i by rw [eσ_2, st_f (by decide), mvF_f (by decide)])) ?_
    refine lv_iconst (v := nI 1) hx hb dX5_strikesOut_76 (by decide) ?_
    refine lv_iadd hx hb dX5_strikesOut_77 (lv_tope (nI_add (σ 18 i) 1) ?_)
    refine rr_ast (j := i) (v := σ 18 i + 1) hx hb hK hW 18 rfl rfl (show i < 40 by omega) dX5_strikesOut_78 (fun H locs hW => ?_)
    obtain ⟨σ_3, eσ_3⟩ : ∃ z : Sg, z = st σ_2 18 i (σ 18 i + 1) := ⟨_, rfl⟩
    rw [← eσ_3] at hW
    have hfin : σ_3 = shS σ i := by
      subst eσ_2; subst eσ_3; funext g j; unfold st mvF shS
      by_cases hg : g = 17
      · subst hg; by_cases hj : j = 200 * i + lpS σ i
        · subst hj; simp
        · simp [hj]
      · by_cases hg2 : g = 18
        · subst hg2; by_cases hj : j = i <;> simp [hj]
        · simp [hg, hg2]
    exact rr_vret hx hb hr hlk (Nat.le_refl 0) (Nat.le_refl 0) hW hfin dX5_strikesOut_79
  · skip
    have hn2 : n < σ 18 i - lpS σ i := by omega
    have h17n := h17 (200 * i + (σ 18 i - (n + 1))) (by omega)
    have hrd : mvF σ i (σ 18 i - n) (σ 18 i) 17 (200 * i + (σ 18 i - (n + 1))) = σ 17 (200 * i + (σ 18 i - (n + 1))) := mvF_lo (by omega)
    refine lv_iinc (v := nI (σ 18 i - (n + 1))) (lv' := [(2, .int (nI (σ 18 i - (n + 1)))), (3, .int (nI (if n = σ 18 i - lpS σ i then 1 else 0))), (0, .ref (ad 0)), (1, .int (nI i))]) hx hb dX5_strikesOut_13 hl (k := 0) rfl (by rw [show (Int32.ofInt (-1)) = -1 by decide, show σ 18 i - n = (σ 18 i - (n + 1)) + 1 by omega]; exact pk_m1 _) (by decide) rfl (fun ls hl => ?_)
    refine lv_aload_n hx hb dX5_strikesOut_16 rfl (lv_at hl 2 rfl) ?_
    refine rr_geta hx hb hts hinX5 hown hK hW 17 (by decide) rfl rfl (hts (.fieldLink RX5 55 "SeaPostModel" "markOf" "[I") (by decide +kernel)) dX5_strikesOut_17 ?_
    refine lv_sipush (v := nI 200) hx hb dX5_strikesOut_20 (by decide) ?_
    refine lv_iload_n hx hb dX5_strikesOut_23 rfl (lv_at hl 3 rfl) ?_
    refine lv_imul hx hb dX5_strikesOut_24 (lv_tope (pk_mul 200 i) ?_)
    refine lv_iload_n hx hb dX5_strikesOut_25 rfl (lv_at hl 0 rfl) ?_
    refine lv_iadd hx hb dX5_strikesOut_26 (lv_tope (nI_add (200 * i) (σ 18 i - (n + 1))) ?_)
    refine rr_ald (j := 200 * i + (σ 18 i - (n + 1))) hx hb hK hW 17 rfl rfl (show 200 * i + (σ 18 i - (n + 1)) < 8000 by omega) dX5_strikesOut_27 ?_
    refine lv_tope (congrArg nI hrd) ?_
    refine lv_istore (lv' := [(4, .int (nI (σ 17 (200 * i + (σ 18 i - (n + 1)))))), (2, .int (nI (σ 18 i - (n + 1)))), (3, .int (nI (if n = σ 18 i - lpS σ i then 1 else 0))), (0, .ref (ad 0)), (1, .int (nI i))]) hx hb dX5_strikesOut_28 hl (by decide) rfl (fun ls hl => ?_)
    refine lv_aload_n hx hb dX5_strikesOut_30 rfl (lv_at hl 3 rfl) ?_
    refine rr_geta hx hb hts hinX5 hown hK hW 17 (by decide) rfl rfl (hts (.fieldLink RX5 55 "SeaPostModel" "markOf" "[I") (by decide +kernel)) dX5_strikesOut_31 ?_
    refine lv_sipush (v := nI 200) hx hb dX5_strikesOut_34 (by decide) ?_
    refine lv_iload_n hx hb dX5_strikesOut_37 rfl (lv_at hl 4 rfl) ?_
    refine lv_imul hx hb dX5_strikesOut_38 (lv_tope (pk_mul 200 i) ?_)
    refine lv_iload_n hx hb dX5_strikesOut_39 rfl (lv_at hl 1 rfl) ?_
    refine lv_iadd hx hb dX5_strikesOut_40 (lv_tope (nI_add (200 * i) (σ 18 i - (n + 1))) ?_)
    refine lv_iconst (v := nI 1) hx hb dX5_strikesOut_41 (by decide) ?_
    refine lv_iadd hx hb dX5_strikesOut_42 (lv_tope (nI_add (200 * i + (σ 18 i - (n + 1))) 1) ?_)
    refine lv_iload hx hb dX5_strikesOut_43 (lv_at hl 0 rfl) ?_
    refine rr_ast (j := (200 * i + (σ 18 i - (n + 1))) + 1) (v := σ 17 (200 * i + (σ 18 i - (n + 1)))) hx hb hK hW 17 rfl rfl (show (200 * i + (σ 18 i - (n + 1))) + 1 < 8000 by omega) dX5_strikesOut_45 (fun H locs hW => ?_)
    obtain ⟨σ_4, eσ_4⟩ : ∃ z : Sg, z = st (mvF σ i (σ 18 i - n) (σ 18 i)) 17 ((200 * i + (σ 18 i - (n + 1))) + 1) (σ 17 (200 * i + (σ 18 i - (n + 1)))) := ⟨_, rfl⟩
    rw [← eσ_4] at hW
    refine lv_iload hx hb dX5_strikesOut_46 (lv_at hl 0 rfl) ?_
    refine rk_S (As := [.int (nI (σ 17 (200 * i + (σ 18 i - (n + 1)))))]) (nL := 5) ⟨hx, hb, hml, hown, hts⟩ (c5_isPortMark l (σ 17 (200 * i + (σ 18 i - (n + 1)))) (by omega)) (va_cwS 1 hts gX5_strikesOut_X5_isPortMark rfl rfl rfl (by decide +kernel) ⟨(Nat.le_of_ble_eq_true rfl), (Nat.le_of_ble_eq_true rfl)⟩) hK hE hW hA rfl hl.1 rfl (Nat.le_of_ble_eq_true rfl) dX5_strikesOut_48 (Nat.zero_le _) (Nat.zero_le _) (fun H locs hW => ?_)
    refine lv_tope (y := nI (if n + 1 = σ 18 i - lpS σ i then 1 else 0)) (congrArg nI ?_) ?_
    · by_cases hc9 : n + 1 = σ 18 i - lpS σ i
      · have hb9 := lpF_b (σ := σ) (i := i) (σ 18 i)
        have e9 : σ 18 i - (n + 1) = lpF σ i (σ 18 i) := by have : lpS σ i = lpF σ i (σ 18 i) := rfl; omega
        have hlt9 : lpF σ i (σ 18 i) < σ 18 i := hp
        rw [if_pos hc9, if_pos (by rw [e9]; rcases hb9 with z | z; exact z.2; omega)]
      · rw [if_neg hc9, if_neg (lpF_no (σ := σ) (i := i) (q := lpS σ i) (n := σ 18 i) rfl hp _ (by omega) (by omega))]
    refine lv_istore_n (lv' := [(3, .int (nI (if n + 1 = σ 18 i - lpS σ i then 1 else 0))), (4, .int (nI (σ 17 (200 * i + (σ 18 i - (n + 1)))))), (2, .int (nI (σ 18 i - (n + 1)))), (0, .ref (ad 0)), (1, .int (nI i))]) hx hb dX5_strikesOut_51 rfl hl (by decide) rfl (fun ls hl => ?_)
    refine lv_goto (tgt := 9) hx hb dX5_strikesOut_52 (by decide) ?_
    have hst : σ_4 = mvF σ i (σ 18 i - (n + 1)) (σ 18 i) := by
      subst eσ_4; have h := mvF_step (σ := σ) (i := i) (p := σ 18 i - (n + 1)) (n := σ 18 i) (by omega)
      rw [show σ 18 i - (n + 1) + 1 = σ 18 i - n by omega] at h
      rw [← h]
    exact ih _ _ _ (by omega) ⟨by rw [← hst]; exact hW, lv_sub hl [2, 0, 3, 4] rfl⟩

set_option maxHeartbeats 4000000 in
set_option maxRecDepth 100000 in
theorem c5_dies (l : Launch) (G : mG) (ad : Nat → Nat) (σ : Sg) (i : Nat) (hi : i < 40) (hm : σ 18 i < 200) (h20 : σ 20 0 < 40) : cRv l yX5_dies wsX5_dies 1 G ad σ [.int (nI i)] (fun σ9 => σ9 = di σ i) := by
  intro M sz hR
  refine m_start cX5_dies 2 none (by decide) rfl (Nat.le_of_ble_eq_true rfl) ?_
  intro p e s m below meth c ls hx hb hr hml hown hlk hnm hts hK hsz hE hW hl
  have hA := mA_A (M := M) hsz
  have hl : lv_has ls 2 [(0, .ref (ad 0)), (1, .int (nI i))] := hl
  have hW := rW_start hR hW
  have hinX5 : ∀ w ∈ u_ws RX5 TX5 26, w ∈ wsX5_dies := (fun _ h => List.mem_cons_of_mem _ (List.mem_append_right _ h))
  refine lv_aload_n hx hb dX5_dies_0 rfl (lv_at hl 0 rfl) ?_
  refine rr_geta hx hb hts hinX5 hown hK hW 12 (by decide) rfl rfl (hts (.fieldLink RX5 40 "SeaPostModel" "stateOf" "[I") (by decide +kernel)) dX5_dies_1 ?_
  refine lv_iload_n hx hb dX5_dies_4 rfl (lv_at hl 1 rfl) ?_
  refine lv_iconst (v := nI 5) hx hb dX5_dies_5 (by decide) ?_
  refine rr_ast (j := i) (v := 5) hx hb hK hW 12 rfl rfl (show i < 40 by omega) dX5_dies_6 (fun H locs hW => ?_)
  obtain ⟨σ_1, eσ_1⟩ : ∃ z : Sg, z = st σ 12 i 5 := ⟨_, rfl⟩
  rw [← eσ_1] at hW
  refine lv_aload_n hx hb dX5_dies_7 rfl (lv_at hl 0 rfl) ?_
  refine lv_iload_n hx hb dX5_dies_8 rfl (lv_at hl 1 rfl) ?_
  refine lv_bipush (v := nI 43) hx hb dX5_dies_9 (by decide) ?_
  refine rk_Vv (As := [.int (nI i), .int (nI 43)]) (nL := 2) ⟨hx, hb, hml, hown, hts⟩ (c5_writes l G ad σ_1 i 43 (by omega) (by subst eσ_1; exact hm)) (cwV 2 hts gX5_dies_X5_writes rfl rfl rfl (by decide +kernel) ⟨(Nat.le_of_ble_eq_true rfl), (Nat.le_of_ble_eq_true rfl)⟩) hK hE hW hA rfl hl.1 rfl (Nat.le_of_ble_eq_true rfl) dX5_dies_11 (Nat.zero_le _) (Nat.zero_le _) (fun σ9 H locs hp_2 hW => ?_)
  obtain ⟨σ_3, eσ_3⟩ : ∃ z : Sg, z = σ9 := ⟨_, rfl⟩
  rw [← eσ_3] at hW
  rw [hp_2] at eσ_3
  clear hp_2
  refine lv_aload_n hx hb dX5_dies_14 rfl (lv_at hl 0 rfl) ?_
  refine rr_geta hx hb hts hinX5 hown hK hW 19 (by decide) rfl rfl (hts (.fieldLink RX5 61 "SeaPostModel" "died" "[I") (by decide +kernel)) dX5_dies_15 ?_
  refine lv_aload_n hx hb dX5_dies_18 rfl (lv_at hl 0 rfl) ?_
  refine rr_geti hx hb hts hinX5 hown hK hW 20 (by decide) rfl rfl (hts (.fieldLink RX5 112 "SeaPostModel" "deadMany" "I") (by decide +kernel)) dX5_dies_19 ?_
  refine lv_tope (congrArg nI (show σ_3 20 0 = σ 20 0 by rw [eσ_3, wr_f (by decide), eσ_1, st_f (by decide)])) ?_
  refine lv_iload_n hx hb dX5_dies_22 rfl (lv_at hl 1 rfl) ?_
  refine rr_ast (j := σ 20 0) (v := i) hx hb hK hW 19 rfl rfl (show σ 20 0 < 40 by omega) dX5_dies_23 (fun H locs hW => ?_)
  obtain ⟨σ_4, eσ_4⟩ : ∃ z : Sg, z = st σ_3 19 (σ 20 0) i := ⟨_, rfl⟩
  rw [← eσ_4] at hW
  refine lv_aload_n hx hb dX5_dies_24 rfl (lv_at hl 0 rfl) ?_
  refine lv_dup hx hb dX5_dies_25 rfl ?_
  refine rr_geti hx hb hts hinX5 hown hK hW 20 (by decide) rfl rfl (hts (.fieldLink RX5 112 "SeaPostModel" "deadMany" "I") (by decide +kernel)) dX5_dies_26 ?_
  refine lv_tope (congrArg nI (show σ_4 20 0 = σ 20 0 by rw [eσ_4, st_f (by decide), eσ_3, wr_f (by decide), eσ_1, st_f (by decide)])) ?_
  refine lv_iconst (v := nI 1) hx hb dX5_dies_29 (by decide) ?_
  refine lv_iadd hx hb dX5_dies_30 (lv_tope (nI_add (σ 20 0) 1) ?_)
  refine rr_puti (v := σ 20 0 + 1) hx hb hts hinX5 hown hK hW 20 (by decide) rfl rfl (hts (.fieldLink RX5 112 "SeaPostModel" "deadMany" "I") (by decide +kernel)) rfl (by decide +kernel) dX5_dies_31 (fun H locs hW => ?_)
  obtain ⟨σ_5, eσ_5⟩ : ∃ z : Sg, z = st σ_4 20 0 (σ 20 0 + 1) := ⟨_, rfl⟩
  rw [← eσ_5] at hW
  exact rr_vret hx hb hr hlk (Nat.le_refl 0) (Nat.le_refl 0) hW (by subst eσ_1; subst eσ_3; subst eσ_4; subst eσ_5; rfl) dX5_dies_34
