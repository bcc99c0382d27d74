/-! THE CLASS: tell, post (mine; the rows are laid by wip/whole/gen) -/

set_option maxHeartbeats 4000000 in
set_option maxRecDepth 100000 in
theorem vTell (l : Launch) (G : mG) (N : Mem) (Γ : Adr) (σ ρ : Sg) (u q r : Nat) (hH : HS σ ρ) (hu : u < σ 0 0) (hn20 : σ 7 u < 20) (hr : r = 21 * u + σ 7 u) (M : Mem) (sz : Nat) (hR : Rp G N Γ (cs σ ρ) M) : cMv l yX3_tellDraft wsX3_tellDraft 7 5 88 G M sz [.ref (Γ 4 u), .int (nI q), .int (nI (σ 24 0))] (fun M' => ∃ Γ' : Adr, Γ' 0 0 = Γ 0 0 ∧ Γ' 4 u = Γ 4 u ∧ Γ' 2 (10 + u) = Γ 2 (10 + u) ∧ Rp G N Γ' (cs (nxT σ u q) (ρT ρ r q (σ 24 0))) M') := by
  refine m_start cX3_tellDraft 3 none (by decide) rfl (Nat.le_of_ble_eq_true rfl) ?_
  intro p e s m below meth c ls hx hb hr9 hml hown hlk hnm hts hK hsz hE hW hl
  have hA := mA_A (M := M) hsz
  have hW : cW G N Γ (cs σ ρ) (mA M sz) s.heap s.heap [] := ⟨M, hW, hR⟩
  have hl : lv_has ls 3 [(0, .ref (Γ 4 u)), (1, .int (nI q)), (2, .int (nI (σ 24 0)))] := hl
  have hinX2 : ∀ w ∈ u_ws RX2 TX2 6, w ∈ wsX3_tellDraft := (fun _ h => List.mem_cons_of_mem _ (List.mem_append_left _ (List.mem_append_right _ h)))
  have hinX3 : ∀ w ∈ u_ws RX3 TX3 3, w ∈ wsX3_tellDraft := (fun _ h => List.mem_cons_of_mem _ (List.mem_append_left _ (List.mem_append_left _ (List.mem_append_right _ h))))
  have hinJx4a65c : ∀ w ∈ u_ws RJx4a65c TJx4a65c 3, w ∈ wsX3_tellDraft := (fun _ h => List.mem_cons_of_mem _ (List.mem_append_right _ h))
  have b0 : σ 0 0 ≤ 8 := hH.1.1 0 0
  have hdr : isR (cs σ ρ) r := by
    rw [hr]
    unfold isR
    rw [show (21 * u + σ 7 u) / 21 = u by omega, show (21 * u + σ 7 u) % 21 = σ 7 u by omega]
    exact ⟨hu, Or.inr rfl⟩
  refine lv_aload_n hx hb dX3_tellDraft_0 rfl (lv_at hl 0 rfl) ?_
  refine cr_get hx hb hts hinX3 hown hK hW (fun M hM => hM.o4 (i := u) hu) (by rfl) 2 (by decide) (hts (.fieldLink RX3 24 "SeaPost$Ship" "draft" "LSeaPost$Route;") (by decide +kernel)) (fun _ h => h) rfl dX3_tellDraft_1 ?_
  refine W.eq (g2 := F0 m 4 ls [.ref (Γ 5 r)]) (by rw [hr]; rfl) ?_
  refine lv_iload_n hx hb dX3_tellDraft_4 rfl (lv_at hl 1 rfl) ?_
  refine cr_put (ty := .int) (ς' := st (cs σ ρ) 1 r q) hx hb hts hinX2 tyX2 tyX2_ok nmX2 hown hK hW (fun M hM => hM.o5 (i := r) hdr) (by rfl) 4 (by decide) (hts (.fieldLink RX3 28 "SeaPost$Route" "toldAt" "I") (by decide +kernel)) (fun _ h => h) rfl (by decide +kernel) rfl rfl (Nat.le_of_ble_eq_true rfl) rfl (fun M hM => hM.p5_1 (i := r) (v := q) hdr) dX3_tellDraft_5 (fun H locs hW => ?_)
  obtain ⟨σ_1, eσ_1⟩ : ∃ z : Sg, z = st (cs σ ρ) 1 r q := ⟨_, rfl⟩
  rw [← eσ_1] at hW
  refine lv_aload_n hx hb dX3_tellDraft_8 rfl (lv_at hl 0 rfl) ?_
  refine cr_get hx hb hts hinX3 hown hK hW (fun M hM => hM.o4 (i := u) (by subst eσ_1; exact hu)) (by rfl) 2 (by decide) (hts (.fieldLink RX3 24 "SeaPost$Ship" "draft" "LSeaPost$Route;") (by decide +kernel)) (fun _ h => h) rfl dX3_tellDraft_9 ?_
  refine W.eq (g2 := F0 m 12 ls [.ref (Γ 5 (21 * u + (cs σ ρ) 35 u))]) (by rw [show σ_1 35 u = (cs σ ρ) 35 u by rw [eσ_1, st_f (by decide)]]) ?_
  refine W.eq (g2 := F0 m 12 ls [.ref (Γ 5 r)]) (by rw [hr]; rfl) ?_
  refine lv_iload_n hx hb dX3_tellDraft_12 rfl (lv_at hl 2 rfl) ?_
  refine cr_put (ty := .int) (ς' := st σ_1 2 r (σ 24 0)) hx hb hts hinX2 tyX2 tyX2_ok nmX2 hown hK hW (fun M hM => hM.o5 (i := r) (by subst eσ_1; exact hdr)) (by rfl) 5 (by decide) (hts (.fieldLink RX3 32 "SeaPost$Route" "toldOn" "I") (by decide +kernel)) (fun _ h => h) rfl (by decide +kernel) rfl rfl (Nat.le_of_ble_eq_true rfl) rfl (fun M hM => hM.p5_2 (i := r) (v := σ 24 0) (by subst eσ_1; exact hdr)) dX3_tellDraft_13 (fun H locs hW => ?_)
  obtain ⟨σ_2, eσ_2⟩ : ∃ z : Sg, z = st σ_1 2 r (σ 24 0) := ⟨_, rfl⟩
  rw [← eσ_2] at hW
  refine lv_aload_n hx hb dX3_tellDraft_16 rfl (lv_at hl 0 rfl) ?_
  refine cr_get hx hb hts hinX3 hown hK hW (fun M hM => hM.o4 (i := u) (by subst eσ_1; subst eσ_2; exact hu)) (by rfl) 0 (by decide) (hts (.fieldLink RX3 12 "SeaPost$Ship" "told" "Ljava/util/ArrayList;") (by decide +kernel)) (fun _ h => h) rfl dX3_tellDraft_17 ?_
  refine lv_aload_n hx hb dX3_tellDraft_20 rfl (lv_at hl 0 rfl) ?_
  refine cr_get hx hb hts hinX3 hown hK hW (fun M hM => hM.o4 (i := u) (by subst eσ_1; subst eσ_2; exact hu)) (by rfl) 2 (by decide) (hts (.fieldLink RX3 24 "SeaPost$Ship" "draft" "LSeaPost$Route;") (by decide +kernel)) (fun _ h => h) rfl dX3_tellDraft_21 ?_
  refine W.eq (g2 := F0 m 24 ls [.ref (Γ 5 (21 * u + (cs σ ρ) 35 u)), .ref (Γ 2 (10 + u))]) (by rw [show σ_2 35 u = (cs σ ρ) 35 u by rw [eσ_2, st_f (by decide), eσ_1, st_f (by decide)]]) ?_
  refine W.eq (g2 := F0 m 24 ls [.ref (Γ 5 (21 * u + σ 7 u)), .ref (Γ 2 (10 + u))]) rfl ?_
  refine ck_addT (n := σ 7 u) ⟨hx, hb, hml, hown, hts⟩ (cwV 1 hts gX3_tellDraft_Jx4a65c_add_9ea2d rfl rfl rfl (by decide +kernel) ⟨(Nat.le_of_ble_eq_true rfl), (Nat.le_of_ble_eq_true rfl)⟩) hK hE hW hA (by subst eσ_1; subst eσ_2; exact hu) (by subst eσ_1; subst eσ_2; exact b0) (by subst eσ_1; subst eσ_2; exact cs_30t (σ := σ) (ρ := ρ) (u := u) (by omega)) hn20 (by subst eσ_1; subst eσ_2; rfl) hl.1 (Nat.le_of_ble_eq_true rfl) dX3_tellDraft_24 ⟨(Nat.le_of_ble_eq_true rfl), (Nat.le_of_ble_eq_true rfl)⟩ (fun H locs hW => ?_)
  refine lv_pop hx hb dX3_tellDraft_27 rfl ?_
  refine lv_aload_n hx hb dX3_tellDraft_28 rfl (lv_at hl 0 rfl) ?_
  obtain ⟨M3, hW3, hR3⟩ := hW
  subst eσ_1
  subst eσ_2
  have hW := hW3
  have c4 := hR3.o4 (i := u) (show u < σ 0 0 from hu)
  refine mr_new (fs := [.null, .null, .null, .int (nI 0), .int (nI 0), .int (nI 0)]) hx hb hts hinX2 tyX2 tyX2_ok hown (hts (.classLink RX3 21 RX2) (by decide +kernel)) (hts (.instantiable RX2 6) (by decide +kernel)) (hts (.initialized RX2) (by decide +kernel)) hK hW hA (ci := 3) (by rfl) (fun j hj => by match j, hj with | 0, _ => rfl | 1, _ => rfl | 2, _ => rfl | 3, _ => rfl | 4, _ => rfl | 5, _ => rfl) (Nat.le_of_ble_eq_true rfl) (Nat.le_of_ble_eq_true rfl) dX3_tellDraft_29 (fun b9 H hb9 hW => ?_)
  refine lv_dup hx hb dX3_tellDraft_32 rfl ?_
  refine mk_v (va_runIN (As := []) (nL := 3) ⟨hx, hb, hml, hown, hts⟩ (nRoute l G _ _ b9 (if_pos rfl)) ⟨va_cnB 0 hts gX3_tellDraft_X2_init_n23 rfl rfl rfl (hE.2.2.1 (RX3, 23, yX2_init) (by decide +kernel)) (hts (.initialized RX2) (by decide +kernel)) (by decide +kernel) ⟨(Nat.le_of_ble_eq_true rfl), (Nat.le_of_ble_eq_true rfl)⟩, rfl, hts (.instanceMethod yX2_init) (by decide +kernel)⟩ (mp_S hK hE hW hA) rfl rfl hl.1 rfl (lv_room (Nat.le_of_ble_eq_true rfl)) dX3_tellDraft_33 ⟨(Nat.le_of_ble_eq_true rfl), (Nat.le_of_ble_eq_true rfl)⟩) hW hA (fun M4 H locs hp hW => ?_)
  obtain ⟨a9, y9, t9, f1, f2, f3, m0, m1, m2, m3, hd9, ho, -⟩ := hp
  have hM9 : ∀ x e, M3 x = some e → M4 x = some e := fun x e hx9 => by
    have h0 : ∀ z, M3 z = none → x ≠ z := fun z hz w => by rw [w, hz] at hx9; cases hx9
    exact (ho x (h0 _ hb9) (h0 _ (va_up_none f1)) (h0 _ (va_up_none f2)) (h0 _ (va_up_none f3))).trans ((if_neg (h0 _ hb9)).trans hx9)
  have hne : ∀ z, M3 z = none → z ≠ Γ 4 u := fun z hz w => by rw [w, c4] at hz; cases hz
  refine mr_put (ty := .object "SeaPost$Route") (fs' := [.ref (Γ 2 (10 + u)), .ref (Γ 2 (20 + u)), .ref b9]) hx hb hts hinX3 tyX3 tyX3_ok nmX3 hown hK hW (hM9 _ _ c4) (by rfl) 2 (by decide) (hts (.fieldLink RX3 24 "SeaPost$Ship" "draft" "LSeaPost$Route;") (by decide +kernel)) (fun _ h => h) rfl (by decide +kernel) rfl rfl (Nat.le_of_ble_eq_true rfl) rfl dX3_tellDraft_36 (fun H locs hW => ?_)
  have hR5 := Rp.tell (M' := va_up M4 (Γ 4 u) (some (.inr (4, [.ref (Γ 2 (10 + u)), .ref (Γ 2 (20 + u)), .ref b9])))) hH hu rfl hn20 hr hR3 hb9 (va_up_none f1) (va_up_none f2) (va_up_none f3) ((if_neg (hne _ hb9)).trans m0) ((if_neg (hne _ (va_up_none f1))).trans m1) ((if_neg (hne _ (va_up_none f2))).trans m2) ((if_neg (hne _ (va_up_none f3))).trans m3) (if_pos rfl) hd9 (fun x e hx9 hxn => (if_neg hxn).trans (hM9 x e hx9))
  exact mr_vret hx hb hr9 hlk (Nat.le_of_ble_eq_true rfl) (Nat.le_of_ble_eq_true rfl) hW hR5 dX3_tellDraft_39

set_option maxHeartbeats 4000000 in
set_option maxRecDepth 100000 in
theorem wTell (l : Launch) (hst : l.stackTraces = false) (G : mG) (N : Mem) (Γ : Adr) (σ ρ : Sg) (u : Nat) (hu : u < 4294967296) (q : Nat) (hq : q < 4294967296) (hH : HS σ ρ) : pXi l yX4_tell wsX4_tell 8 9 120 G N Γ σ ρ [.ref (Γ 0 0), .int (nI u), .int (nI q)] (thT σ u q) (σ 7 u) (nxT σ u q) ["java/lang/IndexOutOfBoundsException", "java/lang/IllegalStateException"] := by
  intro M sz hR
  refine m_startX cX4_tell 4 (some .int) (by decide) rfl (Nat.le_of_ble_eq_true rfl) ?_
  intro p e s m below meth c ls hx hb hr hml hown hlk hnm hts hK hsz hE hW hl htab
  have hA := mA_A (M := M) hsz
  have hl : lv_has ls 4 [(0, .ref (Γ 0 0)), (1, .int (nI u)), (2, .int (nI q))] := hl
  have hinX2 : ∀ w ∈ u_ws RX2 TX2 6, w ∈ wsX4_tell := (fun _ h => List.mem_cons_of_mem _ (List.mem_append_left _ (List.mem_append_left _ (List.mem_append_right _ h))))
  have hinX3 : ∀ w ∈ u_ws RX3 TX3 3, w ∈ wsX4_tell := (fun _ h => List.mem_cons_of_mem _ (List.mem_append_left _ (List.mem_append_left _ (List.mem_append_left _ (List.mem_append_left _ (List.mem_append_right _ h))))))
  have hinX4 : ∀ w ∈ u_ws RX4 TX4 6, w ∈ wsX4_tell := (fun _ h => List.mem_cons_of_mem _ (List.mem_append_left _ (List.mem_append_left _ (List.mem_append_left _ (List.mem_append_left _ (List.mem_append_left _ (List.mem_append_right _ h)))))))
  have hinJx4a65c : ∀ w ∈ u_ws RJx4a65c TJx4a65c 3, w ∈ wsX4_tell := (fun _ h => List.mem_cons_of_mem _ (List.mem_append_left _ (List.mem_append_left _ (List.mem_append_left _ (List.mem_append_right _ h)))))
  have hI := hH.1
  obtain ⟨hV, hS, hD, hL, hZ, hRI⟩ := id hI
  have b0 : σ 0 0 ≤ 8 := hV 0 0
  have b8 : σ 8 0 ≤ 40 := hV 8 0
  have b24 : σ 24 0 ≤ 1000 := hV 24 0
  have hct := hH.cnt
  refine lv_aload_n hx hb dX4_tell_0 rfl (lv_at hl 0 rfl) ?_
  refine lv_iload_n hx hb dX4_tell_1 rfl (lv_at hl 1 rfl) ?_
  refine mx_v (vx_runV (As := [.int (nI u)]) (nL := 4) ⟨hx, hb, hml, hown, hts⟩ (xShip l hst G N Γ (cs σ ρ) u (by omega) (show σ 0 0 < 2147483648 by omega) _ _ hR) (cwV 1 hts gX4_tell_X4_needShip rfl rfl rfl (by decide +kernel) ⟨(Nat.le_of_ble_eq_true rfl), (Nat.le_of_ble_eq_true rfl)⟩) (mp_V hK hE hW hA (mW_recv hK hW.1 hR.o0 (by rfl))) rfl rfl hl.1 rfl (lv_room (Nat.le_of_ble_eq_true rfl)) dX4_tell_2 ⟨(Nat.le_of_ble_eq_true rfl), (Nat.le_of_ble_eq_true rfl)⟩) hW hsz htab hlk (fun E hE9 => by have hu1 := hE9.1; have hu1 : ¬ u < σ 0 0 := hu1; obtain ⟨h1, rfl⟩ := hE9; exact xOk.of (k := 1) (by unfold thT; first | (rw [if_pos (by omega)]; done) | (rw [if_neg (by omega)]; done) | (rw [if_neg (by omega), if_pos (by omega)]; done) | (rw [if_neg (by omega), if_neg (by omega)]; done) | (rw [if_neg (by omega), if_neg (by omega), if_neg (by omega)]; done)) (by decide) rfl) (Nat.le_of_ble_eq_true rfl) (Nat.le_of_ble_eq_true rfl) (fun M9 H locs hp_1 hW => ?_)
  obtain ⟨hu0, e92⟩ := hp_1
  rw [e92] at hW
  clear e92
  refine W.eq (g2 := F0 m 5 ls []) rfl ?_
  have hu0 : u < σ 0 0 := hu0
  have b7 : σ 7 u ≤ 20 := hV 7 u
  refine lv_iload_n hx hb dX4_tell_5 rfl (lv_at hl 2 rfl) ?_
  refine mx_v (vx_runS (As := [.int (nI q)]) (nL := 4) ⟨hx, hb, hml, hown, hts⟩ (xPort l hst G _ _ q (by omega)) (va_cwS 1 hts gX4_tell_X4_needPort rfl rfl rfl (by decide +kernel) ⟨(Nat.le_of_ble_eq_true rfl), (Nat.le_of_ble_eq_true rfl)⟩) (mp_S hK hE hW hA) rfl rfl hl.1 rfl (lv_room (Nat.le_of_ble_eq_true rfl)) dX4_tell_6 ⟨(Nat.le_of_ble_eq_true rfl), (Nat.le_of_ble_eq_true rfl)⟩) hW hsz htab hlk (fun E hE9 => by obtain ⟨h1, rfl⟩ := hE9; exact xOk.of (k := 1) (by unfold thT; first | (rw [if_pos (by omega)]; done) | (rw [if_neg (by omega)]; done) | (rw [if_neg (by omega), if_pos (by omega)]; done) | (rw [if_neg (by omega), if_neg (by omega)]; done) | (rw [if_neg (by omega), if_neg (by omega), if_neg (by omega)]; done)) (by decide) rfl) (Nat.le_of_ble_eq_true rfl) (Nat.le_of_ble_eq_true rfl) (fun M9 H locs hp_2 hW => ?_)
  obtain ⟨hq0, e92⟩ := hp_2
  rw [e92] at hW
  clear e92
  refine W.eq (g2 := F0 m 9 ls []) rfl ?_
  refine lv_aload_n hx hb dX4_tell_9 rfl (lv_at hl 0 rfl) ?_
  refine mr_get hx hb hts hinX4 hown hK hW (hR.o0) (by rfl) 0 (by decide) (hts (.fieldLink RX4 10 "SeaPost" "fleet" "Ljava/util/ArrayList;") (by decide +kernel)) (fun _ h => h) rfl dX4_tell_10 ?_
  refine lv_iload_n hx hb dX4_tell_13 rfl (lv_at hl 1 rfl) ?_
  obtain ⟨z_3m, z_3a, z_3f, z_3, -, -⟩ := hR.o2 (x := 0) (Or.inl (by decide))
  refine mk_q (va_runV (As := [.int (nI u)]) (nL := 4) ⟨hx, hb, hml, hown, hts⟩ (kGetF l G N Γ (cs σ ρ) u (show u < σ 0 0 by omega) _ _ hR) (cwV 1 hts gX4_tell_Jx4a65c_get_915e3 rfl rfl rfl (by decide +kernel) ⟨(Nat.le_of_ble_eq_true rfl), (Nat.le_of_ble_eq_true rfl)⟩) (mp_V hK hE hW hA (mW_recv hK hW.1 z_3 (by rfl))) rfl rfl hl.1 rfl (lv_room (Nat.le_of_ble_eq_true rfl)) dX4_tell_14 ⟨(Nat.le_of_ble_eq_true rfl), (Nat.le_of_ble_eq_true rfl)⟩) hW hA (fun r9 M9 H locs hp_4 hW => ?_)
  obtain ⟨e91, e92⟩ := hp_4
  subst e91
  rw [e92] at hW
  clear e92
  refine W.eq (g2 := F0 m 17 ls [.ref (Γ 4 u)]) rfl ?_
  refine va_castS hx hb hown (hts (.classLink RX4 37 RX3) (by decide +kernel)) (hK.1 4 _ rfl).2 (mW_recv hK hW.1 (hR.o4 (i := u) (show u < σ 0 0 by omega)) (by rfl)) dX4_tell_17 ?_
  refine lv_astore_n (lv' := [(3, .ref (Γ 4 u)), (0, .ref (Γ 0 0)), (1, .int (nI u)), (2, .int (nI q))]) hx hb dX4_tell_20 rfl hl (by decide) rfl (fun ls hl => ?_)
  refine lv_aload_n hx hb dX4_tell_21 rfl (lv_at hl 0 rfl) ?_
  refine mr_get hx hb hts hinX3 hown hK hW (hR.o4 (i := u) (show u < σ 0 0 by omega)) (by rfl) 0 (by decide) (hts (.fieldLink RX4 79 "SeaPost$Ship" "told" "Ljava/util/ArrayList;") (by decide +kernel)) (fun _ h => h) rfl dX4_tell_22 ?_
  obtain ⟨z_5m, z_5a, z_5f, z_5, -, -⟩ := hR.o2 (x := 10 + u) (isL_t (show u < σ 0 0 by omega))
  refine mk_i (va_runV (As := []) (nL := 4) ⟨hx, hb, hml, hown, hts⟩ (kSize l G N Γ (cs σ ρ) (10 + u) (isL_t (show u < σ 0 0 by omega)) _ _ hR) (cwV 0 hts gX4_tell_Jx4a65c_size_8abf5 rfl rfl rfl (by decide +kernel) ⟨(Nat.le_of_ble_eq_true rfl), (Nat.le_of_ble_eq_true rfl)⟩) (mp_V hK hE hW hA (mW_recv hK hW.1 z_5 (by rfl))) rfl rfl hl.1 rfl (lv_room (Nat.le_of_ble_eq_true rfl)) dX4_tell_25 ⟨(Nat.le_of_ble_eq_true rfl), (Nat.le_of_ble_eq_true rfl)⟩) hW hA (fun r9 M9 H locs hp_6 hW => ?_)
  obtain ⟨e91, e92⟩ := hp_6
  subst e91
  rw [e92] at hW
  clear e92
  refine W.eq (g2 := F0 m 28 ls [.int (nI (cs σ ρ 30 (10 + u)))]) rfl ?_
  refine lv_tope (congrArg nI (show cs σ ρ 30 (10 + u) = σ 7 u from cs_30t (by omega))) ?_
  refine lv_bipush (v := nI 20) hx hb dX4_tell_28 (by decide) ?_
  refine nv_icmp_lt (u := σ 7 u) (v := 20) (tgt := 43) hx hb dX4_tell_30 (by decide) (by omega) (by omega) (fun c_7 => ?_) (fun c_7 => ?_)
  · skip
    refine lv_aload_n hx hb dX4_tell_43 rfl (lv_at hl 0 rfl) ?_
    refine lv_iload_n hx hb dX4_tell_44 rfl (lv_at hl 3 rfl) ?_
    refine lv_aload_n hx hb dX4_tell_45 rfl (lv_at hl 1 rfl) ?_
    refine mr_get hx hb hts hinX4 hown hK hW (hR.o0) (by rfl) 4 (by decide) (hts (.fieldLink RX4 84 "SeaPost" "day" "I") (by decide +kernel)) (fun _ h => h) rfl dX4_tell_46 ?_
    refine lv_tope (congrArg nI (show (cs σ ρ) 24 0 = σ 24 0 from rfl)) ?_
    refine mk_v (va_runV (As := [.int (nI q), .int (nI (σ 24 0))]) (nL := 4) ⟨hx, hb, hml, hown, hts⟩ (vTell l G N Γ σ ρ u q (21 * u + σ 7 u) hH (by omega) (by omega) rfl _ _ hR) (cwV 2 hts gX4_tell_X3_tellDraft rfl rfl rfl (by decide +kernel) ⟨(Nat.le_of_ble_eq_true rfl), (Nat.le_of_ble_eq_true rfl)⟩) (mp_V hK hE hW hA (mW_recv hK hW.1 (hR.o4 (i := u) (show u < σ 0 0 by omega)) (by rfl))) rfl rfl hl.1 rfl (lv_room (Nat.le_of_ble_eq_true rfl)) dX4_tell_49 ⟨(Nat.le_of_ble_eq_true rfl), (Nat.le_of_ble_eq_true rfl)⟩) hW hA (fun M2 H locs hp hW => ?_)
    obtain ⟨Γ1, e00, e4u, e2u, hR1⟩ := hp
    have hW : cW G N Γ1 (cs (nxT σ u q) (ρT ρ (21 * u + σ 7 u) q (σ 24 0))) (mA M sz) s.heap H locs := ⟨M2, hW, hR1⟩
    refine W.eq (g2 := F0 m 52 ls []) rfl ?_
    rw [← e00, ← e4u] at hl
    have hHn := hH.tell (q := q) (r := 21 * u + σ 7 u) (by omega) (by omega) (by omega) rfl
    have e7n : nxT σ u q 7 u = σ 7 u + 1 := by rw [(nxT_at (q := q) (r := 21 * u + σ 7 u) (r0 := 21 * u + 20) (c := σ 3 (21 * u + 20)) rfl rfl rfl (by omega)).2.2.2.2.1 u, if_pos rfl]
    have e0n : nxT σ u q 0 0 = σ 0 0 := (nxT_at (q := q) (r := 21 * u + σ 7 u) (r0 := 21 * u + 20) (c := σ 3 (21 * u + 20)) rfl rfl rfl (by omega)).2.2.2.2.2 0 0 (Or.inl rfl)
    have e30n : cs (nxT σ u q) (ρT ρ (21 * u + σ 7 u) q (σ 24 0)) 30 (10 + u) = σ 7 u + 1 := by rw [cs_30t (by omega)]; exact e7n
    refine lv_aload_n hx hb dX4_tell_52 rfl (lv_at hl 0 rfl) ?_
    refine cr_get hx hb hts hinX3 hown hK hW (fun M hM => hM.o4 (i := u) (show u < nxT σ u q 0 0 by omega)) (by rfl) 0 (by decide) (hts (.fieldLink RX4 79 "SeaPost$Ship" "told" "Ljava/util/ArrayList;") (by decide +kernel)) (fun _ h => h) rfl dX4_tell_53 ?_
    obtain ⟨M9x, hW, hR⟩ := hW
    obtain ⟨z_8m, z_8a, z_8f, z_8, -, -⟩ := hR.o2 (x := 10 + u) (isL_t (show u < nxT σ u q 0 0 by omega))
    refine mk_i (va_runV (As := []) (nL := 4) ⟨hx, hb, hml, hown, hts⟩ (kSize l G N Γ1 (cs (nxT σ u q) (ρT ρ (21 * u + σ 7 u) q (σ 24 0))) (10 + u) (isL_t (show u < nxT σ u q 0 0 by omega)) _ _ hR) (cwV 0 hts gX4_tell_Jx4a65c_size_8abf5 rfl rfl rfl (by decide +kernel) ⟨(Nat.le_of_ble_eq_true rfl), (Nat.le_of_ble_eq_true rfl)⟩) (mp_V hK hE hW hA (mW_recv hK hW.1 z_8 (by rfl))) rfl rfl hl.1 rfl (lv_room (Nat.le_of_ble_eq_true rfl)) dX4_tell_56 ⟨(Nat.le_of_ble_eq_true rfl), (Nat.le_of_ble_eq_true rfl)⟩) hW hA (fun r9 M9 H locs hp_9 hW => ?_)
    obtain ⟨e91, e92⟩ := hp_9
    subst e91
    rw [e92] at hW
    clear e92
    refine W.eq (g2 := F0 m 59 ls [.int (nI (cs (nxT σ u q) (ρT ρ (21 * u + σ 7 u) q (σ 24 0)) 30 (10 + u)))]) rfl ?_
    have hW : cW G N Γ1 (cs (nxT σ u q) (ρT ρ (21 * u + σ 7 u) q (σ 24 0))) (mA M sz) s.heap H locs := ⟨_, hW, hR⟩
    refine lv_tope (congrArg nI (show cs (nxT σ u q) (ρT ρ (21 * u + σ 7 u) q (σ 24 0)) 30 (10 + u) = σ 7 u + 1 from e30n)) ?_
    refine lv_iconst (v := nI 1) hx hb dX4_tell_59 (by decide) ?_
    refine lv_isub hx hb dX4_tell_60 (lv_tope (pk_sub (a := σ 7 u + 1) (b := 1) (by omega)) ?_)
    obtain ⟨M9x, hW, hR9⟩ := hW
    exact vx_ret (mr_iret hx hb hr hlk (Nat.le_of_ble_eq_true rfl) (Nat.le_of_ble_eq_true rfl) hW ⟨by unfold thT; first | (rw [if_neg (by omega), if_neg (by omega)]; done) | (rw [if_neg (by omega), if_pos (by omega)]; done) | (rw [if_pos (by omega)]; done), rfl, Γ1, ρT ρ (21 * u + σ 7 u) q (σ 24 0), e00, hR9, hHn⟩ dX4_tell_61)
  · skip
    exact mx_throw (cls := "java/lang/IllegalStateException") (text := "the ship has 20 routes") (ik := 30) (is := 82) (ic := 34) hx hb hst (hml.trans hl.1.symm) hown hts hlk htab hE (by decide +kernel) (by decide +kernel) (by decide +kernel) (by decide +kernel) (fun _ h => List.mem_cons_of_mem _ (List.mem_append_left _ (List.mem_append_right _ h))) tb_3 tg_3 (by decide +kernel) hW (xOk.of (k := 2) (by unfold thT; first | (rw [if_neg (by omega), if_neg (by omega)]; done) | (rw [if_neg (by omega), if_pos (by omega)]; done) | (rw [if_pos (by omega)]; done)) (by decide) rfl) dX4_tell_33 dX4_tell_36 dX4_tell_37 dX4_tell_39 dX4_tell_42 (Nat.le_of_ble_eq_true rfl) (Nat.le_of_ble_eq_true rfl) (Nat.le_of_ble_eq_true rfl) (Nat.le_of_ble_eq_true rfl) (Nat.le_of_ble_eq_true rfl) (Nat.le_of_ble_eq_true rfl)

set_option maxHeartbeats 4000000 in
set_option maxRecDepth 100000 in
theorem wPost (l : Launch) (hst : l.stackTraces = false) (G : mG) (N : Mem) (Γ : Adr) (σ ρ : Sg) (q : Nat) (hq : q < 4294967296) (u : Nat) (hu : u < 4294967296) (h : Nat) (hh : h < 4294967296) (hH : HS σ ρ) : pXi l yX4_post wsX4_post 11 9 300 G N Γ σ ρ [.ref (Γ 0 0), .int (nI q), .int (nI u), .int (nI h)] (thP σ q u h) (σ 8 0) (po σ q u h) ["java/lang/IndexOutOfBoundsException", "java/lang/IllegalStateException"] := by
  intro M sz hR
  refine m_startX cX4_post 5 (some .int) (by decide) rfl (Nat.le_of_ble_eq_true rfl) ?_
  intro p e s m below meth c ls hx hb hr hml hown hlk hnm hts hK hsz hE hW hl htab
  have hA := mA_A (M := M) hsz
  have hl : lv_has ls 5 [(0, .ref (Γ 0 0)), (1, .int (nI q)), (2, .int (nI u)), (3, .int (nI h))] := hl
  have hinX0 : ∀ w ∈ u_ws RX0 TX0 2, w ∈ wsX4_post := (fun _ h => List.mem_cons_of_mem _ (List.mem_append_left _ (List.mem_append_left _ (List.mem_append_left _ (List.mem_append_left _ (List.mem_append_right _ h))))))
  have hinX1 : ∀ w ∈ u_ws RX1 TX1 10, w ∈ wsX4_post := (fun _ h => List.mem_cons_of_mem _ (List.mem_append_left _ (List.mem_append_left _ (List.mem_append_left _ (List.mem_append_left _ (List.mem_append_left _ (List.mem_append_left _ (List.mem_append_right _ h))))))))
  have hinX2 : ∀ w ∈ u_ws RX2 TX2 6, w ∈ wsX4_post := (fun _ h => List.mem_cons_of_mem _ (List.mem_append_left _ (List.mem_append_left _ (List.mem_append_right _ h))))
  have hinX3 : ∀ w ∈ u_ws RX3 TX3 3, w ∈ wsX4_post := (fun _ h => List.mem_cons_of_mem _ (List.mem_append_left _ (List.mem_append_left _ (List.mem_append_left _ (List.mem_append_right _ h)))))
  have hinX4 : ∀ w ∈ u_ws RX4 TX4 6, w ∈ wsX4_post := (fun _ h => List.mem_cons_of_mem _ (List.mem_append_left _ (List.mem_append_left _ (List.mem_append_left _ (List.mem_append_left _ (List.mem_append_left _ (List.mem_append_left _ (List.mem_append_left _ (List.mem_append_right _ h)))))))))
  have hinJx4a65c : ∀ w ∈ u_ws RJx4a65c TJx4a65c 3, w ∈ wsX4_post := (fun _ h => List.mem_cons_of_mem _ (List.mem_append_left _ (List.mem_append_left _ (List.mem_append_left _ (List.mem_append_left _ (List.mem_append_left _ (List.mem_append_right _ h)))))))
  have hI := hH.1
  obtain ⟨hV, hS, hD, hL, hZ, hRI⟩ := id hI
  have b0 : σ 0 0 ≤ 8 := hV 0 0
  have b8 : σ 8 0 ≤ 40 := hV 8 0
  have b24 : σ 24 0 ≤ 1000 := hV 24 0
  have hct := hH.cnt
  refine lv_iload_n hx hb dX4_post_0 rfl (lv_at hl 1 rfl) ?_
  refine mx_v (vx_runS (As := [.int (nI q)]) (nL := 5) ⟨hx, hb, hml, hown, hts⟩ (xPort l hst G _ _ q (by omega)) (va_cwS 1 hts gX4_post_X4_needPort rfl rfl rfl (by decide +kernel) ⟨(Nat.le_of_ble_eq_true rfl), (Nat.le_of_ble_eq_true rfl)⟩) (mp_S hK hE hW hA) rfl rfl hl.1 rfl (lv_room (Nat.le_of_ble_eq_true rfl)) dX4_post_1 ⟨(Nat.le_of_ble_eq_true rfl), (Nat.le_of_ble_eq_true rfl)⟩) hW hsz htab hlk (fun E hE9 => by obtain ⟨h1, rfl⟩ := hE9; exact xOk.of (k := 1) (by unfold thP; first | (rw [if_pos (by omega)]; done) | (rw [if_neg (by omega)]; done) | (rw [if_neg (by omega), if_pos (by omega)]; done) | (rw [if_neg (by omega), if_neg (by omega)]; done) | (rw [if_neg (by omega), if_neg (by omega), if_neg (by omega)]; done)) (by decide) rfl) (Nat.le_of_ble_eq_true rfl) (Nat.le_of_ble_eq_true rfl) (fun M9 H locs hp_1 hW => ?_)
  obtain ⟨hq0, e92⟩ := hp_1
  rw [e92] at hW
  clear e92
  refine W.eq (g2 := F0 m 4 ls []) rfl ?_
  refine lv_aload_n hx hb dX4_post_4 rfl (lv_at hl 0 rfl) ?_
  refine lv_iload_n hx hb dX4_post_5 rfl (lv_at hl 2 rfl) ?_
  refine mx_v (vx_runV (As := [.int (nI u)]) (nL := 5) ⟨hx, hb, hml, hown, hts⟩ (xShip l hst G N Γ (cs σ ρ) u (by omega) (show σ 0 0 < 2147483648 by omega) _ _ hR) (cwV 1 hts gX4_post_X4_needShip rfl rfl rfl (by decide +kernel) ⟨(Nat.le_of_ble_eq_true rfl), (Nat.le_of_ble_eq_true rfl)⟩) (mp_V hK hE hW hA (mW_recv hK hW.1 hR.o0 (by rfl))) rfl rfl hl.1 rfl (lv_room (Nat.le_of_ble_eq_true rfl)) dX4_post_6 ⟨(Nat.le_of_ble_eq_true rfl), (Nat.le_of_ble_eq_true rfl)⟩) hW hsz htab hlk (fun E hE9 => by have hu1 := hE9.1; have hu1 : ¬ u < σ 0 0 := hu1; obtain ⟨h1, rfl⟩ := hE9; exact xOk.of (k := 1) (by unfold thP; first | (rw [if_pos (by omega)]; done) | (rw [if_neg (by omega)]; done) | (rw [if_neg (by omega), if_pos (by omega)]; done) | (rw [if_neg (by omega), if_neg (by omega)]; done) | (rw [if_neg (by omega), if_neg (by omega), if_neg (by omega)]; done)) (by decide) rfl) (Nat.le_of_ble_eq_true rfl) (Nat.le_of_ble_eq_true rfl) (fun M9 H locs hp_2 hW => ?_)
  obtain ⟨hu0, e92⟩ := hp_2
  rw [e92] at hW
  clear e92
  refine W.eq (g2 := F0 m 9 ls []) rfl ?_
  have hu0 : u < σ 0 0 := hu0
  refine lv_iload_n hx hb dX4_post_9 rfl (lv_at hl 3 rfl) ?_
  refine lv_iconst (v := nI 4294967295) hx hb dX4_post_10 (by decide) ?_
  refine nv_icmp_eq (u := h) (v := 4294967295) (tgt := 18) hx hb dX4_post_11 (by decide) (by omega) (by omega) (fun c_3 => ?_) (fun c_3 => ?_)
  · skip
    refine lv_aload_n hx hb dX4_post_18 rfl (lv_at hl 0 rfl) ?_
    refine mr_get hx hb hts hinX4 hown hK hW (hR.o0) (by rfl) 1 (by decide) (hts (.fieldLink RX4 16 "SeaPost" "mail" "Ljava/util/ArrayList;") (by decide +kernel)) (fun _ h => h) rfl dX4_post_19 ?_
    obtain ⟨z_4m, z_4a, z_4f, z_4, -, -⟩ := hR.o2 (x := 1) (Or.inl (by decide))
    refine mk_i (va_runV (As := []) (nL := 5) ⟨hx, hb, hml, hown, hts⟩ (kSize l G N Γ (cs σ ρ) 1 (Or.inl (by decide)) _ _ hR) (cwV 0 hts gX4_post_Jx4a65c_size_8abf5 rfl rfl rfl (by decide +kernel) ⟨(Nat.le_of_ble_eq_true rfl), (Nat.le_of_ble_eq_true rfl)⟩) (mp_V hK hE hW hA (mW_recv hK hW.1 z_4 (by rfl))) rfl rfl hl.1 rfl (lv_room (Nat.le_of_ble_eq_true rfl)) dX4_post_22 ⟨(Nat.le_of_ble_eq_true rfl), (Nat.le_of_ble_eq_true rfl)⟩) hW hA (fun r9 M9 H locs hp_5 hW => ?_)
    obtain ⟨e91, e92⟩ := hp_5
    subst e91
    rw [e92] at hW
    clear e92
    refine W.eq (g2 := F0 m 25 ls [.int (nI (cs σ ρ 30 1))]) rfl ?_
    refine lv_tope (congrArg nI (show cs σ ρ 30 1 = σ 8 0 from rfl)) ?_
    refine lv_bipush (v := nI 40) hx hb dX4_post_25 (by decide) ?_
    refine nv_icmp_lt (u := σ 8 0) (v := 40) (tgt := 40) hx hb dX4_post_27 (by decide) (by omega) (by omega) (fun c_6 => ?_) (fun c_6 => ?_)
    · skip
      have hu0 : u < σ 0 0 := hu0
      have hh9 : h < 10 ∨ h = 4294967295 := by omega
      have hP9 : PH (poW σ q u h) ρ (σ 8 0) := by
        obtain ⟨x1, x2, x3, x4, x5⟩ := poW_ok hI (by omega) hq0 hu0 hh9
        obtain ⟨z1, z2⟩ := poW_LX hI (by omega) hq0 hu0 hh9
        have e20 : poW σ q u h 20 0 = σ 20 0 := by rw [x4 20 0 (by decide), poN_f (by decide)]
        have e22 : poW σ q u h 22 0 = σ 22 0 := by rw [x4 22 0 (by decide), poN_f (by decide)]
        have l20 := hS.le
        have l22 := hD.le
        have e7 : ∀ g j, g < 8 → poW σ q u h g j = σ g j := fun g j hg => by rw [x4 g j (by omega), poN_f (by omega)]
        exact ⟨x1, hRI.of e7, hH.2.2.of e7, x2, by omega, by omega, z1, z2⟩
      have p18 : poN σ q u h 18 (σ 8 0) = 0 := by rw [poN_f (by decide)]; exact (hZ (σ 8 0) (Nat.le_refl _)).1
      have p8 : poN σ q u h 8 0 = σ 8 0 + 1 := poN_8 (σ := σ) (p := q) (s := u) (h := h)
      have p24 : poN σ q u h 24 0 = σ 24 0 := poN_f (σ := σ) (p := q) (s := u) (h := h) (g := 24) (j := 0) (by decide)
      have p0 : poN σ q u h 0 0 = σ 0 0 := poN_f (σ := σ) (p := q) (s := u) (h := h) (g := 0) (j := 0) (by decide)
      refine mr_new (fs := [.int (nI 0), .null, .int (nI 0), .int (nI 0), .null, .int (nI 0), .int (nI 0), .int (nI 0), .int (nI 0), .int (nI 0)]) hx hb hts hinX1 tyX1 tyX1_ok hown (hts (.classLink RX4 101 RX1) (by decide +kernel)) (hts (.instantiable RX1 10) (by decide +kernel)) (hts (.initialized RX1) (by decide +kernel)) hK hW hA (ci := 2) (by rfl) (fun j hj => by match j, hj with | 0, _ => rfl | 1, _ => rfl | 2, _ => rfl | 3, _ => rfl | 4, _ => rfl | 5, _ => rfl | 6, _ => rfl | 7, _ => rfl | 8, _ => rfl | 9, _ => rfl) (Nat.le_of_ble_eq_true rfl) (Nat.le_of_ble_eq_true rfl) dX4_post_40 (fun b9 H hb9 hW => ?_)
      have hR0 := hR
      have hR : Rp G N Γ (cs σ ρ) (va_up M b9 (some (.inr (2, [.int (nI 0), .null, .int (nI 0), .int (nI 0), .null, .int (nI 0), .int (nI 0), .int (nI 0), .int (nI 0), .int (nI 0)])))) := hR0.ext (fun x e hx9 => (if_neg (fun z => by rw [z, hb9] at hx9; cases hx9)).trans hx9)
      refine lv_dup hx hb dX4_post_43 rfl ?_
      refine lv_aload_n hx hb dX4_post_44 rfl (lv_at hl 0 rfl) ?_
      refine mr_get hx hb hts hinX4 hown hK hW (hR.o0) (by rfl) 1 (by decide) (hts (.fieldLink RX4 16 "SeaPost" "mail" "Ljava/util/ArrayList;") (by decide +kernel)) (fun _ h => h) rfl dX4_post_45 ?_
      obtain ⟨z_7m, z_7a, z_7f, z_7, -, -⟩ := hR.o2 (x := 1) (Or.inl (by decide))
      refine mk_i (va_runV (As := []) (nL := 5) ⟨hx, hb, hml, hown, hts⟩ (kSize l G N Γ (cs σ ρ) 1 (Or.inl (by decide)) _ _ hR) (cwV 0 hts gX4_post_Jx4a65c_size_8abf5 rfl rfl rfl (by decide +kernel) ⟨(Nat.le_of_ble_eq_true rfl), (Nat.le_of_ble_eq_true rfl)⟩) (mp_V hK hE hW hA (mW_recv hK hW.1 z_7 (by rfl))) rfl rfl hl.1 rfl (lv_room (Nat.le_of_ble_eq_true rfl)) dX4_post_48 ⟨(Nat.le_of_ble_eq_true rfl), (Nat.le_of_ble_eq_true rfl)⟩) hW hA (fun r9 M9 H locs hp_8 hW => ?_)
      obtain ⟨e91, e92⟩ := hp_8
      subst e91
      rw [e92] at hW
      clear e92
      refine W.eq (g2 := F0 m 51 ls [.int (nI (cs σ ρ 30 1)), .ref b9, .ref b9]) rfl ?_
      refine lv_tope (congrArg nI (show cs σ ρ 30 1 = σ 8 0 from rfl)) ?_
      refine lv_aload_n hx hb dX4_post_51 rfl (lv_at hl 0 rfl) ?_
      refine mr_get hx hb hts hinX4 hown hK hW (hR.o0) (by rfl) 0 (by decide) (hts (.fieldLink RX4 10 "SeaPost" "fleet" "Ljava/util/ArrayList;") (by decide +kernel)) (fun _ h => h) rfl dX4_post_52 ?_
      refine lv_iload_n hx hb dX4_post_55 rfl (lv_at hl 2 rfl) ?_
      obtain ⟨z_9m, z_9a, z_9f, z_9, -, -⟩ := hR.o2 (x := 0) (Or.inl (by decide))
      refine mk_q (va_runV (As := [.int (nI u)]) (nL := 5) ⟨hx, hb, hml, hown, hts⟩ (kGetF l G N Γ (cs σ ρ) u (show u < σ 0 0 by omega) _ _ hR) (cwV 1 hts gX4_post_Jx4a65c_get_915e3 rfl rfl rfl (by decide +kernel) ⟨(Nat.le_of_ble_eq_true rfl), (Nat.le_of_ble_eq_true rfl)⟩) (mp_V hK hE hW hA (mW_recv hK hW.1 z_9 (by rfl))) rfl rfl hl.1 rfl (lv_room (Nat.le_of_ble_eq_true rfl)) dX4_post_56 ⟨(Nat.le_of_ble_eq_true rfl), (Nat.le_of_ble_eq_true rfl)⟩) hW hA (fun r9 M9 H locs hp_10 hW => ?_)
      obtain ⟨e91, e92⟩ := hp_10
      subst e91
      rw [e92] at hW
      clear e92
      refine W.eq (g2 := F0 m 59 ls [.ref (Γ 4 u), .int (nI (σ 8 0)), .ref b9, .ref b9]) rfl ?_
      refine va_castS hx hb hown (hts (.classLink RX4 37 RX3) (by decide +kernel)) (hK.1 4 _ rfl).2 (mW_recv hK hW.1 (hR.o4 (i := u) (show u < σ 0 0 by omega)) (by rfl)) dX4_post_59 ?_
      refine lv_iload_n hx hb dX4_post_62 rfl (lv_at hl 1 rfl) ?_
      refine lv_iload_n hx hb dX4_post_63 rfl (lv_at hl 3 rfl) ?_
      refine lv_aload_n hx hb dX4_post_64 rfl (lv_at hl 0 rfl) ?_
      refine mr_get hx hb hts hinX4 hown hK hW (hR.o0) (by rfl) 4 (by decide) (hts (.fieldLink RX4 84 "SeaPost" "day" "I") (by decide +kernel)) (fun _ h => h) rfl dX4_post_65 ?_
      refine lv_tope (congrArg nI (show (cs σ ρ) 24 0 = σ 24 0 from rfl)) ?_
      refine mk_v (va_runI (As := [.int (nI (σ 8 0)), .ref (Γ 4 u), .int (nI q), .int (nI h), .int (nI (σ 24 0))]) (nL := 5) ⟨hx, hb, hml, hown, hts⟩ (nLetter l G _ _ b9 (σ 8 0) (Γ 4 u) q h (σ 24 0) (if_pos rfl) ⟨_, hR.o4 (i := u) (show u < σ 0 0 by omega)⟩) (cwI 5 hts gX4_post_X1_init rfl rfl rfl (hts (.initialized RX1) (by decide +kernel)) (hts (.methodLink RX4 103 yX1_init) (by decide +kernel)) (hts (.instanceMethod yX1_init) (by decide +kernel)) rfl (by decide +kernel) ⟨(Nat.le_of_ble_eq_true rfl), (Nat.le_of_ble_eq_true rfl)⟩) (mp_S hK hE hW hA) rfl rfl hl.1 rfl (lv_room (Nat.le_of_ble_eq_true rfl)) dX4_post_68 ⟨(Nat.le_of_ble_eq_true rfl), (Nat.le_of_ble_eq_true rfl)⟩) hW hA (fun M2 H locs hp hW => ?_)
      obtain ⟨c9, t9, f1, f2, m0, m1, m2, ho, -⟩ := hp
      have hM9 : ∀ x e, M x = some e → M2 x = some e := fun x e hx9 => by
        have h0 : ∀ z, M z = none → x ≠ z := fun z hz w => by rw [w, hz] at hx9; cases hx9
        exact (ho x (h0 _ hb9) (h0 _ (va_up_none f1)) (h0 _ (va_up_none f2))).trans ((if_neg (h0 _ hb9)).trans hx9)
      obtain ⟨Γ1, e00, e21, e9n, hR1⟩ := Rp.letter (n := σ 8 0) hR0 hH rfl (by omega) hu0 hb9 (va_up_none f1) (va_up_none f2) m0 m1 m2 hM9
      have hW : cW G N Γ1 (st (cs (poN σ q u h) ρ) 30 1 (σ 8 0)) (mA M sz) s.heap H locs := ⟨M2, hW, hR1⟩
      refine W.eq (g2 := F0 m 71 ls [.ref (Γ1 9 (σ 8 0))]) (by rw [e9n]) ?_
      rw [← e00] at hl
      refine lv_astore (lv' := [(4, .ref (Γ1 9 (σ 8 0))), (0, .ref (Γ1 0 0)), (1, .int (nI q)), (2, .int (nI u)), (3, .int (nI h))]) hx hb dX4_post_71 hl (by decide) rfl (fun ls hl => ?_)
      refine lv_aload_n hx hb dX4_post_73 rfl (lv_at hl 1 rfl) ?_
      refine cr_get hx hb hts hinX4 hown hK hW (fun M hM => hM.o0) (by rfl) 1 (by decide) (hts (.fieldLink RX4 16 "SeaPost" "mail" "Ljava/util/ArrayList;") (by decide +kernel)) (fun _ h => h) rfl dX4_post_74 ?_
      refine lv_aload hx hb dX4_post_77 (lv_at hl 0 rfl) ?_
      refine ck_addG (x := 1) (n := σ 8 0) (k := 9) ⟨hx, hb, hml, hown, hts⟩ (cwV 1 hts gX4_post_Jx4a65c_add_9ea2d rfl rfl rfl (by decide +kernel) ⟨(Nat.le_of_ble_eq_true rfl), (Nat.le_of_ble_eq_true rfl)⟩) hK hE hW hA (Or.inr ⟨rfl, rfl, (show σ 8 0 < poN σ q u h 8 0 by omega)⟩) st_s (by omega) (show poN σ q u h 0 0 ≤ 8 by omega) hl.1 (Nat.le_of_ble_eq_true rfl) dX4_post_79 ⟨(Nat.le_of_ble_eq_true rfl), (Nat.le_of_ble_eq_true rfl)⟩ (fun H locs hW => ?_)
      rw [st_back (show cs (poN σ q u h) ρ 30 1 = σ 8 0 + 1 from p8)] at hW
      refine lv_pop hx hb dX4_post_82 rfl ?_
      refine lv_aload hx hb dX4_post_83 (lv_at hl 0 rfl) ?_
      refine cr_get hx hb hts hinX1 hown hK hW (fun M hM => hM.o9 (i := σ 8 0) (show σ 8 0 < poN σ q u h 8 0 by omega)) (by rfl) 4 (by decide) (hts (.fieldLink RX4 106 "SeaPost$Letter" "cover" "LSeaPost$Cover;") (by decide +kernel)) (fun _ h => h) rfl dX4_post_85 ?_
      refine lv_iload_n hx hb dX4_post_88 rfl (lv_at hl 2 rfl) ?_
      refine ck_Vv (r := (RX0, TX0, 2)) (As := [.int (nI q)]) (nL := 5) ⟨hx, hb, hml, hown, hts⟩ (uPort l G N Γ1 (cs (poN σ q u h) ρ) (σ 8 0) q (show σ 8 0 < poN σ q u h 8 0 by omega) (show poN σ q u h 18 (σ 8 0) < 128 by omega) (by omega)) (cwV 1 hts gX4_post_X0_writePort rfl rfl rfl (by decide +kernel) ⟨(Nat.le_of_ble_eq_true rfl), (Nat.le_of_ble_eq_true rfl)⟩) hK hE hW hA (fun M hM => hM.o10 (i := σ 8 0) (show σ 8 0 < poN σ q u h 8 0 by omega)) (by rfl) rfl hl.1 rfl (Nat.le_of_ble_eq_true rfl) dX4_post_89 ⟨(Nat.le_of_ble_eq_true rfl), (Nat.le_of_ble_eq_true rfl)⟩ (fun H locs hW => ?_)
      obtain ⟨σ_11, eσ_11⟩ : ∃ z : Sg, z = wr (cs (poN σ q u h) ρ) (σ 8 0) (65 + q) := ⟨_, rfl⟩
      rw [← eσ_11] at hW
      refine W.eq (g2 := F0 m 92 ls []) rfl ?_
      have hW : cW G N Γ1 (cs (wr (poN σ q u h) (σ 8 0) (65 + q)) ρ) (mA M sz) s.heap H locs := by rw [cs_wr, ← eσ_11]; exact hW
      have x18 : wr (poN σ q u h) (σ 8 0) (65 + q) 18 (σ 8 0) = 1 := by rw [wr_18, p18]
      have x8 : wr (poN σ q u h) (σ 8 0) (65 + q) 8 0 = σ 8 0 + 1 := by rw [wr_f (by decide)]; exact p8
      have x24 : wr (poN σ q u h) (σ 8 0) (65 + q) 24 0 = σ 24 0 := by rw [wr_f (by decide)]; exact p24
      refine lv_aload hx hb dX4_post_92 (lv_at hl 0 rfl) ?_
      refine cr_get hx hb hts hinX1 hown hK hW (fun M hM => hM.o9 (i := σ 8 0) (show σ 8 0 < wr (poN σ q u h) (σ 8 0) (65 + q) 8 0 by omega)) (by rfl) 4 (by decide) (hts (.fieldLink RX4 106 "SeaPost$Letter" "cover" "LSeaPost$Cover;") (by decide +kernel)) (fun _ h => h) rfl dX4_post_94 ?_
      refine lv_aload_n hx hb dX4_post_97 rfl (lv_at hl 1 rfl) ?_
      refine cr_get hx hb hts hinX4 hown hK hW (fun M hM => hM.o0) (by rfl) 4 (by decide) (hts (.fieldLink RX4 84 "SeaPost" "day" "I") (by decide +kernel)) (fun _ h => h) rfl dX4_post_98 ?_
      refine ck_Vv (r := (RX0, TX0, 2)) (As := [.int (nI ((cs (wr (poN σ q u h) (σ 8 0) (65 + q)) ρ) 24 0))]) (nL := 5) ⟨hx, hb, hml, hown, hts⟩ (uDay l G N Γ1 (cs (wr (poN σ q u h) (σ 8 0) (65 + q)) ρ) (σ 8 0) (show σ 8 0 < wr (poN σ q u h) (σ 8 0) (65 + q) 8 0 by omega) (show wr (poN σ q u h) (σ 8 0) (65 + q) 18 (σ 8 0) ≤ 124 by omega) (show wr (poN σ q u h) (σ 8 0) (65 + q) 24 0 ≤ 1000 by omega)) (cwV 1 hts gX4_post_X0_writeDay rfl rfl rfl (by decide +kernel) ⟨(Nat.le_of_ble_eq_true rfl), (Nat.le_of_ble_eq_true rfl)⟩) hK hE hW hA (fun M hM => hM.o10 (i := σ 8 0) (show σ 8 0 < wr (poN σ q u h) (σ 8 0) (65 + q) 8 0 by omega)) (by rfl) rfl hl.1 rfl (Nat.le_of_ble_eq_true rfl) dX4_post_101 ⟨(Nat.le_of_ble_eq_true rfl), (Nat.le_of_ble_eq_true rfl)⟩ (fun H locs hW => ?_)
      obtain ⟨σ_12, eσ_12⟩ : ∃ z : Sg, z = wDay (cs (wr (poN σ q u h) (σ 8 0) (65 + q)) ρ) (σ 8 0) := ⟨_, rfl⟩
      rw [← eσ_12] at hW
      refine W.eq (g2 := F0 m 104 ls []) rfl ?_
      have hW : cW G N Γ1 (cs (poW σ q u h) ρ) (mA M sz) s.heap H locs := by rw [show poW σ q u h = wDay (wr (poN σ q u h) (σ 8 0) (65 + q)) (σ 8 0) from rfl, cs_wDay, ← eσ_12]; exact hW
      have w8 : poW σ q u h 8 0 = σ 8 0 + 1 := by rw [(poW_ok hI (by omega) hq0 hu0 hh9).2.2.2.1 8 0 (by decide)]; exact p8
      refine lv_aload_n hx hb dX4_post_104 rfl (lv_at hl 1 rfl) ?_
      refine lv_aload hx hb dX4_post_105 (lv_at hl 0 rfl) ?_
      refine ck_Vv (r := (RX4, TX4, 6)) (As := [.ref (Γ1 9 (σ 8 0))]) (nL := 5) ⟨hx, hb, hml, hown, hts⟩ (vHandle l G N Γ1 (poW σ q u h) ρ (σ 8 0) hP9 1 (fun _ => Nat.le_refl 1)) (cwV 1 hts gX4_post_X4_handle rfl rfl rfl (by decide +kernel) ⟨(Nat.le_of_ble_eq_true rfl), (Nat.le_of_ble_eq_true rfl)⟩) hK hE hW hA (fun M hM => hM.o0) (by rfl) rfl hl.1 rfl (Nat.le_of_ble_eq_true rfl) dX4_post_107 ⟨(Nat.le_of_ble_eq_true rfl), (Nat.le_of_ble_eq_true rfl)⟩ (fun H locs hW => ?_)
      obtain ⟨σ_13, eσ_13⟩ : ∃ z : Sg, z = cs (ha (poW σ q u h) (σ 8 0)) ρ := ⟨_, rfl⟩
      rw [← eσ_13] at hW
      refine W.eq (g2 := F0 m 110 ls []) rfl ?_
      have hW : cW G N Γ1 (cs (po σ q u h) ρ) (mA M sz) s.heap H locs := by rw [show po σ q u h = ha (poW σ q u h) (σ 8 0) from rfl, ← eσ_13]; exact hW
      have y8 : po σ q u h 8 0 = σ 8 0 + 1 := by
        obtain ⟨x1, x2, x3, x4, x5⟩ := poW_ok hI (by omega) hq0 hu0 hh9
        exact (ha_ok x1 x2).1.f.2.1.trans w8
      refine lv_aload hx hb dX4_post_110 (lv_at hl 0 rfl) ?_
      refine cr_get hx hb hts hinX1 hown hK hW (fun M hM => hM.o9 (i := σ 8 0) (show σ 8 0 < po σ q u h 8 0 by omega)) (by rfl) 0 (by decide) (hts (.fieldLink RX4 122 "SeaPost$Letter" "number" "I") (by decide +kernel)) (fun _ h => h) rfl dX4_post_112 ?_
      obtain ⟨M9x, hW, hR9⟩ := hW
      exact vx_ret (mr_iret hx hb hr hlk (Nat.le_of_ble_eq_true rfl) (Nat.le_of_ble_eq_true rfl) hW ⟨by unfold thP; first | (rw [if_neg (by omega), if_neg (by omega)]; done) | (rw [if_neg (by omega), if_pos (by omega)]; done) | (rw [if_pos (by omega)]; done), rfl, Γ1, ρ, e00, hR9, hH.post (by omega) hq0 hu0 hh9⟩ dX4_post_115)
    · skip
      exact mx_throw (cls := "java/lang/IllegalStateException") (text := "there are 40 letters") (ik := 30) (is := 99) (ic := 34) hx hb hst (hml.trans hl.1.symm) hown hts hlk htab hE (by decide +kernel) (by decide +kernel) (by decide +kernel) (by decide +kernel) (fun _ h => List.mem_cons_of_mem _ (List.mem_append_left _ (List.mem_append_right _ h))) tb_3 tg_3 (by decide +kernel) hW (xOk.of (k := 2) (by unfold thP; first | (rw [if_neg (by omega), if_neg (by omega)]; done) | (rw [if_neg (by omega), if_pos (by omega)]; done) | (rw [if_pos (by omega)]; done)) (by decide) rfl) dX4_post_30 dX4_post_33 dX4_post_34 dX4_post_36 dX4_post_39 (Nat.le_of_ble_eq_true rfl) (Nat.le_of_ble_eq_true rfl) (Nat.le_of_ble_eq_true rfl) (Nat.le_of_ble_eq_true rfl) (Nat.le_of_ble_eq_true rfl) (Nat.le_of_ble_eq_true rfl)
  · skip
    refine lv_iload_n hx hb dX4_post_14 rfl (lv_at hl 3 rfl) ?_
    refine mx_v (vx_runS (As := [.int (nI h)]) (nL := 5) ⟨hx, hb, hml, hown, hts⟩ (xPort l hst G _ _ h (by omega)) (va_cwS 1 hts gX4_post_X4_needPort rfl rfl rfl (by decide +kernel) ⟨(Nat.le_of_ble_eq_true rfl), (Nat.le_of_ble_eq_true rfl)⟩) (mp_S hK hE hW hA) rfl rfl hl.1 rfl (lv_room (Nat.le_of_ble_eq_true rfl)) dX4_post_15 ⟨(Nat.le_of_ble_eq_true rfl), (Nat.le_of_ble_eq_true rfl)⟩) hW hsz htab hlk (fun E hE9 => by obtain ⟨h1, rfl⟩ := hE9; exact xOk.of (k := 1) (by unfold thP; first | (rw [if_pos (by omega)]; done) | (rw [if_neg (by omega)]; done) | (rw [if_neg (by omega), if_pos (by omega)]; done) | (rw [if_neg (by omega), if_neg (by omega)]; done) | (rw [if_neg (by omega), if_neg (by omega), if_neg (by omega)]; done)) (by decide) rfl) (Nat.le_of_ble_eq_true rfl) (Nat.le_of_ble_eq_true rfl) (fun M9 H locs hp_14 hW => ?_)
    obtain ⟨hh0, e92⟩ := hp_14
    rw [e92] at hW
    clear e92
    refine W.eq (g2 := F0 m 18 ls []) rfl ?_
    refine lv_aload_n hx hb dX4_post_18 rfl (lv_at hl 0 rfl) ?_
    refine mr_get hx hb hts hinX4 hown hK hW (hR.o0) (by rfl) 1 (by decide) (hts (.fieldLink RX4 16 "SeaPost" "mail" "Ljava/util/ArrayList;") (by decide +kernel)) (fun _ h => h) rfl dX4_post_19 ?_
    obtain ⟨z_15m, z_15a, z_15f, z_15, -, -⟩ := hR.o2 (x := 1) (Or.inl (by decide))
    refine mk_i (va_runV (As := []) (nL := 5) ⟨hx, hb, hml, hown, hts⟩ (kSize l G N Γ (cs σ ρ) 1 (Or.inl (by decide)) _ _ hR) (cwV 0 hts gX4_post_Jx4a65c_size_8abf5 rfl rfl rfl (by decide +kernel) ⟨(Nat.le_of_ble_eq_true rfl), (Nat.le_of_ble_eq_true rfl)⟩) (mp_V hK hE hW hA (mW_recv hK hW.1 z_15 (by rfl))) rfl rfl hl.1 rfl (lv_room (Nat.le_of_ble_eq_true rfl)) dX4_post_22 ⟨(Nat.le_of_ble_eq_true rfl), (Nat.le_of_ble_eq_true rfl)⟩) hW hA (fun r9 M9 H locs hp_16 hW => ?_)
    obtain ⟨e91, e92⟩ := hp_16
    subst e91
    rw [e92] at hW
    clear e92
    refine W.eq (g2 := F0 m 25 ls [.int (nI (cs σ ρ 30 1))]) rfl ?_
    refine lv_tope (congrArg nI (show cs σ ρ 30 1 = σ 8 0 from rfl)) ?_
    refine lv_bipush (v := nI 40) hx hb dX4_post_25 (by decide) ?_
    refine nv_icmp_lt (u := σ 8 0) (v := 40) (tgt := 40) hx hb dX4_post_27 (by decide) (by omega) (by omega) (fun c_17 => ?_) (fun c_17 => ?_)
    · skip
      have hu0 : u < σ 0 0 := hu0
      have hh9 : h < 10 ∨ h = 4294967295 := by omega
      have hP9 : PH (poW σ q u h) ρ (σ 8 0) := by
        obtain ⟨x1, x2, x3, x4, x5⟩ := poW_ok hI (by omega) hq0 hu0 hh9
        obtain ⟨z1, z2⟩ := poW_LX hI (by omega) hq0 hu0 hh9
        have e20 : poW σ q u h 20 0 = σ 20 0 := by rw [x4 20 0 (by decide), poN_f (by decide)]
        have e22 : poW σ q u h 22 0 = σ 22 0 := by rw [x4 22 0 (by decide), poN_f (by decide)]
        have l20 := hS.le
        have l22 := hD.le
        have e7 : ∀ g j, g < 8 → poW σ q u h g j = σ g j := fun g j hg => by rw [x4 g j (by omega), poN_f (by omega)]
        exact ⟨x1, hRI.of e7, hH.2.2.of e7, x2, by omega, by omega, z1, z2⟩
      have p18 : poN σ q u h 18 (σ 8 0) = 0 := by rw [poN_f (by decide)]; exact (hZ (σ 8 0) (Nat.le_refl _)).1
      have p8 : poN σ q u h 8 0 = σ 8 0 + 1 := poN_8 (σ := σ) (p := q) (s := u) (h := h)
      have p24 : poN σ q u h 24 0 = σ 24 0 := poN_f (σ := σ) (p := q) (s := u) (h := h) (g := 24) (j := 0) (by decide)
      have p0 : poN σ q u h 0 0 = σ 0 0 := poN_f (σ := σ) (p := q) (s := u) (h := h) (g := 0) (j := 0) (by decide)
      refine mr_new (fs := [.int (nI 0), .null, .int (nI 0), .int (nI 0), .null, .int (nI 0), .int (nI 0), .int (nI 0), .int (nI 0), .int (nI 0)]) hx hb hts hinX1 tyX1 tyX1_ok hown (hts (.classLink RX4 101 RX1) (by decide +kernel)) (hts (.instantiable RX1 10) (by decide +kernel)) (hts (.initialized RX1) (by decide +kernel)) hK hW hA (ci := 2) (by rfl) (fun j hj => by match j, hj with | 0, _ => rfl | 1, _ => rfl | 2, _ => rfl | 3, _ => rfl | 4, _ => rfl | 5, _ => rfl | 6, _ => rfl | 7, _ => rfl | 8, _ => rfl | 9, _ => rfl) (Nat.le_of_ble_eq_true rfl) (Nat.le_of_ble_eq_true rfl) dX4_post_40 (fun b9 H hb9 hW => ?_)
      have hR0 := hR
      have hR : Rp G N Γ (cs σ ρ) (va_up M b9 (some (.inr (2, [.int (nI 0), .null, .int (nI 0), .int (nI 0), .null, .int (nI 0), .int (nI 0), .int (nI 0), .int (nI 0), .int (nI 0)])))) := hR0.ext (fun x e hx9 => (if_neg (fun z => by rw [z, hb9] at hx9; cases hx9)).trans hx9)
      refine lv_dup hx hb dX4_post_43 rfl ?_
      refine lv_aload_n hx hb dX4_post_44 rfl (lv_at hl 0 rfl) ?_
      refine mr_get hx hb hts hinX4 hown hK hW (hR.o0) (by rfl) 1 (by decide) (hts (.fieldLink RX4 16 "SeaPost" "mail" "Ljava/util/ArrayList;") (by decide +kernel)) (fun _ h => h) rfl dX4_post_45 ?_
      obtain ⟨z_18m, z_18a, z_18f, z_18, -, -⟩ := hR.o2 (x := 1) (Or.inl (by decide))
      refine mk_i (va_runV (As := []) (nL := 5) ⟨hx, hb, hml, hown, hts⟩ (kSize l G N Γ (cs σ ρ) 1 (Or.inl (by decide)) _ _ hR) (cwV 0 hts gX4_post_Jx4a65c_size_8abf5 rfl rfl rfl (by decide +kernel) ⟨(Nat.le_of_ble_eq_true rfl), (Nat.le_of_ble_eq_true rfl)⟩) (mp_V hK hE hW hA (mW_recv hK hW.1 z_18 (by rfl))) rfl rfl hl.1 rfl (lv_room (Nat.le_of_ble_eq_true rfl)) dX4_post_48 ⟨(Nat.le_of_ble_eq_true rfl), (Nat.le_of_ble_eq_true rfl)⟩) hW hA (fun r9 M9 H locs hp_19 hW => ?_)
      obtain ⟨e91, e92⟩ := hp_19
      subst e91
      rw [e92] at hW
      clear e92
      refine W.eq (g2 := F0 m 51 ls [.int (nI (cs σ ρ 30 1)), .ref b9, .ref b9]) rfl ?_
      refine lv_tope (congrArg nI (show cs σ ρ 30 1 = σ 8 0 from rfl)) ?_
      refine lv_aload_n hx hb dX4_post_51 rfl (lv_at hl 0 rfl) ?_
      refine mr_get hx hb hts hinX4 hown hK hW (hR.o0) (by rfl) 0 (by decide) (hts (.fieldLink RX4 10 "SeaPost" "fleet" "Ljava/util/ArrayList;") (by decide +kernel)) (fun _ h => h) rfl dX4_post_52 ?_
      refine lv_iload_n hx hb dX4_post_55 rfl (lv_at hl 2 rfl) ?_
      obtain ⟨z_20m, z_20a, z_20f, z_20, -, -⟩ := hR.o2 (x := 0) (Or.inl (by decide))
      refine mk_q (va_runV (As := [.int (nI u)]) (nL := 5) ⟨hx, hb, hml, hown, hts⟩ (kGetF l G N Γ (cs σ ρ) u (show u < σ 0 0 by omega) _ _ hR) (cwV 1 hts gX4_post_Jx4a65c_get_915e3 rfl rfl rfl (by decide +kernel) ⟨(Nat.le_of_ble_eq_true rfl), (Nat.le_of_ble_eq_true rfl)⟩) (mp_V hK hE hW hA (mW_recv hK hW.1 z_20 (by rfl))) rfl rfl hl.1 rfl (lv_room (Nat.le_of_ble_eq_true rfl)) dX4_post_56 ⟨(Nat.le_of_ble_eq_true rfl), (Nat.le_of_ble_eq_true rfl)⟩) hW hA (fun r9 M9 H locs hp_21 hW => ?_)
      obtain ⟨e91, e92⟩ := hp_21
      subst e91
      rw [e92] at hW
      clear e92
      refine W.eq (g2 := F0 m 59 ls [.ref (Γ 4 u), .int (nI (σ 8 0)), .ref b9, .ref b9]) rfl ?_
      refine va_castS hx hb hown (hts (.classLink RX4 37 RX3) (by decide +kernel)) (hK.1 4 _ rfl).2 (mW_recv hK hW.1 (hR.o4 (i := u) (show u < σ 0 0 by omega)) (by rfl)) dX4_post_59 ?_
      refine lv_iload_n hx hb dX4_post_62 rfl (lv_at hl 1 rfl) ?_
      refine lv_iload_n hx hb dX4_post_63 rfl (lv_at hl 3 rfl) ?_
      refine lv_aload_n hx hb dX4_post_64 rfl (lv_at hl 0 rfl) ?_
      refine mr_get hx hb hts hinX4 hown hK hW (hR.o0) (by rfl) 4 (by decide) (hts (.fieldLink RX4 84 "SeaPost" "day" "I") (by decide +kernel)) (fun _ h => h) rfl dX4_post_65 ?_
      refine lv_tope (congrArg nI (show (cs σ ρ) 24 0 = σ 24 0 from rfl)) ?_
      refine mk_v (va_runI (As := [.int (nI (σ 8 0)), .ref (Γ 4 u), .int (nI q), .int (nI h), .int (nI (σ 24 0))]) (nL := 5) ⟨hx, hb, hml, hown, hts⟩ (nLetter l G _ _ b9 (σ 8 0) (Γ 4 u) q h (σ 24 0) (if_pos rfl) ⟨_, hR.o4 (i := u) (show u < σ 0 0 by omega)⟩) (cwI 5 hts gX4_post_X1_init rfl rfl rfl (hts (.initialized RX1) (by decide +kernel)) (hts (.methodLink RX4 103 yX1_init) (by decide +kernel)) (hts (.instanceMethod yX1_init) (by decide +kernel)) rfl (by decide +kernel) ⟨(Nat.le_of_ble_eq_true rfl), (Nat.le_of_ble_eq_true rfl)⟩) (mp_S hK hE hW hA) rfl rfl hl.1 rfl (lv_room (Nat.le_of_ble_eq_true rfl)) dX4_post_68 ⟨(Nat.le_of_ble_eq_true rfl), (Nat.le_of_ble_eq_true rfl)⟩) hW hA (fun M2 H locs hp hW => ?_)
      obtain ⟨c9, t9, f1, f2, m0, m1, m2, ho, -⟩ := hp
      have hM9 : ∀ x e, M x = some e → M2 x = some e := fun x e hx9 => by
        have h0 : ∀ z, M z = none → x ≠ z := fun z hz w => by rw [w, hz] at hx9; cases hx9
        exact (ho x (h0 _ hb9) (h0 _ (va_up_none f1)) (h0 _ (va_up_none f2))).trans ((if_neg (h0 _ hb9)).trans hx9)
      obtain ⟨Γ1, e00, e21, e9n, hR1⟩ := Rp.letter (n := σ 8 0) hR0 hH rfl (by omega) hu0 hb9 (va_up_none f1) (va_up_none f2) m0 m1 m2 hM9
      have hW : cW G N Γ1 (st (cs (poN σ q u h) ρ) 30 1 (σ 8 0)) (mA M sz) s.heap H locs := ⟨M2, hW, hR1⟩
      refine W.eq (g2 := F0 m 71 ls [.ref (Γ1 9 (σ 8 0))]) (by rw [e9n]) ?_
      rw [← e00] at hl
      refine lv_astore (lv' := [(4, .ref (Γ1 9 (σ 8 0))), (0, .ref (Γ1 0 0)), (1, .int (nI q)), (2, .int (nI u)), (3, .int (nI h))]) hx hb dX4_post_71 hl (by decide) rfl (fun ls hl => ?_)
      refine lv_aload_n hx hb dX4_post_73 rfl (lv_at hl 1 rfl) ?_
      refine cr_get hx hb hts hinX4 hown hK hW (fun M hM => hM.o0) (by rfl) 1 (by decide) (hts (.fieldLink RX4 16 "SeaPost" "mail" "Ljava/util/ArrayList;") (by decide +kernel)) (fun _ h => h) rfl dX4_post_74 ?_
      refine lv_aload hx hb dX4_post_77 (lv_at hl 0 rfl) ?_
      refine ck_addG (x := 1) (n := σ 8 0) (k := 9) ⟨hx, hb, hml, hown, hts⟩ (cwV 1 hts gX4_post_Jx4a65c_add_9ea2d rfl rfl rfl (by decide +kernel) ⟨(Nat.le_of_ble_eq_true rfl), (Nat.le_of_ble_eq_true rfl)⟩) hK hE hW hA (Or.inr ⟨rfl, rfl, (show σ 8 0 < poN σ q u h 8 0 by omega)⟩) st_s (by omega) (show poN σ q u h 0 0 ≤ 8 by omega) hl.1 (Nat.le_of_ble_eq_true rfl) dX4_post_79 ⟨(Nat.le_of_ble_eq_true rfl), (Nat.le_of_ble_eq_true rfl)⟩ (fun H locs hW => ?_)
      rw [st_back (show cs (poN σ q u h) ρ 30 1 = σ 8 0 + 1 from p8)] at hW
      refine lv_pop hx hb dX4_post_82 rfl ?_
      refine lv_aload hx hb dX4_post_83 (lv_at hl 0 rfl) ?_
      refine cr_get hx hb hts hinX1 hown hK hW (fun M hM => hM.o9 (i := σ 8 0) (show σ 8 0 < poN σ q u h 8 0 by omega)) (by rfl) 4 (by decide) (hts (.fieldLink RX4 106 "SeaPost$Letter" "cover" "LSeaPost$Cover;") (by decide +kernel)) (fun _ h => h) rfl dX4_post_85 ?_
      refine lv_iload_n hx hb dX4_post_88 rfl (lv_at hl 2 rfl) ?_
      refine ck_Vv (r := (RX0, TX0, 2)) (As := [.int (nI q)]) (nL := 5) ⟨hx, hb, hml, hown, hts⟩ (uPort l G N Γ1 (cs (poN σ q u h) ρ) (σ 8 0) q (show σ 8 0 < poN σ q u h 8 0 by omega) (show poN σ q u h 18 (σ 8 0) < 128 by omega) (by omega)) (cwV 1 hts gX4_post_X0_writePort rfl rfl rfl (by decide +kernel) ⟨(Nat.le_of_ble_eq_true rfl), (Nat.le_of_ble_eq_true rfl)⟩) hK hE hW hA (fun M hM => hM.o10 (i := σ 8 0) (show σ 8 0 < poN σ q u h 8 0 by omega)) (by rfl) rfl hl.1 rfl (Nat.le_of_ble_eq_true rfl) dX4_post_89 ⟨(Nat.le_of_ble_eq_true rfl), (Nat.le_of_ble_eq_true rfl)⟩ (fun H locs hW => ?_)
      obtain ⟨σ_22, eσ_22⟩ : ∃ z : Sg, z = wr (cs (poN σ q u h) ρ) (σ 8 0) (65 + q) := ⟨_, rfl⟩
      rw [← eσ_22] at hW
      refine W.eq (g2 := F0 m 92 ls []) rfl ?_
      have hW : cW G N Γ1 (cs (wr (poN σ q u h) (σ 8 0) (65 + q)) ρ) (mA M sz) s.heap H locs := by rw [cs_wr, ← eσ_22]; exact hW
      have x18 : wr (poN σ q u h) (σ 8 0) (65 + q) 18 (σ 8 0) = 1 := by rw [wr_18, p18]
      have x8 : wr (poN σ q u h) (σ 8 0) (65 + q) 8 0 = σ 8 0 + 1 := by rw [wr_f (by decide)]; exact p8
      have x24 : wr (poN σ q u h) (σ 8 0) (65 + q) 24 0 = σ 24 0 := by rw [wr_f (by decide)]; exact p24
      refine lv_aload hx hb dX4_post_92 (lv_at hl 0 rfl) ?_
      refine cr_get hx hb hts hinX1 hown hK hW (fun M hM => hM.o9 (i := σ 8 0) (show σ 8 0 < wr (poN σ q u h) (σ 8 0) (65 + q) 8 0 by omega)) (by rfl) 4 (by decide) (hts (.fieldLink RX4 106 "SeaPost$Letter" "cover" "LSeaPost$Cover;") (by decide +kernel)) (fun _ h => h) rfl dX4_post_94 ?_
      refine lv_aload_n hx hb dX4_post_97 rfl (lv_at hl 1 rfl) ?_
      refine cr_get hx hb hts hinX4 hown hK hW (fun M hM => hM.o0) (by rfl) 4 (by decide) (hts (.fieldLink RX4 84 "SeaPost" "day" "I") (by decide +kernel)) (fun _ h => h) rfl dX4_post_98 ?_
      refine ck_Vv (r := (RX0, TX0, 2)) (As := [.int (nI ((cs (wr (poN σ q u h) (σ 8 0) (65 + q)) ρ) 24 0))]) (nL := 5) ⟨hx, hb, hml, hown, hts⟩ (uDay l G N Γ1 (cs (wr (poN σ q u h) (σ 8 0) (65 + q)) ρ) (σ 8 0) (show σ 8 0 < wr (poN σ q u h) (σ 8 0) (65 + q) 8 0 by omega) (show wr (poN σ q u h) (σ 8 0) (65 + q) 18 (σ 8 0) ≤ 124 by omega) (show wr (poN σ q u h) (σ 8 0) (65 + q) 24 0 ≤ 1000 by omega)) (cwV 1 hts gX4_post_X0_writeDay rfl rfl rfl (by decide +kernel) ⟨(Nat.le_of_ble_eq_true rfl), (Nat.le_of_ble_eq_true rfl)⟩) hK hE hW hA (fun M hM => hM.o10 (i := σ 8 0) (show σ 8 0 < wr (poN σ q u h) (σ 8 0) (65 + q) 8 0 by omega)) (by rfl) rfl hl.1 rfl (Nat.le_of_ble_eq_true rfl) dX4_post_101 ⟨(Nat.le_of_ble_eq_true rfl), (Nat.le_of_ble_eq_true rfl)⟩ (fun H locs hW => ?_)
      obtain ⟨σ_23, eσ_23⟩ : ∃ z : Sg, z = wDay (cs (wr (poN σ q u h) (σ 8 0) (65 + q)) ρ) (σ 8 0) := ⟨_, rfl⟩
      rw [← eσ_23] at hW
      refine W.eq (g2 := F0 m 104 ls []) rfl ?_
      have hW : cW G N Γ1 (cs (poW σ q u h) ρ) (mA M sz) s.heap H locs := by rw [show poW σ q u h = wDay (wr (poN σ q u h) (σ 8 0) (65 + q)) (σ 8 0) from rfl, cs_wDay, ← eσ_23]; exact hW
      have w8 : poW σ q u h 8 0 = σ 8 0 + 1 := by rw [(poW_ok hI (by omega) hq0 hu0 hh9).2.2.2.1 8 0 (by decide)]; exact p8
      refine lv_aload_n hx hb dX4_post_104 rfl (lv_at hl 1 rfl) ?_
      refine lv_aload hx hb dX4_post_105 (lv_at hl 0 rfl) ?_
      refine ck_Vv (r := (RX4, TX4, 6)) (As := [.ref (Γ1 9 (σ 8 0))]) (nL := 5) ⟨hx, hb, hml, hown, hts⟩ (vHandle l G N Γ1 (poW σ q u h) ρ (σ 8 0) hP9 1 (fun _ => Nat.le_refl 1)) (cwV 1 hts gX4_post_X4_handle rfl rfl rfl (by decide +kernel) ⟨(Nat.le_of_ble_eq_true rfl), (Nat.le_of_ble_eq_true rfl)⟩) hK hE hW hA (fun M hM => hM.o0) (by rfl) rfl hl.1 rfl (Nat.le_of_ble_eq_true rfl) dX4_post_107 ⟨(Nat.le_of_ble_eq_true rfl), (Nat.le_of_ble_eq_true rfl)⟩ (fun H locs hW => ?_)
      obtain ⟨σ_24, eσ_24⟩ : ∃ z : Sg, z = cs (ha (poW σ q u h) (σ 8 0)) ρ := ⟨_, rfl⟩
      rw [← eσ_24] at hW
      refine W.eq (g2 := F0 m 110 ls []) rfl ?_
      have hW : cW G N Γ1 (cs (po σ q u h) ρ) (mA M sz) s.heap H locs := by rw [show po σ q u h = ha (poW σ q u h) (σ 8 0) from rfl, ← eσ_24]; exact hW
      have y8 : po σ q u h 8 0 = σ 8 0 + 1 := by
        obtain ⟨x1, x2, x3, x4, x5⟩ := poW_ok hI (by omega) hq0 hu0 hh9
        exact (ha_ok x1 x2).1.f.2.1.trans w8
      refine lv_aload hx hb dX4_post_110 (lv_at hl 0 rfl) ?_
      refine cr_get hx hb hts hinX1 hown hK hW (fun M hM => hM.o9 (i := σ 8 0) (show σ 8 0 < po σ q u h 8 0 by omega)) (by rfl) 0 (by decide) (hts (.fieldLink RX4 122 "SeaPost$Letter" "number" "I") (by decide +kernel)) (fun _ h => h) rfl dX4_post_112 ?_
      obtain ⟨M9x, hW, hR9⟩ := hW
      exact vx_ret (mr_iret hx hb hr hlk (Nat.le_of_ble_eq_true rfl) (Nat.le_of_ble_eq_true rfl) hW ⟨by unfold thP; first | (rw [if_neg (by omega), if_neg (by omega)]; done) | (rw [if_neg (by omega), if_pos (by omega)]; done) | (rw [if_pos (by omega)]; done), rfl, Γ1, ρ, e00, hR9, hH.post (by omega) hq0 hu0 hh9⟩ dX4_post_115)
    · skip
      exact mx_throw (cls := "java/lang/IllegalStateException") (text := "there are 40 letters") (ik := 30) (is := 99) (ic := 34) hx hb hst (hml.trans hl.1.symm) hown hts hlk htab hE (by decide +kernel) (by decide +kernel) (by decide +kernel) (by decide +kernel) (fun _ h => List.mem_cons_of_mem _ (List.mem_append_left _ (List.mem_append_right _ h))) tb_3 tg_3 (by decide +kernel) hW (xOk.of (k := 2) (by unfold thP; first | (rw [if_neg (by omega), if_neg (by omega)]; done) | (rw [if_neg (by omega), if_pos (by omega)]; done) | (rw [if_pos (by omega)]; done)) (by decide) rfl) dX4_post_30 dX4_post_33 dX4_post_34 dX4_post_36 dX4_post_39 (Nat.le_of_ble_eq_true rfl) (Nat.le_of_ble_eq_true rfl) (Nat.le_of_ble_eq_true rfl) (Nat.le_of_ble_eq_true rfl) (Nat.le_of_ble_eq_true rfl) (Nat.le_of_ble_eq_true rfl)
