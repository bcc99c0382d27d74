/-! THE CLASS: the public methods that change something (mine; the rows are laid by wip/whole/gen) -/
theorem st_back {ς : Sg} {f j a v : Nat} (h : ς f j = v) : st (st ς f j a) f j v = ς := by rw [st_st, ← h, st_id]
section CRG
variable {p : Program} {l : Launch} {e : Env} {R : Room} {s : State} {m : MethodId} {args : Array Value} {below : List Frame} {meth : Method} {c : Code} {H : Heap} {locs : List Loc} {cells slots : Nat} {Q : State → Prop}
variable {cc : ByteArray} {pc : Nat} {ls : Array Slot} {rest : List Value} {G : mG} {N : Mem} {Γ : Adr} {ς : Sg} {A : Nat → Prop} {own : String} {index maxL nL : Nat} {bytes : ByteArray} {ret : Option FieldType} {Ts : List Cond}
/-- fleet and mail grow -/
theorem ck_addG (S : CallFix p m c cc nL s args Ts own) (cw : CallW R s args own RJx4a65c index yJx4a65c_add_9ea2d bytes maxL ret wsJx4a65c_add_9ea2d (mRm 6 1 64) 1 64 1) (hK : va_K G.1 vwCl (kT G) s) (hE : sE G A s s.heap) (hW : cW G N Γ ς A s.heap H locs) (hA : ∀ q, s.heap.size ≤ q → A q) {x n k : Nat} (hxk : (x = 0 ∧ k = 4 ∧ n < ς 33 0) ∨ (x = 1 ∧ k = 9 ∧ n < ς 33 1)) (hn : ς 30 x = n) (h40 : n ≤ 40) (h8 : ς 33 0 ≤ 8) (hsize : ls.size = nL) (hcat : (rest.map fun v => v.category).sum ≤ 8) (hdg : decode cc pc = .ok (.invokevirtual index, 3)) (hcs : cells + 1 ≤ R.cells ∧ slots + 64 ≤ R.slots)
    (kk : ∀ (H1 : Heap) (locs1 : List Loc), cW G N Γ (st ς 30 x (n + 1)) A s.heap H1 locs1 → W p l e R s m args below meth c H1 locs1 (cells + 1) (slots + 64) Q (F0 m (pc + 3) ls (.int (nI 1) :: rest))) : W p l e R s m args below meth c H locs cells slots Q (F0 m pc ls (.ref (Γ k n) :: .ref (Γ 2 x) :: rest)) := by
  have ek : elk x = k := by rcases hxk with ⟨rfl, rfl, -⟩ | ⟨rfl, rfl, -⟩ <;> rfl
  have ee : ∀ (ς9 : Sg) j, eli ς9 x j = j := fun ς9 j => by unfold eli; rw [if_pos (by omega)]
  have hd : ∀ cp j, j ≤ n → Dm ς cp k j := by
    intro cp j hj
    rcases hxk with ⟨rfl, rfl, h⟩ | ⟨rfl, rfl, h⟩
    · exact Dm4 (by omega)
    · exact Dm9 (by omega)
  refine ck_add S cw hK hE hW hA (w := ς 31 (64 * x + n)) (Or.inl (by omega)) hn h40 (ς' := st ς 30 x (n + 1)) (by rw [st_id]) ?_ ?_ ?_ ?_ hsize hcat hdg hcs kk
  · rw [ek, ee]
  · intro cp j hj
    rw [ek, ee]
    exact hd cp j (by omega)
  · intro cp
    rw [ek, ee]
    exact hd cp n (Nat.le_refl _)
  · intro cp k i h
    refine Dm_add (a := 64 * x + n) (w := ς 31 (64 * x + n)) (x := x) (v := n + 1) (by omega) h8 ?_
    rw [st_id]
    exact h
/-- a draft is told -/
theorem ck_addT (S : CallFix p m c cc nL s args Ts own) (cw : CallW R s args own RJx4a65c index yJx4a65c_add_9ea2d bytes maxL ret wsJx4a65c_add_9ea2d (mRm 6 1 64) 1 64 1) (hK : va_K G.1 vwCl (kT G) s) (hE : sE G A s s.heap) (hW : cW G N Γ ς A s.heap H locs) (hA : ∀ q, s.heap.size ≤ q → A q) {u n : Nat} (hu : u < ς 33 0) (h8 : ς 33 0 ≤ 8) (hn : ς 30 (10 + u) = n) (h20 : n < 20) (h35 : ς 35 u = n) (hsize : ls.size = nL) (hcat : (rest.map fun v => v.category).sum ≤ 8) (hdg : decode cc pc = .ok (.invokevirtual index, 3)) (hcs : cells + 1 ≤ R.cells ∧ slots + 64 ≤ R.slots)
    (kk : ∀ (H1 : Heap) (locs1 : List Loc), cW G N Γ (st ς 30 (10 + u) (n + 1)) A s.heap H1 locs1 → W p l e R s m args below meth c H1 locs1 (cells + 1) (slots + 64) Q (F0 m (pc + 3) ls (.int (nI 1) :: rest))) : W p l e R s m args below meth c H locs cells slots Q (F0 m pc ls (.ref (Γ 5 (21 * u + n)) :: .ref (Γ 2 (10 + u)) :: rest)) := by
  have ek : elk (10 + u) = 5 := by unfold elk; rw [if_neg (by omega), if_pos (by omega)]
  have ee : ∀ (ς9 : Sg) j, eli ς9 (10 + u) j = 21 * u + j := fun ς9 j => by unfold eli; rw [if_neg (by omega), if_pos (by omega)]; omega
  refine ck_add S cw hK hE hW hA (w := ς 31 (64 * (10 + u) + n)) (isL_t hu) hn (by omega) (ς' := st ς 30 (10 + u) (n + 1)) (by rw [st_id]) ?_ ?_ ?_ ?_ hsize hcat hdg hcs kk
  · rw [ek, ee]
  · intro cp j hj
    rw [ek, ee]
    exact Dm5 (isR_of hu (by omega) (by omega))
  · intro cp
    rw [ek, ee]
    refine Dm5 ?_
    unfold isR
    rw [show (21 * u + n) / 21 = u by omega, show (21 * u + n) % 21 = n by omega, h35]
    exact ⟨hu, Or.inr rfl⟩
  · intro cp k i h
    unfold Dm isL isR at h ⊢
    rw [st_row (show (33 : Nat) ≠ 30 by decide), st_row (show (35 : Nat) ≠ 30 by decide)] at h
    by_cases e : i / 21 = u
    · rw [e, st_s, h35] at h
      rw [e, hn, h35]
      rcases h with h | h | h | h | h | h | h
      · exact Or.inl h
      · exact Or.inr (Or.inl h)
      · exact Or.inr (Or.inr (Or.inl h))
      · exact Or.inr (Or.inr (Or.inr (Or.inl h)))
      · exact Or.inr (Or.inr (Or.inr (Or.inr (Or.inl h))))
      · exact Or.inr (Or.inr (Or.inr (Or.inr (Or.inr (Or.inl ⟨h.1, h.2.1, by omega⟩)))))
      · exact Or.inr (Or.inr (Or.inr (Or.inr (Or.inr (Or.inr h)))))
    · rw [st_i (show 10 + i / 21 ≠ 10 + u by omega)] at h
      exact h
end CRG

set_option maxHeartbeats 4000000 in
set_option maxRecDepth 100000 in
theorem wAddShip (l : Launch) (hst : l.stackTraces = false) (G : mG) (N : Mem) (Γ : Adr) (σ ρ : Sg)  (hH : HS σ ρ) : pXi l yX4_addShip wsX4_addShip 8 14 200 G N Γ σ ρ [.ref (Γ 0 0)] (thA σ) (σ 0 0) (nxA σ) ["java/lang/IllegalStateException"] := by
  intro M sz hR
  refine m_startX cX4_addShip 1 (some .int) (by decide) rfl (Nat.le_of_ble_eq_true rfl) ?_
  intro p e s m below meth c ls hx hb hr hml hown hlk hnm hts hK hsz hE hW hl htab
  have hA := mA_A (M := M) hsz
  have hl : lv_has ls 1 [(0, .ref (Γ 0 0))] := hl
  have hinX2 : ∀ w ∈ u_ws RX2 TX2 6, w ∈ wsX4_addShip := (fun _ h => List.mem_cons_of_mem _ (List.mem_append_left _ (List.mem_append_right _ h)))
  have hinX3 : ∀ w ∈ u_ws RX3 TX3 3, w ∈ wsX4_addShip := (fun _ h => List.mem_cons_of_mem _ (List.mem_append_left _ (List.mem_append_left _ (List.mem_append_left _ (List.mem_append_right _ h)))))
  have hinX4 : ∀ w ∈ u_ws RX4 TX4 6, w ∈ wsX4_addShip := (fun _ h => List.mem_cons_of_mem _ (List.mem_append_left _ (List.mem_append_left _ (List.mem_append_left _ (List.mem_append_left _ (List.mem_append_right _ h))))))
  have hinJx4a65c : ∀ w ∈ u_ws RJx4a65c TJx4a65c 3, w ∈ wsX4_addShip := (fun _ h => List.mem_cons_of_mem _ (List.mem_append_left _ (List.mem_append_left _ (List.mem_append_right _ h))))
  have hI := hH.1
  obtain ⟨hV, hS, hD, hL, hZ, hRI⟩ := id hI
  have b0 : σ 0 0 ≤ 8 := hV 0 0
  have b8 : σ 8 0 ≤ 40 := hV 8 0
  have b24 : σ 24 0 ≤ 1000 := hV 24 0
  have hct := hH.cnt
  refine lv_aload_n hx hb dX4_addShip_0 rfl (lv_at hl 0 rfl) ?_
  refine mr_get hx hb hts hinX4 hown hK hW (hR.o0) (by rfl) 0 (by decide) (hts (.fieldLink RX4 10 "SeaPost" "fleet" "Ljava/util/ArrayList;") (by decide +kernel)) (fun _ h => h) rfl dX4_addShip_1 ?_
  obtain ⟨z_1m, z_1a, z_1f, z_1, -, -⟩ := hR.o2 (x := 0) (Or.inl (by decide))
  refine mk_i (va_runV (As := []) (nL := 1) ⟨hx, hb, hml, hown, hts⟩ (kSize l G N Γ (cs σ ρ) 0 (Or.inl (by decide)) _ _ hR) (cwV 0 hts gX4_addShip_Jx4a65c_size_8abf5 rfl rfl rfl (by decide +kernel) ⟨(Nat.le_of_ble_eq_true rfl), (Nat.le_of_ble_eq_true rfl)⟩) (mp_V hK hE hW hA (mW_recv hK hW.1 z_1 (by rfl))) rfl rfl hl.1 rfl (lv_room (Nat.le_of_ble_eq_true rfl)) dX4_addShip_4 ⟨(Nat.le_of_ble_eq_true rfl), (Nat.le_of_ble_eq_true rfl)⟩) hW hA (fun r9 M9 H locs hp_2 hW => ?_)
  obtain ⟨e91, e92⟩ := hp_2
  subst e91
  rw [e92] at hW
  clear e92
  refine W.eq (g2 := F0 m 7 ls [.int (nI (σ 0 0))]) rfl ?_
  refine lv_bipush (v := nI 8) hx hb dX4_addShip_7 (by decide) ?_
  refine nv_icmp_lt (u := σ 0 0) (v := 8) (tgt := 22) hx hb dX4_addShip_9 (by decide) (by omega) (by omega) (fun c_3 => ?_) (fun c_3 => ?_)
  · skip
    refine lv_aload_n hx hb dX4_addShip_22 rfl (lv_at hl 0 rfl) ?_
    refine mr_get hx hb hts hinX4 hown hK hW (hR.o0) (by rfl) 0 (by decide) (hts (.fieldLink RX4 10 "SeaPost" "fleet" "Ljava/util/ArrayList;") (by decide +kernel)) (fun _ h => h) rfl dX4_addShip_23 ?_
    refine mr_new (fs := [.null, .null, .null]) hx hb hts hinX3 tyX3 tyX3_ok hown (hts (.classLink RX4 37 RX3) (by decide +kernel)) (hts (.instantiable RX3 3) (by decide +kernel)) (hts (.initialized RX3) (by decide +kernel)) hK hW hA (ci := 4) (by rfl) (fun j hj => by match j, hj with | 0, _ => rfl | 1, _ => rfl | 2, _ => rfl) (Nat.le_of_ble_eq_true rfl) (Nat.le_of_ble_eq_true rfl) dX4_addShip_26 (fun b9 H hb9 hW => ?_)
    refine lv_dup hx hb dX4_addShip_29 rfl ?_
    refine mk_v (va_runIN (As := []) (nL := 1) ⟨hx, hb, hml, hown, hts⟩ (nShip l G _ _ b9 (if_pos rfl)) ⟨va_cnB 0 hts gX4_addShip_X3_init_n39 rfl rfl rfl (hE.2.2.1 (RX4, 39, yX3_init) (by decide +kernel)) (hts (.initialized RX3) (by decide +kernel)) (by decide +kernel) ⟨(Nat.le_of_ble_eq_true rfl), (Nat.le_of_ble_eq_true rfl)⟩, rfl, hts (.instanceMethod yX3_init) (by decide +kernel)⟩ (mp_S hK hE hW hA) rfl rfl hl.1 rfl (lv_room (Nat.le_of_ble_eq_true rfl)) dX4_addShip_30 ⟨(Nat.le_of_ble_eq_true rfl), (Nat.le_of_ble_eq_true rfl)⟩) hW hA (fun M2 H locs hp hW => ?_)
    obtain ⟨a9, v9, r9, q9, y9, t9, f1, f2, f3, f4, f5, f6, m0, m1, m2, m3, m4, m5, m6, hd9, ho, -⟩ := hp
    have hM9 : ∀ x e, M x = some e → M2 x = some e := fun x e hx9 => by
      have h0 : ∀ z, M z = none → x ≠ z := fun z hz w => by rw [w, hz] at hx9; cases hx9
      exact (ho x (h0 _ hb9) (h0 _ (va_up_none f1)) (h0 _ (va_up_none f2)) (h0 _ (va_up_none f3)) (h0 _ (va_up_none f4)) (h0 _ (va_up_none f5)) (h0 _ (va_up_none f6))).trans ((if_neg (h0 _ hb9)).trans hx9)
    obtain ⟨Γ1, e00, e20, e4n, hR1⟩ := Rp.ship hR hH rfl (by omega) hb9 (va_up_none f1) (va_up_none f2) (va_up_none f3) (va_up_none f4) (va_up_none f5) (va_up_none f6) m0 m1 m2 m3 m4 m5 m6 hd9 hM9
    have hW : cW G N Γ1 (st (cs (st σ 0 0 (σ 0 0 + 1)) (ρz ρ (21 * σ 0 0))) 30 0 (σ 0 0)) (mA M sz) s.heap H locs := ⟨M2, hW, hR1⟩
    refine W.eq (g2 := F0 m 33 ls [.ref (Γ1 4 (σ 0 0)), .ref (Γ1 2 0)]) (by rw [e4n, e20]) ?_
    rw [← e00] at hl
    refine ck_addG (x := 0) (n := σ 0 0) (k := 4) ⟨hx, hb, hml, hown, hts⟩ (cwV 1 hts gX4_addShip_Jx4a65c_add_9ea2d rfl rfl rfl (by decide +kernel) ⟨(Nat.le_of_ble_eq_true rfl), (Nat.le_of_ble_eq_true rfl)⟩) hK hE hW hA (Or.inl ⟨rfl, rfl, (show σ 0 0 < σ 0 0 + 1 by omega)⟩) st_s (by omega) (show σ 0 0 + 1 ≤ 8 by omega) hl.1 (Nat.le_of_ble_eq_true rfl) dX4_addShip_33 ⟨(Nat.le_of_ble_eq_true rfl), (Nat.le_of_ble_eq_true rfl)⟩ (fun H locs hW => ?_)
    rw [st_back (show cs (st σ 0 0 (σ 0 0 + 1)) (ρz ρ (21 * σ 0 0)) 30 0 = σ 0 0 + 1 from rfl)] at hW
    refine lv_pop hx hb dX4_addShip_36 rfl ?_
    refine lv_aload_n hx hb dX4_addShip_37 rfl (lv_at hl 0 rfl) ?_
    refine cr_get hx hb hts hinX4 hown hK hW (fun M hM => hM.o0) (by rfl) 0 (by decide) (hts (.fieldLink RX4 10 "SeaPost" "fleet" "Ljava/util/ArrayList;") (by decide +kernel)) (fun _ h => h) rfl dX4_addShip_38 ?_
    obtain ⟨M9x, hW, hR⟩ := hW
    obtain ⟨z_4m, z_4a, z_4f, z_4, -, -⟩ := hR.o2 (x := 0) (Or.inl (by decide))
    refine mk_i (va_runV (As := []) (nL := 1) ⟨hx, hb, hml, hown, hts⟩ (kSize l G N Γ1 (cs (st σ 0 0 (σ 0 0 + 1)) (ρz ρ (21 * σ 0 0))) 0 (Or.inl (by decide)) _ _ hR) (cwV 0 hts gX4_addShip_Jx4a65c_size_8abf5 rfl rfl rfl (by decide +kernel) ⟨(Nat.le_of_ble_eq_true rfl), (Nat.le_of_ble_eq_true rfl)⟩) (mp_V hK hE hW hA (mW_recv hK hW.1 z_4 (by rfl))) rfl rfl hl.1 rfl (lv_room (Nat.le_of_ble_eq_true rfl)) dX4_addShip_41 ⟨(Nat.le_of_ble_eq_true rfl), (Nat.le_of_ble_eq_true rfl)⟩) hW hA (fun r9 M9 H locs hp_5 hW => ?_)
    obtain ⟨e91, e92⟩ := hp_5
    subst e91
    rw [e92] at hW
    clear e92
    refine W.eq (g2 := F0 m 44 ls [.int (nI (σ 0 0 + 1))]) rfl ?_
    have hW : cW G N Γ1 (cs (st σ 0 0 (σ 0 0 + 1)) (ρz ρ (21 * σ 0 0))) (mA M sz) s.heap H locs := ⟨_, hW, hR⟩
    refine lv_iconst (v := nI 1) hx hb dX4_addShip_44 (by decide) ?_
    refine lv_isub hx hb dX4_addShip_45 (lv_tope (pk_sub (a := σ 0 0 + 1) (b := 1) (by omega)) ?_)
    obtain ⟨M9x, hW, hR9⟩ := hW
    exact vx_ret (mr_iret hx hb hr hlk (Nat.le_of_ble_eq_true rfl) (Nat.le_of_ble_eq_true rfl) hW ⟨by unfold thA; rw [if_neg (by omega)], rfl, Γ1, ρz ρ (21 * σ 0 0), e00, hR9, hH.ship (by omega)⟩ dX4_addShip_46)
  · skip
    exact mx_throw (cls := "java/lang/IllegalStateException") (text := "there are 8 ships") (ik := 30) (is := 32) (ic := 34) hx hb hst (hml.trans hl.1.symm) hown hts hlk htab hE (by decide +kernel) (by decide +kernel) (by decide +kernel) (by decide +kernel) (fun _ h => List.mem_cons_of_mem _ (List.mem_append_right _ h)) tb_3 tg_3 (by decide +kernel) hW (xOk.of (k := 1) (by unfold thA; rw [if_pos (by omega)]) (by decide) rfl) dX4_addShip_12 dX4_addShip_15 dX4_addShip_16 dX4_addShip_18 dX4_addShip_21 (Nat.le_of_ble_eq_true rfl) (Nat.le_of_ble_eq_true rfl) (Nat.le_of_ble_eq_true rfl) (Nat.le_of_ble_eq_true rfl) (Nat.le_of_ble_eq_true rfl) (Nat.le_of_ble_eq_true rfl)

set_option maxHeartbeats 4000000 in
set_option maxRecDepth 100000 in
theorem wStrike (l : Launch) (hst : l.stackTraces = false) (G : mG) (N : Mem) (Γ : Adr) (σ ρ : Sg) (q : Nat) (hq : q < 4294967296) (d : Nat) (hd : d < 4294967296) (hH : HS σ ρ) : pXi l yX4_strike wsX4_strike 7 5 30 G N Γ σ ρ [.ref (Γ 0 0), .int (nI q), .int (nI d)] (thK σ q d) (opS σ q d) (nxK σ q d) ["java/lang/IndexOutOfBoundsException", "java/lang/IllegalArgumentException"] := by
  intro M sz hR
  refine m_startX cX4_strike 3 (some .int) (by decide) rfl (Nat.le_of_ble_eq_true rfl) ?_
  intro p e s m below meth c ls hx hb hr hml hown hlk hnm hts hK hsz hE hW hl htab
  have hA := mA_A (M := M) hsz
  have hl : lv_has ls 3 [(0, .ref (Γ 0 0)), (1, .int (nI q)), (2, .int (nI d))] := hl
  have hinX4 : ∀ w ∈ u_ws RX4 TX4 6, w ∈ wsX4_strike := (fun _ h => List.mem_cons_of_mem _ (List.mem_append_left _ (List.mem_append_left _ (List.mem_append_right _ h))))
  have hI := hH.1
  obtain ⟨hV, hS, hD, hL, hZ, hRI⟩ := id hI
  have b0 : σ 0 0 ≤ 8 := hV 0 0
  have b8 : σ 8 0 ≤ 40 := hV 8 0
  have b24 : σ 24 0 ≤ 1000 := hV 24 0
  have hct := hH.cnt
  refine lv_iload_n hx hb dX4_strike_0 rfl (lv_at hl 1 rfl) ?_
  refine mx_v (vx_runS (As := [.int (nI q)]) (nL := 3) ⟨hx, hb, hml, hown, hts⟩ (xPort l hst G _ _ q (by omega)) (va_cwS 1 hts gX4_strike_X4_needPort rfl rfl rfl (by decide +kernel) ⟨(Nat.le_of_ble_eq_true rfl), (Nat.le_of_ble_eq_true rfl)⟩) (mp_S hK hE hW hA) rfl rfl hl.1 rfl (lv_room (Nat.le_of_ble_eq_true rfl)) dX4_strike_1 ⟨(Nat.le_of_ble_eq_true rfl), (Nat.le_of_ble_eq_true rfl)⟩) hW hsz htab hlk (fun E hE9 => by obtain ⟨h1, rfl⟩ := hE9; exact xOk.of (k := 1) (by unfold thK; first | (rw [if_pos (by omega)]; done) | (rw [if_neg (by omega)]; done) | (rw [if_neg (by omega), if_pos (by omega)]; done) | (rw [if_neg (by omega), if_neg (by omega)]; done) | (rw [if_neg (by omega), if_neg (by omega), if_neg (by omega)]; done)) (by decide) rfl) (Nat.le_of_ble_eq_true rfl) (Nat.le_of_ble_eq_true rfl) (fun M9 H locs hp_1 hW => ?_)
  obtain ⟨hq0, e92⟩ := hp_1
  rw [e92] at hW
  clear e92
  refine W.eq (g2 := F0 m 4 ls []) rfl ?_
  refine lv_iload_n hx hb dX4_strike_4 rfl (lv_at hl 2 rfl) ?_
  refine lv_iconst (v := nI 1) hx hb dX4_strike_5 (by decide) ?_
  refine lv_bipush (v := nI 60) hx hb dX4_strike_6 (by decide) ?_
  refine mx_v (vx_runS (As := [.int (nI d), .int (nI 1), .int (nI 60)]) (nL := 3) ⟨hx, hb, hml, hown, hts⟩ (xRange l hst G _ _ d 1 60 (by omega) (by omega) (by omega)) (va_cwS 3 hts gX4_strike_X4_needRange rfl rfl rfl (by decide +kernel) ⟨(Nat.le_of_ble_eq_true rfl), (Nat.le_of_ble_eq_true rfl)⟩) (mp_S hK hE hW hA) rfl rfl hl.1 rfl (lv_room (Nat.le_of_ble_eq_true rfl)) dX4_strike_8 ⟨(Nat.le_of_ble_eq_true rfl), (Nat.le_of_ble_eq_true rfl)⟩) hW hsz htab hlk (fun E hE9 => by obtain ⟨h1, rfl⟩ := hE9; exact xOk.of (k := 2) (by unfold thK; first | (rw [if_pos (by omega)]; done) | (rw [if_neg (by omega)]; done) | (rw [if_neg (by omega), if_pos (by omega)]; done) | (rw [if_neg (by omega), if_neg (by omega)]; done) | (rw [if_neg (by omega), if_neg (by omega), if_neg (by omega)]; done)) (by decide) rfl) (Nat.le_of_ble_eq_true rfl) (Nat.le_of_ble_eq_true rfl) (fun M9 H locs hp_2 hW => ?_)
  obtain ⟨hd0, e92⟩ := hp_2
  rw [e92] at hW
  clear e92
  refine W.eq (g2 := F0 m 11 ls []) rfl ?_
  have hW : cW G N Γ (cs σ ρ) (mA M sz) s.heap _ _ := ⟨M, hW, hR⟩
  have b23 : σ 23 q ≤ 1060 := hV 23 q
  refine lv_aload_n hx hb dX4_strike_11 rfl (lv_at hl 0 rfl) ?_
  refine cr_get hx hb hts hinX4 hown hK hW (fun M hM => hM.o0) (by rfl) 3 (by decide) (hts (.fieldLink RX4 22 "SeaPost" "opensOn" "[I") (by decide +kernel)) (fun _ h => h) rfl dX4_strike_12 ?_
  refine lv_iload_n hx hb dX4_strike_15 rfl (lv_at hl 1 rfl) ?_
  refine lv_aload_n hx hb dX4_strike_16 rfl (lv_at hl 0 rfl) ?_
  refine cr_get hx hb hts hinX4 hown hK hW (fun M hM => hM.o0) (by rfl) 3 (by decide) (hts (.fieldLink RX4 22 "SeaPost" "opensOn" "[I") (by decide +kernel)) (fun _ h => h) rfl dX4_strike_17 ?_
  refine lv_iload_n hx hb dX4_strike_20 rfl (lv_at hl 1 rfl) ?_
  refine cr_iald (j := q) (x := (cs σ ρ) 23 (q)) hx hb hK hW (fun M hM => by obtain ⟨f, h1, h2⟩ := hM.o1; exact ⟨f, h1, h2 _ (by first | omega | assumption)⟩) (by first | omega | assumption) (by omega) dX4_strike_21 ?_
  refine lv_aload_n hx hb dX4_strike_22 rfl (lv_at hl 0 rfl) ?_
  refine cr_get hx hb hts hinX4 hown hK hW (fun M hM => hM.o0) (by rfl) 4 (by decide) (hts (.fieldLink RX4 84 "SeaPost" "day" "I") (by decide +kernel)) (fun _ h => h) rfl dX4_strike_23 ?_
  refine lv_iload_n hx hb dX4_strike_26 rfl (lv_at hl 2 rfl) ?_
  refine lv_iadd hx hb dX4_strike_27 (lv_tope (nI_add ((cs σ ρ) 24 0) d) ?_)
  have hop : (if σ 23 q < σ 24 0 + d then σ 24 0 + d else σ 23 q) = opS σ q d := rfl
  refine va_mmax hx hb (hml.trans hl.1.symm) hown (hts (.methodLink RX4 125 Lib.Math.max.name) (by decide +kernel)) (hts (.static Lib.Math.max.name) (by decide +kernel)) (hts (.initialized "java/lang/Math") (by decide +kernel)) (hts (.code Lib.Math.max.name Lib.Math.max.code 2 (some .int)) (by decide +kernel)) (Nat.le_of_ble_eq_true rfl) (Nat.le_of_ble_eq_true rfl) (Nat.le_of_ble_eq_true rfl) (Nat.le_of_ble_eq_true rfl) dX4_strike_28 (lv_tope (m_max (x := σ 23 q) (y := σ 24 0 + d) (by omega) (by omega)) ?_)
  refine cr_iast (j := q) (x := opS σ q d) (ς' := st (cs σ ρ) 23 q (opS σ q d)) hx hb hK hW (fun M hM => by obtain ⟨f, h1, h2⟩ := hM.o1; exact ⟨f, h1, hM.a1 (by omega) h2⟩) (by omega) (by omega) dX4_strike_31 (fun H locs hW => ?_)
  obtain ⟨σ_3, eσ_3⟩ : ∃ z : Sg, z = st (cs σ ρ) 23 q (opS σ q d) := ⟨_, rfl⟩
  rw [← eσ_3] at hW
  refine lv_aload_n hx hb dX4_strike_32 rfl (lv_at hl 0 rfl) ?_
  refine cr_get hx hb hts hinX4 hown hK hW (fun M hM => hM.o0) (by rfl) 3 (by decide) (hts (.fieldLink RX4 22 "SeaPost" "opensOn" "[I") (by decide +kernel)) (fun _ h => h) rfl dX4_strike_33 ?_
  refine lv_iload_n hx hb dX4_strike_36 rfl (lv_at hl 1 rfl) ?_
  refine cr_iald (j := q) (x := σ_3 23 (q)) hx hb hK hW (fun M hM => by obtain ⟨f, h1, h2⟩ := hM.o1; exact ⟨f, h1, h2 _ (by first | omega | assumption)⟩) (by first | omega | assumption) (by omega) dX4_strike_37 ?_
  refine lv_tope (congrArg nI (show σ_3 23 (q) = opS σ q d by rw [eσ_3, st_s])) ?_
  obtain ⟨M9x, hW, hR9⟩ := hW
  exact vx_ret (mr_iret hx hb hr hlk (Nat.le_of_ble_eq_true rfl) (Nat.le_of_ble_eq_true rfl) hW ⟨by unfold thK; rw [if_neg (by omega), if_pos (by omega)], rfl, Γ, ρ, rfl, by rw [show nxK σ q d = st σ 23 q (opS σ q d) from rfl, cs_st (by decide), ← eσ_3]; exact hR9, hH.strike (by omega)⟩ dX4_strike_38)
