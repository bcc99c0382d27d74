/-! THE LISTS of the library, over memories (mine; the rows are laid by wip/whole/gen) -/

set_option maxHeartbeats 200000 in
set_option maxRecDepth 100000 in
theorem jInit2 (l : Launch) (G : mG) (M : Mem) (sz : Nat) (b : Nat)  : cMv l yJxa1e45_init_da8c8 wsJxa1e45_init_da8c8 1 0 0 G M sz [.ref b] (fun M' => M' = M) := by
  refine m_start cJxa1e45_init_da8c8 1 none (by decide) rfl (Nat.le_of_ble_eq_true rfl) ?_
  intro p e s m below meth c ls hx hb hr hml hown hlk hnm hts hK hsz hE hW hl
  have hA := mA_A (M := M) hsz
  have hl : lv_has ls 1 [(0, .ref b)] := hl
  refine lv_aload_n hx hb dJxa1e45_init_da8c8_0 rfl (lv_at hl 0 rfl) ?_
  refine W.objInit hx hb hown (hts (.methodLink RJxa1e45 1 objectInit) (by decide +kernel)) (hts (.instanceMethod objectInit) (by decide +kernel)) (hts (.code objectInit ⟨#[0xb1]⟩ 1 none) (by decide +kernel)) rfl (by rw [hml]; exact hl.1) rfl dJxa1e45_init_da8c8_1 (Nat.le_of_ble_eq_true rfl) (Nat.le_of_ble_eq_true rfl) ?_
  refine W.eq (g2 := F0 m 4 ls []) rfl ?_
  exact mr_vret hx hb hr hlk (Nat.le_of_ble_eq_true rfl) (Nat.le_of_ble_eq_true rfl) hW rfl dJxa1e45_init_da8c8_4

set_option maxHeartbeats 200000 in
set_option maxRecDepth 100000 in
theorem jInit1 (l : Launch) (G : mG) (M : Mem) (sz : Nat) (b : Nat) (hb0 : M b = some (.inr (0, [.int (nI 0), .null, .int (nI 0)]))) : cMv l yJxc12de_init_da8c8 wsJxc12de_init_da8c8 2 0 0 G M sz [.ref b] (fun M' => M' = va_up M b (some (.inr (0, [.int (nI 0), .null, .int (nI 0)])))) := by
  refine m_start cJxc12de_init_da8c8 1 none (by decide) rfl (Nat.le_of_ble_eq_true rfl) ?_
  intro p e s m below meth c ls hx hb hr hml hown hlk hnm hts hK hsz hE hW hl
  have hA := mA_A (M := M) hsz
  have hl : lv_has ls 1 [(0, .ref b)] := hl
  have hinJx4a65c : ∀ w ∈ u_ws RJx4a65c TJx4a65c 3, w ∈ wsJxc12de_init_da8c8 := (fun _ h => List.mem_cons_of_mem _ (List.mem_append_right _ h))
  refine lv_aload_n hx hb dJxc12de_init_da8c8_0 rfl (lv_at hl 0 rfl) ?_
  refine mk_v (va_runI (As := []) (nL := 1) ⟨hx, hb, hml, hown, hts⟩ (jInit2 l G _ _ b) (cwI 0 hts gJxc12de_init_da8c8_Jxa1e45_init_da8c8 rfl rfl rfl (hts (.initialized RJxa1e45) (by decide +kernel)) (hts (.methodLink RJxc12de 1 yJxa1e45_init_da8c8) (by decide +kernel)) (hts (.instanceMethod yJxa1e45_init_da8c8) (by decide +kernel)) rfl (by decide +kernel) ⟨(Nat.le_of_ble_eq_true rfl), (Nat.le_of_ble_eq_true rfl)⟩) (mp_S hK hE hW hA) rfl rfl hl.1 rfl (lv_room (Nat.le_of_ble_eq_true rfl)) dJxc12de_init_da8c8_1 ⟨(Nat.le_of_ble_eq_true rfl), (Nat.le_of_ble_eq_true rfl)⟩) hW hA (fun M_2 H locs hp_1 hW => ?_)
  rw [hp_1] at hW
  clear hp_1
  refine lv_aload_n hx hb dJxc12de_init_da8c8_4 rfl (lv_at hl 0 rfl) ?_
  refine lv_iconst (v := nI 0) hx hb dJxc12de_init_da8c8_5 (by decide) ?_
  refine mr_put (ty := .int) (fs' := [.int (nI 0), .null, .int (nI 0)]) hx hb hts hinJx4a65c tyJx4a65c tyJx4a65c_ok nmJx4a65c hown hK hW hb0 (by rfl) 0 (by decide) (hts (.fieldLink RJxc12de 7 "java/util/AbstractList" "modCount" "I") (by decide +kernel)) (fun _ h => h) rfl (by decide +kernel) rfl rfl (Nat.le_of_ble_eq_true rfl) rfl dJxc12de_init_da8c8_6 (fun H locs hW => ?_)
  obtain ⟨M_4, eM_4⟩ : ∃ z : Mem, z = va_up M b (some (.inr (0, [.int (nI 0), .null, .int (nI 0)]))) := ⟨_, rfl⟩
  rw [← eM_4] at hW
  have hb_4 : M_4 b = some (.inr (0, [.int (nI 0), .null, .int (nI 0)])) := by rw [eM_4]; exact if_pos rfl
  exact mr_vret hx hb hr hlk (Nat.le_of_ble_eq_true rfl) (Nat.le_of_ble_eq_true rfl) hW eM_4 dJxc12de_init_da8c8_9

set_option maxHeartbeats 200000 in
set_option maxRecDepth 100000 in
theorem jInit (l : Launch) (G : mG) (M : Mem) (sz : Nat) (b : Nat) (hb0 : M b = some (.inr (0, [.int (nI 0), .null, .int (nI 0)]))) : cMv l yJx4a65c_init_da8c8 wsJx4a65c_init_da8c8 3 0 0 G M sz [.ref b] (fun M' => M' b = some (.inr (0, [.int (nI 0), .ref (G.2.2 0), .int (nI 0)])) ∧ ∀ q, q ≠ b → M' q = M q) := by
  refine m_start cJx4a65c_init_da8c8 1 none (by decide) rfl (Nat.le_of_ble_eq_true rfl) ?_
  intro p e s m below meth c ls hx hb hr hml hown hlk hnm hts hK hsz hE hW hl
  have hA := mA_A (M := M) hsz
  have hl : lv_has ls 1 [(0, .ref b)] := hl
  have hinJx4a65c : ∀ w ∈ u_ws RJx4a65c TJx4a65c 3, w ∈ wsJx4a65c_init_da8c8 := (fun _ h => List.mem_cons_of_mem _ (List.mem_append_right _ h))
  refine lv_aload_n hx hb dJx4a65c_init_da8c8_0 rfl (lv_at hl 0 rfl) ?_
  refine mk_v (va_runI (As := []) (nL := 1) ⟨hx, hb, hml, hown, hts⟩ (jInit1 l G _ _ b hb0) (cwI 0 hts gJx4a65c_init_da8c8_Jxc12de_init_da8c8 rfl rfl rfl (hts (.initialized RJxc12de) (by decide +kernel)) (hts (.methodLink RJx4a65c 1 yJxc12de_init_da8c8) (by decide +kernel)) (hts (.instanceMethod yJxc12de_init_da8c8) (by decide +kernel)) rfl (by decide +kernel) ⟨(Nat.le_of_ble_eq_true rfl), (Nat.le_of_ble_eq_true rfl)⟩) (mp_S hK hE hW hA) rfl rfl hl.1 rfl (lv_room (Nat.le_of_ble_eq_true rfl)) dJx4a65c_init_da8c8_1 ⟨(Nat.le_of_ble_eq_true rfl), (Nat.le_of_ble_eq_true rfl)⟩) hW hA (fun M_2 H locs hp_1 hW => ?_)
  obtain ⟨N1, eN1⟩ : ∃ z : Mem, z = M_2 := ⟨_, rfl⟩
  rw [← eN1] at hW
  rw [hp_1] at eN1
  clear hp_1
  have hb1 : N1 b = some (.inr (0, [.int (nI 0), .null, .int (nI 0)])) := by rw [eN1]; exact if_pos rfl
  refine lv_aload_n hx hb dJx4a65c_init_da8c8_4 rfl (lv_at hl 0 rfl) ?_
  refine va_gets hx hb hE.1.2.2.1 hW.2.1 hown (hts (.fieldLink RJx4a65c 39 "java/util/ArrayList" "DEFAULTCAPACITY_EMPTY_ELEMENTDATA" "[Ljava/lang/Object;") (by decide +kernel)) (fun _ h => h) dJx4a65c_init_da8c8_5 ?_
  refine mr_put (ty := .array (.object "java/lang/Object")) (fs' := [.int (nI 0), .ref (G.2.2 0), .int (nI 0)]) hx hb hts hinJx4a65c tyJx4a65c tyJx4a65c_ok nmJx4a65c hown hK hW hb1 (by rfl) 1 (by decide) (hts (.fieldLink RJx4a65c 9 "java/util/ArrayList" "elementData" "[Ljava/lang/Object;") (by decide +kernel)) (fun _ h => h) rfl (by decide +kernel) rfl rfl (Nat.le_of_ble_eq_true rfl) rfl dJx4a65c_init_da8c8_8 (fun H locs hW => ?_)
  obtain ⟨M_4, eM_4⟩ : ∃ z : Mem, z = va_up N1 b (some (.inr (0, [.int (nI 0), .ref (G.2.2 0), .int (nI 0)]))) := ⟨_, rfl⟩
  rw [← eM_4] at hW
  have hb_4 : M_4 b = some (.inr (0, [.int (nI 0), .ref (G.2.2 0), .int (nI 0)])) := by rw [eM_4]; exact if_pos rfl
  exact mr_vret hx hb hr hlk (Nat.le_of_ble_eq_true rfl) (Nat.le_of_ble_eq_true rfl) hW ⟨hb_4, fun q hq => by rw [eM_4, eN1]; exact (if_neg hq).trans (if_neg hq)⟩ dJx4a65c_init_da8c8_11

set_option maxHeartbeats 200000 in
set_option maxRecDepth 100000 in
theorem jSize (l : Launch) (G : mG) (M : Mem) (sz : Nat) (b a n : Nat) (mc : Int32) (hl0 : M b = some (.inr (0, [.int mc, .ref a, .int (nI n)]))) : cMi l yJx4a65c_size_8abf5 wsJx4a65c_size_8abf5 0 0 0 G M sz [.ref b] (fun r M' => r = nI n ∧ M' = M) := by
  refine m_start cJx4a65c_size_8abf5 1 (some .int) (by decide) rfl (Nat.le_of_ble_eq_true rfl) ?_
  intro p e s m below meth c ls hx hb hr hml hown hlk hnm hts hK hsz hE hW hl
  have hA := mA_A (M := M) hsz
  have hl : lv_has ls 1 [(0, .ref b)] := hl
  have hinJx4a65c : ∀ w ∈ u_ws RJx4a65c TJx4a65c 3, w ∈ wsJx4a65c_size_8abf5 := (fun _ h => List.mem_cons_of_mem _ (List.mem_append_right _ h))
  refine lv_aload_n hx hb dJx4a65c_size_8abf5_0 rfl (lv_at hl 0 rfl) ?_
  refine mr_get hx hb hts hinJx4a65c hown hK hW hl0 (by rfl) 2 (by decide) (hts (.fieldLink RJx4a65c 48 "java/util/ArrayList" "size" "I") (by decide +kernel)) (fun _ h => h) rfl dJx4a65c_size_8abf5_1 ?_
  exact mr_iret hx hb hr hlk (Nat.le_of_ble_eq_true rfl) (Nat.le_of_ble_eq_true rfl) hW ⟨rfl, rfl⟩ dJx4a65c_size_8abf5_4

set_option maxHeartbeats 200000 in
set_option maxRecDepth 100000 in
theorem jElem (l : Launch) (G : mG) (M : Mem) (sz : Nat) (b a n j cap v : Nat) (mc : Int32) (f : Nat → Option Nat) (hl0 : M b = some (.inr (0, [.int mc, .ref a, .int (nI n)]))) (ha0 : M a = some (eQ (G.2.1 2) cap f)) (hcap : cap < 2147483648) (hj : j < cap) (hv : f j = some v) : cMq l yJx4a65c_elementData_915e3 wsJx4a65c_elementData_915e3 0 0 0 G M sz [.ref b, .int (nI j)] (fun r M' => r = some v ∧ M' = M) := by
  refine m_start cJx4a65c_elementData_915e3 2 (some (.object "java/lang/Object")) (by decide) rfl (Nat.le_of_ble_eq_true rfl) ?_
  intro p e s m below meth c ls hx hb hr hml hown hlk hnm hts hK hsz hE hW hl
  have hA := mA_A (M := M) hsz
  have hl : lv_has ls 2 [(0, .ref b), (1, .int (nI j))] := hl
  have hinJx4a65c : ∀ w ∈ u_ws RJx4a65c TJx4a65c 3, w ∈ wsJx4a65c_elementData_915e3 := (fun _ h => List.mem_cons_of_mem _ (List.mem_append_right _ h))
  refine lv_aload_n hx hb dJx4a65c_elementData_915e3_0 rfl (lv_at hl 0 rfl) ?_
  refine mr_get hx hb hts hinJx4a65c hown hK hW hl0 (by rfl) 1 (by decide) (hts (.fieldLink RJx4a65c 9 "java/util/ArrayList" "elementData" "[Ljava/lang/Object;") (by decide +kernel)) (fun _ h => h) rfl dJx4a65c_elementData_915e3_1 ?_
  refine lv_iload_n hx hb dJx4a65c_elementData_915e3_4 rfl (lv_at hl 1 rfl) ?_
  refine mr_aald hx hb hK hW 2 ha0 (by rfl) rfl hj (by omega) dJx4a65c_elementData_915e3_5 ?_
  rw [hv]
  exact mr_aret (v := some v) hx hb hr (Or.inl ⟨_, rfl⟩) hlk (Nat.le_of_ble_eq_true rfl) (Nat.le_of_ble_eq_true rfl) hW ⟨rfl, rfl⟩ dJx4a65c_elementData_915e3_6

set_option maxHeartbeats 200000 in
set_option maxRecDepth 100000 in
theorem jChk3 (l : Launch) (G : mG) (M : Mem) (sz : Nat) (i n : Nat) (hi : i < n) (hn : n < 2147483648) : cMi l yJ3_checkIndex_8e157 wsJ3_checkIndex_8e157 0 0 0 G M sz [.int (nI i), .int (nI n), .null] (fun r M' => r = nI i ∧ M' = M) := by
  refine m_start cJ3_checkIndex_8e157 3 (some .int) (by decide) rfl (Nat.le_of_ble_eq_true rfl) ?_
  intro p e s m below meth c ls hx hb hr hml hown hlk hnm hts hK hsz hE hW hl
  have hA := mA_A (M := M) hsz
  have hl : lv_has ls 3 [(0, .int (nI i)), (1, .int (nI n)), (2, .null)] := hl
  refine lv_iload_n hx hb dJ3_checkIndex_8e157_0 rfl (lv_at hl 0 rfl) ?_
  refine nv_if_lt (tgt := 9) hx hb dJ3_checkIndex_8e157_1 (by decide) (by omega) (fun z => (by omega : False).elim) (fun _ => ?_)
  refine lv_iload_n hx hb dJ3_checkIndex_8e157_4 rfl (lv_at hl 0 rfl) ?_
  refine lv_iload_n hx hb dJ3_checkIndex_8e157_5 rfl (lv_at hl 1 rfl) ?_
  refine nv_icmp_lt (u := i) (v := n) (tgt := 16) hx hb dJ3_checkIndex_8e157_6 (by decide) (by omega) (by omega) (fun _ => ?_) (fun z => (by omega : False).elim)
  refine lv_iload_n hx hb dJ3_checkIndex_8e157_16 rfl (lv_at hl 0 rfl) ?_
  exact mr_iret hx hb hr hlk (Nat.le_of_ble_eq_true rfl) (Nat.le_of_ble_eq_true rfl) hW ⟨rfl, rfl⟩ dJ3_checkIndex_8e157_17

set_option maxHeartbeats 200000 in
set_option maxRecDepth 100000 in
theorem jChk2 (l : Launch) (G : mG) (M : Mem) (sz : Nat) (i n : Nat) (hi : i < n) (hn : n < 2147483648) : cMi l yJ15_checkIndex_7cf53 wsJ15_checkIndex_7cf53 1 0 0 G M sz [.int (nI i), .int (nI n)] (fun r M' => r = nI i ∧ M' = M) := by
  refine m_start cJ15_checkIndex_7cf53 2 (some .int) (by decide) rfl (Nat.le_of_ble_eq_true rfl) ?_
  intro p e s m below meth c ls hx hb hr hml hown hlk hnm hts hK hsz hE hW hl
  have hA := mA_A (M := M) hsz
  have hl : lv_has ls 2 [(0, .int (nI i)), (1, .int (nI n))] := hl
  refine lv_iload_n hx hb dJ15_checkIndex_7cf53_0 rfl (lv_at hl 0 rfl) ?_
  refine lv_iload_n hx hb dJ15_checkIndex_7cf53_1 rfl (lv_at hl 1 rfl) ?_
  refine lv_null hx hb dJ15_checkIndex_7cf53_2 ?_
  refine mk_i (va_runS (As := [.int (nI i), .int (nI n), .null]) (nL := 2) ⟨hx, hb, hml, hown, hts⟩ (jChk3 l G _ _ i n hi hn) (va_cwS 3 hts gJ15_checkIndex_7cf53_J3_checkIndex_8e157 rfl rfl rfl (by decide +kernel) ⟨(Nat.le_of_ble_eq_true rfl), (Nat.le_of_ble_eq_true rfl)⟩) (mp_S hK hE hW hA) rfl rfl hl.1 rfl (lv_room (Nat.le_of_ble_eq_true rfl)) dJ15_checkIndex_7cf53_3 ⟨(Nat.le_of_ble_eq_true rfl), (Nat.le_of_ble_eq_true rfl)⟩) hW hA (fun r_3 M_2 H locs hp_1 hW => ?_)
  obtain ⟨e91, e92⟩ := hp_1
  subst e91
  rw [e92] at hW
  clear e92
  exact mr_iret hx hb hr hlk (Nat.le_of_ble_eq_true rfl) (Nat.le_of_ble_eq_true rfl) hW ⟨rfl, rfl⟩ dJ15_checkIndex_7cf53_6

set_option maxHeartbeats 200000 in
set_option maxRecDepth 100000 in
theorem jGet (l : Launch) (G : mG) (M : Mem) (sz : Nat) (b a n j cap v : Nat) (mc : Int32) (f : Nat → Option Nat) (hl0 : M b = some (.inr (0, [.int mc, .ref a, .int (nI n)]))) (ha0 : M a = some (eQ (G.2.1 2) cap f)) (hcap : cap < 2147483648) (hj : j < n) (hn : n ≤ cap) (hv : f j = some v) : cMq l yJx4a65c_get_915e3 wsJx4a65c_get_915e3 2 0 0 G M sz [.ref b, .int (nI j)] (fun r M' => r = some v ∧ M' = M) := by
  refine m_start cJx4a65c_get_915e3 2 (some (.object "java/lang/Object")) (by decide) rfl (Nat.le_of_ble_eq_true rfl) ?_
  intro p e s m below meth c ls hx hb hr hml hown hlk hnm hts hK hsz hE hW hl
  have hA := mA_A (M := M) hsz
  have hl : lv_has ls 2 [(0, .ref b), (1, .int (nI j))] := hl
  have hinJx4a65c : ∀ w ∈ u_ws RJx4a65c TJx4a65c 3, w ∈ wsJx4a65c_get_915e3 := (fun _ h => List.mem_cons_of_mem _ (List.mem_append_right _ h))
  refine lv_iload_n hx hb dJx4a65c_get_915e3_0 rfl (lv_at hl 1 rfl) ?_
  refine lv_aload_n hx hb dJx4a65c_get_915e3_1 rfl (lv_at hl 0 rfl) ?_
  refine mr_get hx hb hts hinJx4a65c hown hK hW hl0 (by rfl) 2 (by decide) (hts (.fieldLink RJx4a65c 48 "java/util/ArrayList" "size" "I") (by decide +kernel)) (fun _ h => h) rfl dJx4a65c_get_915e3_2 ?_
  refine mk_i (va_runS (As := [.int (nI j), .int (nI n)]) (nL := 2) ⟨hx, hb, hml, hown, hts⟩ (jChk2 l G _ _ j n hj (by omega)) (va_cwS 2 hts gJx4a65c_get_915e3_J15_checkIndex_7cf53 rfl rfl rfl (by decide +kernel) ⟨(Nat.le_of_ble_eq_true rfl), (Nat.le_of_ble_eq_true rfl)⟩) (mp_S hK hE hW hA) rfl rfl hl.1 rfl (lv_room (Nat.le_of_ble_eq_true rfl)) dJx4a65c_get_915e3_5 ⟨(Nat.le_of_ble_eq_true rfl), (Nat.le_of_ble_eq_true rfl)⟩) hW hA (fun r_3 M_2 H locs hp_1 hW => ?_)
  obtain ⟨e91, e92⟩ := hp_1
  subst e91
  rw [e92] at hW
  clear e92
  refine lv_pop hx hb dJx4a65c_get_915e3_8 rfl ?_
  refine lv_aload_n hx hb dJx4a65c_get_915e3_9 rfl (lv_at hl 0 rfl) ?_
  refine lv_iload_n hx hb dJx4a65c_get_915e3_10 rfl (lv_at hl 1 rfl) ?_
  refine mk_q (va_runV (As := [.int (nI j)]) (nL := 2) ⟨hx, hb, hml, hown, hts⟩ (jElem l G _ _ b a n j cap v mc f hl0 ha0 hcap (by omega) hv) (cwV 1 hts gJx4a65c_get_915e3_Jx4a65c_elementData_915e3 rfl rfl rfl (by decide +kernel) ⟨(Nat.le_of_ble_eq_true rfl), (Nat.le_of_ble_eq_true rfl)⟩) (mp_V hK hE hW hA (mW_recv hK hW.1 hl0 (by rfl))) rfl rfl hl.1 rfl (lv_room (Nat.le_of_ble_eq_true rfl)) dJx4a65c_get_915e3_11 ⟨(Nat.le_of_ble_eq_true rfl), (Nat.le_of_ble_eq_true rfl)⟩) hW hA (fun r_6 M_5 H locs hp_4 hW => ?_)
  obtain ⟨e91, e92⟩ := hp_4
  subst e91
  rw [e92] at hW
  clear e92
  exact mr_aret (v := some v) hx hb hr (Or.inl ⟨_, rfl⟩) hlk (Nat.le_of_ble_eq_true rfl) (Nat.le_of_ble_eq_true rfl) hW ⟨rfl, rfl⟩ dJx4a65c_get_915e3_14
