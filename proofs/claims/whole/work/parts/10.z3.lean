/-! THE LISTS of the library: add, clear (mine; the rows are laid by wip/whole/gen) -/
theorem mem_self {M : Mem} {a : Nat} {e : va_E} (h : M a = some e) : va_up M a (some e) = M := by
  funext x
  by_cases z : x = a
  · subst z; exact (if_pos rfl).trans h.symm
  · exact if_neg z
/-- the row of a list of n: the empty one, or one with room -/
def jD (G : mG) (M : Mem) (a n : Nat) (f : Nat → Option Nat) : Prop := (a = G.2.2 0 ∧ n = 0) ∨ ∃ cap : Nat, M a = some (eQ (G.2.1 2) cap f) ∧ n ≤ cap ∧ 0 < cap ∧ cap ≤ 64
theorem jAdd3 (l : Launch) (G : mG) (M : Mem) (sz : Nat) (b a n v : Nat) (mc : Int32) (f : Nat → Option Nat) (hl0 : M b = some (.inr (0, [.int mc, .ref a, .int (nI n)]))) (hd : jD G M a n f) (h40 : n ≤ 40) (ho : ∀ i, i < n → ∀ y, f i = some y → Obj M y) (hv : Obj M v) : cMv l yJx4a65c_add_72be8 wsJx4a65c_add_72be8 5 1 64 G M sz [.ref b, .ref v, .ref a, .int (nI n)] (fun M' => jPA G M b a n v f mc M') := by
  rcases hd with ⟨e1, e2⟩ | ⟨cap, h1, h2, h3, h4⟩
  · subst e1
    exact jAdd3E l G M sz b n v mc f hl0 e2 hv
  · by_cases hc : n = cap
    · exact jAdd3Q l G M sz b a n cap v mc f hl0 h1 hc h3 (by omega) (by rw [← hc]; exact ho) hv
    · exact jAdd3N l G M sz b a n cap v mc f hl0 h1 (by omega) h4 hv
theorem jD.put {G : mG} {M : Mem} {a b n : Nat} {f : Nat → Option Nat} {o o' : Nat × List Value} (h : jD G M a n f) (hb : M b = some (.inr o)) : jD G (va_up M b (some (.inr o'))) a n f := by
  rcases h with h | ⟨cap, h1, h2⟩
  · exact Or.inl h
  · exact Or.inr ⟨cap, (if_neg (fun z => by rw [z, hb] at h1; cases h1)).trans h1, h2⟩
theorem jPA.of {G : mG} {M M' : Mem} {b a n v : Nat} {f : Nat → Option Nat} {mc : Int32} {e : va_E} (h : jPA G (va_up M b (some e)) b a n v f mc M') : jPA G M b a n v f mc M' := by
  obtain ⟨a', cap', g, h1, h2, h3, h4, h5, h6, h7, h8⟩ := h
  refine ⟨a', cap', g, h1, h2, h3, h4, h5, h6, ?_, fun x hx hx' => (h8 x hx hx').trans (if_neg hx)⟩
  rcases h7 with h7 | h7
  · exact Or.inl h7
  · right
    have hab : a' ≠ b := fun z => by
      rw [show va_up M b (some e) a' = some e from if_pos z] at h7
      cases h7
    exact ((if_neg hab).symm.trans h7 : M a' = none)

set_option maxHeartbeats 200000 in
set_option maxRecDepth 100000 in
theorem jAdd (l : Launch) (G : mG) (M : Mem) (sz : Nat) (b a n v : Nat) (mc : Int32) (f : Nat → Option Nat) (hl0 : M b = some (.inr (0, [.int mc, .ref a, .int (nI n)]))) (hd : jD G M a n f) (h40 : n ≤ 40) (ho : ∀ i, i < n → ∀ y, f i = some y → Obj M y) (hv : Obj M v) : cMi l yJx4a65c_add_9ea2d wsJx4a65c_add_9ea2d 6 1 64 G M sz [.ref b, .ref v] (fun r M' => r = nI 1 ∧ jPA G M b a n v f (mc + nI 1) M') := by
  refine m_start cJx4a65c_add_9ea2d 2 (some .boolean) (by decide) rfl (Nat.le_of_ble_eq_true rfl) ?_
  intro p e s m below meth c ls hx hb hr hml hown hlk hnm hts hK hsz hE hW hl
  have hA := mA_A (M := M) hsz
  have hl : lv_has ls 2 [(0, .ref b), (1, .ref v)] := hl
  have hinJx4a65c : ∀ w ∈ u_ws RJx4a65c TJx4a65c 3, w ∈ wsJx4a65c_add_9ea2d := (fun _ h => List.mem_cons_of_mem _ (List.mem_append_right _ h))
  refine lv_aload_n hx hb dJx4a65c_add_9ea2d_0 rfl (lv_at hl 0 rfl) ?_
  refine lv_dup hx hb dJx4a65c_add_9ea2d_1 rfl ?_
  refine mr_get hx hb hts hinJx4a65c hown hK hW hl0 (by rfl) 0 (by decide) (hts (.fieldLink RJx4a65c 63 "java/util/ArrayList" "modCount" "I") (by decide +kernel)) (u_same (hts (.sameField "java/util/ArrayList" "java/util/AbstractList" "modCount" "I") (by decide +kernel))) rfl dJx4a65c_add_9ea2d_2 ?_
  refine lv_iconst (v := nI 1) hx hb dJx4a65c_add_9ea2d_5 (by decide) ?_
  refine lv_iadd hx hb dJx4a65c_add_9ea2d_6 ?_
  refine mr_put (ty := .int) (fs' := [.int ((mc + nI 1)), .ref a, .int (nI n)]) hx hb hts hinJx4a65c tyJx4a65c tyJx4a65c_ok nmJx4a65c hown hK hW hl0 (by rfl) 0 (by decide) (hts (.fieldLink RJx4a65c 63 "java/util/ArrayList" "modCount" "I") (by decide +kernel)) (u_same (hts (.sameField "java/util/ArrayList" "java/util/AbstractList" "modCount" "I") (by decide +kernel))) rfl (by decide +kernel) rfl rfl (Nat.le_of_ble_eq_true rfl) rfl dJx4a65c_add_9ea2d_7 (fun H locs hW => ?_)
  obtain ⟨M_1, eM_1⟩ : ∃ z : Mem, z = va_up M b (some (.inr (0, [.int ((mc + nI 1)), .ref a, .int (nI n)]))) := ⟨_, rfl⟩
  rw [← eM_1] at hW
  have hb_1 : M_1 b = some (.inr (0, [.int ((mc + nI 1)), .ref a, .int (nI n)])) := by rw [eM_1]; exact if_pos rfl
  refine lv_aload_n hx hb dJx4a65c_add_9ea2d_10 rfl (lv_at hl 0 rfl) ?_
  refine lv_aload_n hx hb dJx4a65c_add_9ea2d_11 rfl (lv_at hl 1 rfl) ?_
  refine lv_aload_n hx hb dJx4a65c_add_9ea2d_12 rfl (lv_at hl 0 rfl) ?_
  refine mr_get hx hb hts hinJx4a65c hown hK hW hb_1 (by rfl) 1 (by decide) (hts (.fieldLink RJx4a65c 9 "java/util/ArrayList" "elementData" "[Ljava/lang/Object;") (by decide +kernel)) (fun _ h => h) rfl dJx4a65c_add_9ea2d_13 ?_
  refine lv_aload_n hx hb dJx4a65c_add_9ea2d_16 rfl (lv_at hl 0 rfl) ?_
  refine mr_get hx hb hts hinJx4a65c hown hK hW hb_1 (by rfl) 2 (by decide) (hts (.fieldLink RJx4a65c 48 "java/util/ArrayList" "size" "I") (by decide +kernel)) (fun _ h => h) rfl dJx4a65c_add_9ea2d_17 ?_
  have hd := hd.put (o' := (0, [.int (mc + nI 1), .ref a, .int (nI n)])) hl0
  have hv := hv.put (fs' := [.int (mc + nI 1), .ref a, .int (nI n)]) hl0
  have ho := fun i hi y hy => (ho i hi y hy).put (fs' := [.int (mc + nI 1), .ref a, .int (nI n)]) hl0
  rw [← eM_1] at hd hv
  simp only [← eM_1] at ho
  refine mk_v (va_runV (As := [.ref v, .ref a, .int (nI n)]) (nL := 2) ⟨hx, hb, hml, hown, hts⟩ (jAdd3 l G _ _ b a n v (mc + nI 1) f hb_1 hd h40 ho hv) (cwV 3 hts gJx4a65c_add_9ea2d_Jx4a65c_add_72be8 rfl rfl rfl (by decide +kernel) ⟨(Nat.le_of_ble_eq_true rfl), (Nat.le_of_ble_eq_true rfl)⟩) (mp_V hK hE hW hA (mW_recv hK hW.1 hb_1 (by rfl))) rfl rfl hl.1 rfl (lv_room (Nat.le_of_ble_eq_true rfl)) dJx4a65c_add_9ea2d_20 ⟨(Nat.le_of_ble_eq_true rfl), (Nat.le_of_ble_eq_true rfl)⟩) hW hA (fun M_3 H locs hp_2 hW => ?_)
  rw [eM_1] at hp_2
  refine lv_iconst (v := nI 1) hx hb dJx4a65c_add_9ea2d_23 (by decide) ?_
  exact mr_zret (v := nI 1) hx hb hr hlk (by first | rfl | exact mc_nb | (exact mc_nc (by omega))) (Nat.le_of_ble_eq_true rfl) (Nat.le_of_ble_eq_true rfl) hW ⟨rfl, hp_2.of⟩ dJx4a65c_add_9ea2d_24

set_option maxHeartbeats 200000 in
set_option maxRecDepth 100000 in
theorem jClearE (l : Launch) (G : mG) (M : Mem) (sz : Nat) (b a n : Nat) (mc : Int32) (hl0 : M b = some (.inr (0, [.int mc, .ref a, .int (nI n)]))) (hn : n = 0) : cMv l yJx4a65c_clear_da8c8 wsJx4a65c_clear_da8c8 0 0 0 G M sz [.ref b] (fun M' => M' b = some (.inr (0, [.int (mc + nI 1), .ref a, .int (nI 0)])) ∧ ∀ x, x ≠ b → M' x = M x) := by
  refine m_start cJx4a65c_clear_da8c8 4 none (by decide) rfl (Nat.le_of_ble_eq_true rfl) ?_
  intro p e s m below meth c ls hx hb hr hml hown hlk hnm hts hK hsz hE hW hl
  have hA := mA_A (M := M) hsz
  have hl : lv_has ls 4 [(0, .ref b)] := hl
  have hinJx4a65c : ∀ w ∈ u_ws RJx4a65c TJx4a65c 3, w ∈ wsJx4a65c_clear_da8c8 := (fun _ h => List.mem_cons_of_mem _ (List.mem_append_right _ h))
  refine lv_aload_n hx hb dJx4a65c_clear_da8c8_0 rfl (lv_at hl 0 rfl) ?_
  refine lv_dup hx hb dJx4a65c_clear_da8c8_1 rfl ?_
  refine mr_get hx hb hts hinJx4a65c hown hK hW hl0 (by rfl) 0 (by decide) (hts (.fieldLink RJx4a65c 63 "java/util/ArrayList" "modCount" "I") (by decide +kernel)) (u_same (hts (.sameField "java/util/ArrayList" "java/util/AbstractList" "modCount" "I") (by decide +kernel))) rfl dJx4a65c_clear_da8c8_2 ?_
  refine lv_iconst (v := nI 1) hx hb dJx4a65c_clear_da8c8_5 (by decide) ?_
  refine lv_iadd hx hb dJx4a65c_clear_da8c8_6 ?_
  refine mr_put (ty := .int) (fs' := [.int ((mc + nI 1)), .ref a, .int (nI n)]) hx hb hts hinJx4a65c tyJx4a65c tyJx4a65c_ok nmJx4a65c hown hK hW hl0 (by rfl) 0 (by decide) (hts (.fieldLink RJx4a65c 63 "java/util/ArrayList" "modCount" "I") (by decide +kernel)) (u_same (hts (.sameField "java/util/ArrayList" "java/util/AbstractList" "modCount" "I") (by decide +kernel))) rfl (by decide +kernel) rfl rfl (Nat.le_of_ble_eq_true rfl) rfl dJx4a65c_clear_da8c8_7 (fun H locs hW => ?_)
  obtain ⟨M_1, eM_1⟩ : ∃ z : Mem, z = va_up M b (some (.inr (0, [.int ((mc + nI 1)), .ref a, .int (nI n)]))) := ⟨_, rfl⟩
  rw [← eM_1] at hW
  have hb_1 : M_1 b = some (.inr (0, [.int ((mc + nI 1)), .ref a, .int (nI n)])) := by rw [eM_1]; exact if_pos rfl
  refine lv_aload_n hx hb dJx4a65c_clear_da8c8_10 rfl (lv_at hl 0 rfl) ?_
  refine mr_get hx hb hts hinJx4a65c hown hK hW hb_1 (by rfl) 1 (by decide) (hts (.fieldLink RJx4a65c 9 "java/util/ArrayList" "elementData" "[Ljava/lang/Object;") (by decide +kernel)) (fun _ h => h) rfl dJx4a65c_clear_da8c8_11 ?_
  refine lv_astore_n (lv' := [(1, .ref a), (0, .ref b)]) hx hb dJx4a65c_clear_da8c8_14 rfl hl (by decide) rfl (fun ls hl => ?_)
  refine lv_aload_n hx hb dJx4a65c_clear_da8c8_15 rfl (lv_at hl 1 rfl) ?_
  refine mr_get hx hb hts hinJx4a65c hown hK hW hb_1 (by rfl) 2 (by decide) (hts (.fieldLink RJx4a65c 48 "java/util/ArrayList" "size" "I") (by decide +kernel)) (fun _ h => h) rfl dJx4a65c_clear_da8c8_16 ?_
  refine lv_istore_n (lv' := [(2, .int (nI n)), (1, .ref a), (0, .ref b)]) hx hb dJx4a65c_clear_da8c8_19 rfl hl (by decide) rfl (fun ls hl => ?_)
  refine lv_aload_n hx hb dJx4a65c_clear_da8c8_20 rfl (lv_at hl 2 rfl) ?_
  refine lv_iconst (v := nI 0) hx hb dJx4a65c_clear_da8c8_21 (by decide) ?_
  refine lv_dup_x1 hx hb dJx4a65c_clear_da8c8_22 rfl rfl ?_
  refine mr_put (ty := .int) (fs' := [.int ((mc + nI 1)), .ref a, .int (nI 0)]) hx hb hts hinJx4a65c tyJx4a65c tyJx4a65c_ok nmJx4a65c hown hK hW hb_1 (by rfl) 2 (by decide) (hts (.fieldLink RJx4a65c 48 "java/util/ArrayList" "size" "I") (by decide +kernel)) (fun _ h => h) rfl (by decide +kernel) rfl rfl (Nat.le_of_ble_eq_true rfl) rfl dJx4a65c_clear_da8c8_23 (fun H locs hW => ?_)
  obtain ⟨M_2, eM_2⟩ : ∃ z : Mem, z = va_up M_1 b (some (.inr (0, [.int ((mc + nI 1)), .ref a, .int (nI 0)]))) := ⟨_, rfl⟩
  rw [← eM_2] at hW
  have hb_2 : M_2 b = some (.inr (0, [.int ((mc + nI 1)), .ref a, .int (nI 0)])) := by rw [eM_2]; exact if_pos rfl
  refine lv_istore_n (lv' := [(3, .int (nI 0)), (2, .int (nI n)), (1, .ref a), (0, .ref b)]) hx hb dJx4a65c_clear_da8c8_26 rfl hl (by decide) rfl (fun ls hl => ?_)
  refine lv_iload_n hx hb dJx4a65c_clear_da8c8_27 rfl (lv_at hl 0 rfl) ?_
  refine lv_iload_n hx hb dJx4a65c_clear_da8c8_28 rfl (lv_at hl 1 rfl) ?_
  refine nv_icmp_ge (u := 0) (v := n) (tgt := 42) hx hb dJx4a65c_clear_da8c8_29 (by decide) (by omega) (by omega) (fun _ => ?_) (fun z => (by omega : False).elim)
  exact mr_vret hx hb hr hlk (Nat.le_of_ble_eq_true rfl) (Nat.le_of_ble_eq_true rfl) hW ⟨hb_2, fun x hx => by rw [eM_2, eM_1]; exact (if_neg hx).trans (if_neg hx)⟩ dJx4a65c_clear_da8c8_42

set_option maxHeartbeats 200000 in
set_option maxRecDepth 100000 in
theorem jClearQ (l : Launch) (G : mG) (M : Mem) (sz : Nat) (b a n cap : Nat) (mc : Int32) (f : Nat → Option Nat) (hl0 : M b = some (.inr (0, [.int mc, .ref a, .int (nI n)]))) (ha0 : M a = some (eQ (G.2.1 2) cap f)) (hn : n ≤ cap) (hc : cap ≤ 64) : cMv l yJx4a65c_clear_da8c8 wsJx4a65c_clear_da8c8 0 0 0 G M sz [.ref b] (fun M' => M' b = some (.inr (0, [.int (mc + nI 1), .ref a, .int (nI 0)])) ∧ (∃ g, M' a = some (eQ (G.2.1 2) cap g)) ∧ ∀ x, x ≠ b → x ≠ a → M' x = M x) := by
  refine m_start cJx4a65c_clear_da8c8 4 none (by decide) rfl (Nat.le_of_ble_eq_true rfl) ?_
  intro p e s m below meth c ls hx hb hr hml hown hlk hnm hts hK hsz hE hW hl
  have hA := mA_A (M := M) hsz
  have hl : lv_has ls 4 [(0, .ref b)] := hl
  have hinJx4a65c : ∀ w ∈ u_ws RJx4a65c TJx4a65c 3, w ∈ wsJx4a65c_clear_da8c8 := (fun _ h => List.mem_cons_of_mem _ (List.mem_append_right _ h))
  refine lv_aload_n hx hb dJx4a65c_clear_da8c8_0 rfl (lv_at hl 0 rfl) ?_
  refine lv_dup hx hb dJx4a65c_clear_da8c8_1 rfl ?_
  refine mr_get hx hb hts hinJx4a65c hown hK hW hl0 (by rfl) 0 (by decide) (hts (.fieldLink RJx4a65c 63 "java/util/ArrayList" "modCount" "I") (by decide +kernel)) (u_same (hts (.sameField "java/util/ArrayList" "java/util/AbstractList" "modCount" "I") (by decide +kernel))) rfl dJx4a65c_clear_da8c8_2 ?_
  refine lv_iconst (v := nI 1) hx hb dJx4a65c_clear_da8c8_5 (by decide) ?_
  refine lv_iadd hx hb dJx4a65c_clear_da8c8_6 ?_
  refine mr_put (ty := .int) (fs' := [.int ((mc + nI 1)), .ref a, .int (nI n)]) hx hb hts hinJx4a65c tyJx4a65c tyJx4a65c_ok nmJx4a65c hown hK hW hl0 (by rfl) 0 (by decide) (hts (.fieldLink RJx4a65c 63 "java/util/ArrayList" "modCount" "I") (by decide +kernel)) (u_same (hts (.sameField "java/util/ArrayList" "java/util/AbstractList" "modCount" "I") (by decide +kernel))) rfl (by decide +kernel) rfl rfl (Nat.le_of_ble_eq_true rfl) rfl dJx4a65c_clear_da8c8_7 (fun H locs hW => ?_)
  obtain ⟨M_1, eM_1⟩ : ∃ z : Mem, z = va_up M b (some (.inr (0, [.int ((mc + nI 1)), .ref a, .int (nI n)]))) := ⟨_, rfl⟩
  rw [← eM_1] at hW
  have hb_1 : M_1 b = some (.inr (0, [.int ((mc + nI 1)), .ref a, .int (nI n)])) := by rw [eM_1]; exact if_pos rfl
  have ha_1 : M_1 a = some (eQ (G.2.1 2) cap f) := by rw [eM_1]; exact (if_neg (fun z => by have h1 := ha0; rw [z, hl0] at h1; cases h1)).trans ha0
  refine lv_aload_n hx hb dJx4a65c_clear_da8c8_10 rfl (lv_at hl 0 rfl) ?_
  refine mr_get hx hb hts hinJx4a65c hown hK hW hb_1 (by rfl) 1 (by decide) (hts (.fieldLink RJx4a65c 9 "java/util/ArrayList" "elementData" "[Ljava/lang/Object;") (by decide +kernel)) (fun _ h => h) rfl dJx4a65c_clear_da8c8_11 ?_
  refine lv_astore_n (lv' := [(1, .ref a), (0, .ref b)]) hx hb dJx4a65c_clear_da8c8_14 rfl hl (by decide) rfl (fun ls hl => ?_)
  refine lv_aload_n hx hb dJx4a65c_clear_da8c8_15 rfl (lv_at hl 1 rfl) ?_
  refine mr_get hx hb hts hinJx4a65c hown hK hW hb_1 (by rfl) 2 (by decide) (hts (.fieldLink RJx4a65c 48 "java/util/ArrayList" "size" "I") (by decide +kernel)) (fun _ h => h) rfl dJx4a65c_clear_da8c8_16 ?_
  refine lv_istore_n (lv' := [(2, .int (nI n)), (1, .ref a), (0, .ref b)]) hx hb dJx4a65c_clear_da8c8_19 rfl hl (by decide) rfl (fun ls hl => ?_)
  refine lv_aload_n hx hb dJx4a65c_clear_da8c8_20 rfl (lv_at hl 2 rfl) ?_
  refine lv_iconst (v := nI 0) hx hb dJx4a65c_clear_da8c8_21 (by decide) ?_
  refine lv_dup_x1 hx hb dJx4a65c_clear_da8c8_22 rfl rfl ?_
  refine mr_put (ty := .int) (fs' := [.int ((mc + nI 1)), .ref a, .int (nI 0)]) hx hb hts hinJx4a65c tyJx4a65c tyJx4a65c_ok nmJx4a65c hown hK hW hb_1 (by rfl) 2 (by decide) (hts (.fieldLink RJx4a65c 48 "java/util/ArrayList" "size" "I") (by decide +kernel)) (fun _ h => h) rfl (by decide +kernel) rfl rfl (Nat.le_of_ble_eq_true rfl) rfl dJx4a65c_clear_da8c8_23 (fun H locs hW => ?_)
  obtain ⟨M_2, eM_2⟩ : ∃ z : Mem, z = va_up M_1 b (some (.inr (0, [.int ((mc + nI 1)), .ref a, .int (nI 0)]))) := ⟨_, rfl⟩
  rw [← eM_2] at hW
  have hb_2 : M_2 b = some (.inr (0, [.int ((mc + nI 1)), .ref a, .int (nI 0)])) := by rw [eM_2]; exact if_pos rfl
  have ha_2 : M_2 a = some (eQ (G.2.1 2) cap f) := by rw [eM_2]; exact (if_neg (fun z => by have h1 := ha_1; rw [z, hb_1] at h1; cases h1)).trans ha_1
  refine lv_istore_n (lv' := [(3, .int (nI 0)), (2, .int (nI n)), (1, .ref a), (0, .ref b)]) hx hb dJx4a65c_clear_da8c8_26 rfl hl (by decide) rfl (fun ls hl => ?_)
  refine m_loop n (fun k H locs ls => (∃ g, mW G.1 vwCl (mA M sz) s.heap (va_up M_2 a (some (eQ (G.2.1 2) cap g))) H locs) ∧ lv_has ls 4 [(3, .int (nI k)), (0, .ref b), (1, .ref a), (2, .int (nI n))]) 0 (by omega) ⟨⟨f, by rw [mem_self ha_2]; exact hW⟩, lv_sub hl [0, 3, 2, 1] rfl⟩ (fun k H locs ls hk hI ih => ?_)
  obtain ⟨⟨g, hW⟩, hl⟩ := hI
  obtain ⟨M_3, eM_3⟩ : ∃ z : Mem, z = va_up M_2 a (some (eQ (G.2.1 2) cap g)) := ⟨_, rfl⟩
  rw [← eM_3] at hW
  have ha_3 : M_3 a = some (eQ (G.2.1 2) cap g) := by rw [eM_3]; exact if_pos rfl
  have hb_3 : M_3 b = some (.inr (0, [.int ((mc + nI 1)), .ref a, .int (nI 0)])) := by rw [eM_3]; exact (if_neg (fun z => by have h1 := hb_2; rw [z, ha_2] at h1; cases h1)).trans hb_2
  refine lv_iload_n hx hb dJx4a65c_clear_da8c8_27 rfl (lv_at hl 0 rfl) ?_
  refine lv_iload_n hx hb dJx4a65c_clear_da8c8_28 rfl (lv_at hl 3 rfl) ?_
  refine nv_icmp_ge (u := k) (v := n) (tgt := 42) hx hb dJx4a65c_clear_da8c8_29 (by decide) (by omega) (by omega) (fun c_4 => ?_) (fun c_4 => ?_)
  · skip
    exact mr_vret hx hb hr hlk (Nat.le_of_ble_eq_true rfl) (Nat.le_of_ble_eq_true rfl) hW ⟨hb_3, ⟨g, ha_3⟩, fun x h1 h2 => by rw [eM_3, eM_2, eM_1]; exact (if_neg h2).trans ((if_neg h1).trans (if_neg h1))⟩ dJx4a65c_clear_da8c8_42
  · skip
    refine lv_aload_n hx hb dJx4a65c_clear_da8c8_32 rfl (lv_at hl 2 rfl) ?_
    refine lv_iload_n hx hb dJx4a65c_clear_da8c8_33 rfl (lv_at hl 0 rfl) ?_
    refine lv_null hx hb dJx4a65c_clear_da8c8_34 ?_
    refine mr_aastN (j := k) hx hb hK hW 2 ha_3 (by rfl) rfl (by omega) (by omega) dJx4a65c_clear_da8c8_35 (fun H locs hW => ?_)
    refine lv_iinc (v := nI (k + 1)) (lv' := [(3, .int (nI (k + 1))), (0, .ref b), (1, .ref a), (2, .int (nI n))]) hx hb dJx4a65c_clear_da8c8_36 hl (k := 0) rfl (by rw [show (Int32.ofInt 1) = nI 1 by decide, nI_add]) (by decide) rfl (fun ls hl => ?_)
    refine lv_goto (tgt := 27) hx hb dJx4a65c_clear_da8c8_39 (by decide) ?_
    exact ih _ _ _ (by omega) ⟨⟨_, by rw [eM_3] at hW; rw [va_up_up] at hW; exact hW⟩, lv_sub hl [0, 1, 2, 3] rfl⟩
