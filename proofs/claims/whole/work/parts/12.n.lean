/-! THE CLASS: its constructors (mine) -/
theorem va_up_none {M : Mem} {a x : Nat} {e : va_E} (h : va_up M a (some e) x = none) : M x = none := by
  by_cases z : x = a
  · rw [show va_up M a (some e) x = some e from if_pos z] at h; cases h
  · rw [show va_up M a (some e) x = M x from if_neg z] at h; exact h

set_option maxHeartbeats 200000 in
set_option maxRecDepth 100000 in
theorem nCover (l : Launch) (G : mG) (M : Mem) (sz : Nat) (b : Nat) (hb0 : M b = some (.inr (1, [.null, .int (nI 0)]))) : cMv l yX0_init wsX0_init 1 1 128 G M sz [.ref b] (fun M' => ∃ q : Nat, M q = none ∧ M' b = some (.inr (1, [.ref q, .int (nI 0)])) ∧ M' q = some (eI (G.2.1 1) 128 (fun _ => 0)) ∧ (∀ x, x ≠ b → x ≠ q → M' x = M x) ∧ (∀ x, M' x = none → M x = none)) := by
  refine m_start cX0_init 1 none (by decide) rfl (Nat.le_of_ble_eq_true rfl) ?_
  intro p e s m below meth c ls hx hb hr hml hown hlk hnm hts hK hsz hE hW hl
  have hA := mA_A (M := M) hsz
  have hl : lv_has ls 1 [(0, .ref b)] := hl
  have hinX0 : ∀ w ∈ u_ws RX0 TX0 2, w ∈ wsX0_init := (fun _ h => List.mem_cons_of_mem _ (List.mem_append_right _ h))
  refine lv_aload_n hx hb dX0_init_0 rfl (lv_at hl 0 rfl) ?_
  refine W.objInit hx hb hown (hts (.methodLink RX0 3 objectInit) (by decide +kernel)) (hts (.instanceMethod objectInit) (by decide +kernel)) (hts (.code objectInit ⟨#[0xb1]⟩ 1 none) (by decide +kernel)) rfl (by rw [hml]; exact hl.1) rfl dX0_init_1 (Nat.le_of_ble_eq_true rfl) (Nat.le_of_ble_eq_true rfl) ?_
  refine W.eq (g2 := F0 m 4 ls []) rfl ?_
  refine lv_aload_n hx hb dX0_init_4 rfl (lv_at hl 0 rfl) ?_
  refine lv_sipush (v := nI 128) hx hb dX0_init_5 (by decide) ?_
  refine mr_newC (N := 128) hx hb (hts (.arrayClass .char) (by decide +kernel)) hK hW hA 1 (by rfl) (by omega) (Nat.le_of_ble_eq_true rfl) (Nat.le_of_ble_eq_true rfl) dX0_init_8 (fun q_1 H hq_1 hW => ?_)
  have fq_1 : M q_1 = none := hq_1
  obtain ⟨M_2, eM_2⟩ : ∃ z : Mem, z = va_up M q_1 (some (eI (G.2.1 1) 128 (fun _ => 0))) := ⟨_, rfl⟩
  rw [← eM_2] at hW
  have hq_1_2 : M_2 q_1 = some (eI (G.2.1 1) 128 (fun _ => 0)) := by rw [eM_2]; exact if_pos rfl
  have hb_2 : M_2 b = some (.inr (1, [.null, .int (nI 0)])) := by rw [eM_2]; exact (if_neg (fun z => by have h1 := hb0; rw [z, hq_1] at h1; cases h1)).trans hb0
  have dM_2 : ∀ x, M_2 x = none → M x = none := fun x h => (fun _ h => h) x (va_up_none (by rw [← eM_2]; exact h))
  have oM_2 : ∀ x, x ≠ q_1 → M_2 x = M x := fun x k0 => by rw [eM_2]; exact (if_neg k0).trans ((fun _ => rfl) x)
  refine mr_putF (ty := .array .char) (fs' := [.ref q_1, .int (nI 0)]) hx hb hts hinX0 tyX0 tyX0_ok nmX0 hown hK hW hb_2 (by rfl) 0 (by decide) (hts (.fieldLink RX0 9 "SeaPost$Cover" "signs" "[C") (by decide +kernel)) (fun _ h => h) rfl hnm rfl (by decide +kernel) rfl rfl (Nat.le_of_ble_eq_true rfl) rfl dX0_init_10 (fun H locs hW => ?_)
  obtain ⟨M_3, eM_3⟩ : ∃ z : Mem, z = va_up M_2 b (some (.inr (1, [.ref q_1, .int (nI 0)]))) := ⟨_, rfl⟩
  rw [← eM_3] at hW
  have hb_3 : M_3 b = some (.inr (1, [.ref q_1, .int (nI 0)])) := by rw [eM_3]; exact if_pos rfl
  have hq_1_3 : M_3 q_1 = some (eI (G.2.1 1) 128 (fun _ => 0)) := by rw [eM_3]; exact (if_neg (fun z => by have h1 := hq_1_2; rw [z, hb_2] at h1; cases h1)).trans hq_1_2
  have dM_3 : ∀ x, M_3 x = none → M x = none := fun x h => dM_2 x (va_up_none (by rw [← eM_3]; exact h))
  have oM_3 : ∀ x, x ≠ q_1 → x ≠ b → M_3 x = M x := fun x k0 k1 => by rw [eM_3]; exact (if_neg k1).trans (oM_2 x k0)
  exact mr_vret hx hb hr hlk (Nat.le_of_ble_eq_true rfl) (Nat.le_of_ble_eq_true rfl) hW ⟨q_1, fq_1, hb_3, hq_1_3, fun x k0 k1 => oM_3 x k1 k0, dM_3⟩ dX0_init_13

set_option maxHeartbeats 200000 in
set_option maxRecDepth 100000 in
theorem nRoute (l : Launch) (G : mG) (M : Mem) (sz : Nat) (b : Nat) (hb0 : M b = some (.inr (3, [.null, .null, .null, .int (nI 0), .int (nI 0), .int (nI 0)]))) : cMv l yX2_init wsX2_init 1 3 18 G M sz [.ref b] (fun M' => ∃ q : Nat, ∃ r : Nat, ∃ t : Nat, M q = none ∧ M r = none ∧ M t = none ∧ M' b = some (.inr (3, [.ref q, .ref r, .ref t, .int (nI 0), .int (nI 0), .int (nI 0)])) ∧ M' q = some (eI (G.2.1 0) 6 (fun _ => 0)) ∧ M' r = some (eI (G.2.1 0) 6 (fun _ => 0)) ∧ M' t = some (eI (G.2.1 0) 6 (fun _ => 0)) ∧ (q ≠ r ∧ q ≠ t ∧ r ≠ t) ∧ (∀ x, x ≠ b → x ≠ q → x ≠ r → x ≠ t → M' x = M x) ∧ (∀ x, M' x = none → M x = none)) := by
  refine m_start cX2_init 1 none (by decide) rfl (Nat.le_of_ble_eq_true rfl) ?_
  intro p e s m below meth c ls hx hb hr hml hown hlk hnm hts hK hsz hE hW hl
  have hA := mA_A (M := M) hsz
  have hl : lv_has ls 1 [(0, .ref b)] := hl
  have hinX2 : ∀ w ∈ u_ws RX2 TX2 6, w ∈ wsX2_init := (fun _ h => List.mem_cons_of_mem _ (List.mem_append_right _ h))
  refine lv_aload_n hx hb dX2_init_0 rfl (lv_at hl 0 rfl) ?_
  refine W.objInit hx hb hown (hts (.methodLink RX2 3 objectInit) (by decide +kernel)) (hts (.instanceMethod objectInit) (by decide +kernel)) (hts (.code objectInit ⟨#[0xb1]⟩ 1 none) (by decide +kernel)) rfl (by rw [hml]; exact hl.1) rfl dX2_init_1 (Nat.le_of_ble_eq_true rfl) (Nat.le_of_ble_eq_true rfl) ?_
  refine W.eq (g2 := F0 m 4 ls []) rfl ?_
  refine lv_aload_n hx hb dX2_init_4 rfl (lv_at hl 0 rfl) ?_
  refine lv_bipush (v := nI 6) hx hb dX2_init_5 (by decide) ?_
  refine mr_newI (N := 6) hx hb (hts (.arrayClass .int) (by decide +kernel)) hK hW hA 0 (by rfl) (by omega) (Nat.le_of_ble_eq_true rfl) (Nat.le_of_ble_eq_true rfl) dX2_init_7 (fun q_1 H hq_1 hW => ?_)
  have fq_1 : M q_1 = none := hq_1
  obtain ⟨M_2, eM_2⟩ : ∃ z : Mem, z = va_up M q_1 (some (eI (G.2.1 0) 6 (fun _ => 0))) := ⟨_, rfl⟩
  rw [← eM_2] at hW
  have hq_1_2 : M_2 q_1 = some (eI (G.2.1 0) 6 (fun _ => 0)) := by rw [eM_2]; exact if_pos rfl
  have hb_2 : M_2 b = some (.inr (3, [.null, .null, .null, .int (nI 0), .int (nI 0), .int (nI 0)])) := by rw [eM_2]; exact (if_neg (fun z => by have h1 := hb0; rw [z, hq_1] at h1; cases h1)).trans hb0
  have dM_2 : ∀ x, M_2 x = none → M x = none := fun x h => (fun _ h => h) x (va_up_none (by rw [← eM_2]; exact h))
  have oM_2 : ∀ x, x ≠ q_1 → M_2 x = M x := fun x k0 => by rw [eM_2]; exact (if_neg k0).trans ((fun _ => rfl) x)
  refine mr_putF (ty := .array .int) (fs' := [.ref q_1, .null, .null, .int (nI 0), .int (nI 0), .int (nI 0)]) hx hb hts hinX2 tyX2 tyX2_ok nmX2 hown hK hW hb_2 (by rfl) 0 (by decide) (hts (.fieldLink RX2 9 "SeaPost$Route" "ports" "[I") (by decide +kernel)) (fun _ h => h) rfl hnm rfl (by decide +kernel) rfl rfl (Nat.le_of_ble_eq_true rfl) rfl dX2_init_9 (fun H locs hW => ?_)
  obtain ⟨M_3, eM_3⟩ : ∃ z : Mem, z = va_up M_2 b (some (.inr (3, [.ref q_1, .null, .null, .int (nI 0), .int (nI 0), .int (nI 0)]))) := ⟨_, rfl⟩
  rw [← eM_3] at hW
  have hb_3 : M_3 b = some (.inr (3, [.ref q_1, .null, .null, .int (nI 0), .int (nI 0), .int (nI 0)])) := by rw [eM_3]; exact if_pos rfl
  have hq_1_3 : M_3 q_1 = some (eI (G.2.1 0) 6 (fun _ => 0)) := by rw [eM_3]; exact (if_neg (fun z => by have h1 := hq_1_2; rw [z, hb_2] at h1; cases h1)).trans hq_1_2
  have dM_3 : ∀ x, M_3 x = none → M x = none := fun x h => dM_2 x (va_up_none (by rw [← eM_3]; exact h))
  have oM_3 : ∀ x, x ≠ q_1 → x ≠ b → M_3 x = M x := fun x k0 k1 => by rw [eM_3]; exact (if_neg k1).trans (oM_2 x k0)
  refine lv_aload_n hx hb dX2_init_12 rfl (lv_at hl 0 rfl) ?_
  refine lv_bipush (v := nI 6) hx hb dX2_init_13 (by decide) ?_
  refine mr_newI (N := 6) hx hb (hts (.arrayClass .int) (by decide +kernel)) hK hW hA 0 (by rfl) (by omega) (Nat.le_of_ble_eq_true rfl) (Nat.le_of_ble_eq_true rfl) dX2_init_15 (fun q_4 H hq_4 hW => ?_)
  have fq_4 : M q_4 = none := dM_3 _ hq_4
  have nq_1_q_4 : q_1 ≠ q_4 := (fun z => by have h1 := hq_1_3; rw [z, hq_4] at h1; cases h1)
  obtain ⟨M_5, eM_5⟩ : ∃ z : Mem, z = va_up M_3 q_4 (some (eI (G.2.1 0) 6 (fun _ => 0))) := ⟨_, rfl⟩
  rw [← eM_5] at hW
  have hq_4_5 : M_5 q_4 = some (eI (G.2.1 0) 6 (fun _ => 0)) := by rw [eM_5]; exact if_pos rfl
  have hb_5 : M_5 b = some (.inr (3, [.ref q_1, .null, .null, .int (nI 0), .int (nI 0), .int (nI 0)])) := by rw [eM_5]; exact (if_neg (fun z => by have h1 := hb_3; rw [z, hq_4] at h1; cases h1)).trans hb_3
  have hq_1_5 : M_5 q_1 = some (eI (G.2.1 0) 6 (fun _ => 0)) := by rw [eM_5]; exact (if_neg (fun z => by have h1 := hq_1_3; rw [z, hq_4] at h1; cases h1)).trans hq_1_3
  have dM_5 : ∀ x, M_5 x = none → M x = none := fun x h => dM_3 x (va_up_none (by rw [← eM_5]; exact h))
  have oM_5 : ∀ x, x ≠ q_1 → x ≠ b → x ≠ q_4 → M_5 x = M x := fun x k0 k1 k2 => by rw [eM_5]; exact (if_neg k2).trans (oM_3 x k0 k1)
  refine mr_putF (ty := .array .int) (fs' := [.ref q_1, .ref q_4, .null, .int (nI 0), .int (nI 0), .int (nI 0)]) hx hb hts hinX2 tyX2 tyX2_ok nmX2 hown hK hW hb_5 (by rfl) 1 (by decide) (hts (.fieldLink RX2 15 "SeaPost$Route" "arrivals" "[I") (by decide +kernel)) (fun _ h => h) rfl hnm rfl (by decide +kernel) rfl rfl (Nat.le_of_ble_eq_true rfl) rfl dX2_init_17 (fun H locs hW => ?_)
  obtain ⟨M_6, eM_6⟩ : ∃ z : Mem, z = va_up M_5 b (some (.inr (3, [.ref q_1, .ref q_4, .null, .int (nI 0), .int (nI 0), .int (nI 0)]))) := ⟨_, rfl⟩
  rw [← eM_6] at hW
  have hb_6 : M_6 b = some (.inr (3, [.ref q_1, .ref q_4, .null, .int (nI 0), .int (nI 0), .int (nI 0)])) := by rw [eM_6]; exact if_pos rfl
  have hq_4_6 : M_6 q_4 = some (eI (G.2.1 0) 6 (fun _ => 0)) := by rw [eM_6]; exact (if_neg (fun z => by have h1 := hq_4_5; rw [z, hb_5] at h1; cases h1)).trans hq_4_5
  have hq_1_6 : M_6 q_1 = some (eI (G.2.1 0) 6 (fun _ => 0)) := by rw [eM_6]; exact (if_neg (fun z => by have h1 := hq_1_5; rw [z, hb_5] at h1; cases h1)).trans hq_1_5
  have dM_6 : ∀ x, M_6 x = none → M x = none := fun x h => dM_5 x (va_up_none (by rw [← eM_6]; exact h))
  have oM_6 : ∀ x, x ≠ q_1 → x ≠ b → x ≠ q_4 → M_6 x = M x := fun x k0 k1 k2 => by rw [eM_6]; exact (if_neg k1).trans (oM_5 x k0 k1 k2)
  refine lv_aload_n hx hb dX2_init_20 rfl (lv_at hl 0 rfl) ?_
  refine lv_bipush (v := nI 6) hx hb dX2_init_21 (by decide) ?_
  refine mr_newI (N := 6) hx hb (hts (.arrayClass .int) (by decide +kernel)) hK hW hA 0 (by rfl) (by omega) (Nat.le_of_ble_eq_true rfl) (Nat.le_of_ble_eq_true rfl) dX2_init_23 (fun q_7 H hq_7 hW => ?_)
  have fq_7 : M q_7 = none := dM_6 _ hq_7
  have nq_1_q_7 : q_1 ≠ q_7 := (fun z => by have h1 := hq_1_6; rw [z, hq_7] at h1; cases h1)
  have nq_4_q_7 : q_4 ≠ q_7 := (fun z => by have h1 := hq_4_6; rw [z, hq_7] at h1; cases h1)
  obtain ⟨M_8, eM_8⟩ : ∃ z : Mem, z = va_up M_6 q_7 (some (eI (G.2.1 0) 6 (fun _ => 0))) := ⟨_, rfl⟩
  rw [← eM_8] at hW
  have hq_7_8 : M_8 q_7 = some (eI (G.2.1 0) 6 (fun _ => 0)) := by rw [eM_8]; exact if_pos rfl
  have hb_8 : M_8 b = some (.inr (3, [.ref q_1, .ref q_4, .null, .int (nI 0), .int (nI 0), .int (nI 0)])) := by rw [eM_8]; exact (if_neg (fun z => by have h1 := hb_6; rw [z, hq_7] at h1; cases h1)).trans hb_6
  have hq_4_8 : M_8 q_4 = some (eI (G.2.1 0) 6 (fun _ => 0)) := by rw [eM_8]; exact (if_neg (fun z => by have h1 := hq_4_6; rw [z, hq_7] at h1; cases h1)).trans hq_4_6
  have hq_1_8 : M_8 q_1 = some (eI (G.2.1 0) 6 (fun _ => 0)) := by rw [eM_8]; exact (if_neg (fun z => by have h1 := hq_1_6; rw [z, hq_7] at h1; cases h1)).trans hq_1_6
  have dM_8 : ∀ x, M_8 x = none → M x = none := fun x h => dM_6 x (va_up_none (by rw [← eM_8]; exact h))
  have oM_8 : ∀ x, x ≠ q_1 → x ≠ b → x ≠ q_4 → x ≠ q_7 → M_8 x = M x := fun x k0 k1 k2 k3 => by rw [eM_8]; exact (if_neg k3).trans (oM_6 x k0 k1 k2)
  refine mr_putF (ty := .array .int) (fs' := [.ref q_1, .ref q_4, .ref q_7, .int (nI 0), .int (nI 0), .int (nI 0)]) hx hb hts hinX2 tyX2 tyX2_ok nmX2 hown hK hW hb_8 (by rfl) 2 (by decide) (hts (.fieldLink RX2 18 "SeaPost$Route" "leavings" "[I") (by decide +kernel)) (fun _ h => h) rfl hnm rfl (by decide +kernel) rfl rfl (Nat.le_of_ble_eq_true rfl) rfl dX2_init_25 (fun H locs hW => ?_)
  obtain ⟨M_9, eM_9⟩ : ∃ z : Mem, z = va_up M_8 b (some (.inr (3, [.ref q_1, .ref q_4, .ref q_7, .int (nI 0), .int (nI 0), .int (nI 0)]))) := ⟨_, rfl⟩
  rw [← eM_9] at hW
  have hb_9 : M_9 b = some (.inr (3, [.ref q_1, .ref q_4, .ref q_7, .int (nI 0), .int (nI 0), .int (nI 0)])) := by rw [eM_9]; exact if_pos rfl
  have hq_7_9 : M_9 q_7 = some (eI (G.2.1 0) 6 (fun _ => 0)) := by rw [eM_9]; exact (if_neg (fun z => by have h1 := hq_7_8; rw [z, hb_8] at h1; cases h1)).trans hq_7_8
  have hq_4_9 : M_9 q_4 = some (eI (G.2.1 0) 6 (fun _ => 0)) := by rw [eM_9]; exact (if_neg (fun z => by have h1 := hq_4_8; rw [z, hb_8] at h1; cases h1)).trans hq_4_8
  have hq_1_9 : M_9 q_1 = some (eI (G.2.1 0) 6 (fun _ => 0)) := by rw [eM_9]; exact (if_neg (fun z => by have h1 := hq_1_8; rw [z, hb_8] at h1; cases h1)).trans hq_1_8
  have dM_9 : ∀ x, M_9 x = none → M x = none := fun x h => dM_8 x (va_up_none (by rw [← eM_9]; exact h))
  have oM_9 : ∀ x, x ≠ q_1 → x ≠ b → x ≠ q_4 → x ≠ q_7 → M_9 x = M x := fun x k0 k1 k2 k3 => by rw [eM_9]; exact (if_neg k1).trans (oM_8 x k0 k1 k2 k3)
  exact mr_vret hx hb hr hlk (Nat.le_of_ble_eq_true rfl) (Nat.le_of_ble_eq_true rfl) hW ⟨q_1, q_4, q_7, fq_1, fq_4, fq_7, hb_9, hq_1_9, hq_4_9, hq_7_9, ⟨nq_1_q_4, nq_1_q_7, nq_4_q_7⟩, fun x k0 k1 k2 k3 => oM_9 x k1 k0 k2 k3, dM_9⟩ dX2_init_28

set_option maxHeartbeats 200000 in
set_option maxRecDepth 100000 in
theorem nLetter (l : Launch) (G : mG) (M : Mem) (sz : Nat) (b i u q0 h d : Nat) (hb0 : M b = some (.inr (2, [.int (nI 0), .null, .int (nI 0), .int (nI 0), .null, .int (nI 0), .int (nI 0), .int (nI 0), .int (nI 0), .int (nI 0)]))) (hu : ∃ fs, M u = some (.inr (4, fs))) : cMv l yX1_init wsX1_init 2 2 130 G M sz [.ref b, .int (nI i), .ref u, .int (nI q0), .int (nI h), .int (nI d)] (fun M' => ∃ c : Nat, ∃ q : Nat, M c = none ∧ M q = none ∧ M' b = some (.inr (2, [.int (nI i), .ref u, .int (nI h), .int (nI d), .ref c, .int (nI 4294967295), .int (nI q0), .int (nI 0), .int (nI 0), .int (nI 0)])) ∧ M' c = some (.inr (1, [.ref q, .int (nI 0)])) ∧ M' q = some (eI (G.2.1 1) 128 (fun _ => 0)) ∧ (∀ x, x ≠ b → x ≠ c → x ≠ q → M' x = M x) ∧ (∀ x, M' x = none → M x = none)) := by
  refine m_start cX1_init 6 none (by decide) rfl (Nat.le_of_ble_eq_true rfl) ?_
  intro p e s m below meth c ls hx hb hr hml hown hlk hnm hts hK hsz hE hW hl
  have hA := mA_A (M := M) hsz
  have hl : lv_has ls 6 [(0, .ref b), (1, .int (nI i)), (2, .ref u), (3, .int (nI q0)), (4, .int (nI h)), (5, .int (nI d))] := hl
  have hinX0 : ∀ w ∈ u_ws RX0 TX0 2, w ∈ wsX1_init := (fun _ h => List.mem_cons_of_mem _ (List.mem_append_left _ (List.mem_append_right _ h)))
  have hinX1 : ∀ w ∈ u_ws RX1 TX1 10, w ∈ wsX1_init := (fun _ h => List.mem_cons_of_mem _ (List.mem_append_right _ h))
  refine lv_aload_n hx hb dX1_init_0 rfl (lv_at hl 0 rfl) ?_
  refine W.objInit hx hb hown (hts (.methodLink RX1 3 objectInit) (by decide +kernel)) (hts (.instanceMethod objectInit) (by decide +kernel)) (hts (.code objectInit ⟨#[0xb1]⟩ 1 none) (by decide +kernel)) rfl (by rw [hml]; exact hl.1) rfl dX1_init_1 (Nat.le_of_ble_eq_true rfl) (Nat.le_of_ble_eq_true rfl) ?_
  refine W.eq (g2 := F0 m 4 ls []) rfl ?_
  refine lv_aload_n hx hb dX1_init_4 rfl (lv_at hl 0 rfl) ?_
  refine mr_new (fs := [.null, .int (nI 0)]) hx hb hts hinX0 tyX0 tyX0_ok hown (hts (.classLink RX1 9 RX0) (by decide +kernel)) (hts (.instantiable RX0 2) (by decide +kernel)) (hts (.initialized RX0) (by decide +kernel)) hK hW hA (ci := 1) (by rfl) (fun j hj => by match j, hj with | 0, _ => rfl | 1, _ => rfl) (Nat.le_of_ble_eq_true rfl) (Nat.le_of_ble_eq_true rfl) dX1_init_5 (fun q_1 H hq_1 hW => ?_)
  have fq_1 : M q_1 = none := hq_1
  obtain ⟨M_2, eM_2⟩ : ∃ z : Mem, z = va_up M q_1 (some (.inr (1, [.null, .int (nI 0)]))) := ⟨_, rfl⟩
  rw [← eM_2] at hW
  have hq_1_2 : M_2 q_1 = some (.inr (1, [.null, .int (nI 0)])) := by rw [eM_2]; exact if_pos rfl
  have hb_2 : M_2 b = some (.inr (2, [.int (nI 0), .null, .int (nI 0), .int (nI 0), .null, .int (nI 0), .int (nI 0), .int (nI 0), .int (nI 0), .int (nI 0)])) := by rw [eM_2]; exact (if_neg (fun z => by have h1 := hb0; rw [z, hq_1] at h1; cases h1)).trans hb0
  have dM_2 : ∀ x, M_2 x = none → M x = none := fun x h => (fun _ h => h) x (va_up_none (by rw [← eM_2]; exact h))
  have oM_2 : ∀ x, x ≠ q_1 → M_2 x = M x := fun x k0 => by rw [eM_2]; exact (if_neg k0).trans ((fun _ => rfl) x)
  refine lv_dup hx hb dX1_init_8 rfl ?_
  refine mk_v (va_runIN (As := []) (nL := 6) ⟨hx, hb, hml, hown, hts⟩ (nCover l G _ _ q_1 hq_1_2) ⟨va_cnB 0 hts gX1_init_X0_init_n11 rfl rfl rfl (hE.2.2.1 (RX1, 11, yX0_init) (by decide +kernel)) (hts (.initialized RX0) (by decide +kernel)) (by decide +kernel) ⟨(Nat.le_of_ble_eq_true rfl), (Nat.le_of_ble_eq_true rfl)⟩, rfl, hts (.instanceMethod yX0_init) (by decide +kernel)⟩ (mp_S hK hE hW hA) rfl rfl hl.1 rfl (lv_room (Nat.le_of_ble_eq_true rfl)) dX1_init_9 ⟨(Nat.le_of_ble_eq_true rfl), (Nat.le_of_ble_eq_true rfl)⟩) hW hA (fun M_4 H locs hp_3 hW => ?_)
  obtain ⟨q_5, hq_5, g1, g2, g3, g4⟩ := hp_3
  have fq_5 : M q_5 = none := dM_2 _ hq_5
  have hb_6 : M_4 b = some (.inr (2, [.int (nI 0), .null, .int (nI 0), .int (nI 0), .null, .int (nI 0), .int (nI 0), .int (nI 0), .int (nI 0), .int (nI 0)])) := (g3 _ (fun z => by have h1 := hb_2; rw [z, hq_1_2] at h1; cases h1) (fun z => by have h1 := hb_2; rw [z, hq_5] at h1; cases h1)).trans hb_2
  have hq_1_7 : M_4 q_1 = some (.inr (1, [.ref q_5, .int (nI 0)])) := g1
  have hq_5_8 : M_4 q_5 = some (eI (G.2.1 1) 128 (fun _ => 0)) := g2
  have dM_4 : ∀ x, M_4 x = none → M x = none := fun x h => dM_2 x (g4 x h)
  have oM_4 : ∀ x, x ≠ q_1 → x ≠ q_5 → M_4 x = M x := fun x k0 k1 => (g3 x k0 k1).trans (oM_2 x k0)
  refine W.eq (g2 := F0 m 12 ls [.ref q_1, .ref b]) rfl ?_
  refine mr_putF (ty := .object "SeaPost$Cover") (fs' := [.int (nI 0), .null, .int (nI 0), .int (nI 0), .ref q_1, .int (nI 0), .int (nI 0), .int (nI 0), .int (nI 0), .int (nI 0)]) hx hb hts hinX1 tyX1 tyX1_ok nmX1 hown hK hW hb_6 (by rfl) 4 (by decide) (hts (.fieldLink RX1 12 "SeaPost$Letter" "cover" "LSeaPost$Cover;") (by decide +kernel)) (fun _ h => h) rfl hnm rfl (by decide +kernel) rfl rfl (Nat.le_of_ble_eq_true rfl) rfl dX1_init_12 (fun H locs hW => ?_)
  obtain ⟨M_9, eM_9⟩ : ∃ z : Mem, z = va_up M_4 b (some (.inr (2, [.int (nI 0), .null, .int (nI 0), .int (nI 0), .ref q_1, .int (nI 0), .int (nI 0), .int (nI 0), .int (nI 0), .int (nI 0)]))) := ⟨_, rfl⟩
  rw [← eM_9] at hW
  have hb_9 : M_9 b = some (.inr (2, [.int (nI 0), .null, .int (nI 0), .int (nI 0), .ref q_1, .int (nI 0), .int (nI 0), .int (nI 0), .int (nI 0), .int (nI 0)])) := by rw [eM_9]; exact if_pos rfl
  have hq_1_9 : M_9 q_1 = some (.inr (1, [.ref q_5, .int (nI 0)])) := by rw [eM_9]; exact (if_neg (fun z => by have h1 := hq_1_7; rw [z, hb_6] at h1; cases h1)).trans hq_1_7
  have hq_5_9 : M_9 q_5 = some (eI (G.2.1 1) 128 (fun _ => 0)) := by rw [eM_9]; exact (if_neg (fun z => by have h1 := hq_5_8; rw [z, hb_6] at h1; cases h1)).trans hq_5_8
  have dM_9 : ∀ x, M_9 x = none → M x = none := fun x h => dM_4 x (va_up_none (by rw [← eM_9]; exact h))
  have oM_9 : ∀ x, x ≠ q_1 → x ≠ q_5 → x ≠ b → M_9 x = M x := fun x k0 k1 k2 => by rw [eM_9]; exact (if_neg k2).trans (oM_4 x k0 k1)
  refine lv_aload_n hx hb dX1_init_15 rfl (lv_at hl 0 rfl) ?_
  refine lv_iconst (v := nI 4294967295) hx hb dX1_init_16 (by decide) ?_
  refine mr_put (ty := .int) (fs' := [.int (nI 0), .null, .int (nI 0), .int (nI 0), .ref q_1, .int (nI 4294967295), .int (nI 0), .int (nI 0), .int (nI 0), .int (nI 0)]) hx hb hts hinX1 tyX1 tyX1_ok nmX1 hown hK hW hb_9 (by rfl) 5 (by decide) (hts (.fieldLink RX1 18 "SeaPost$Letter" "condition" "I") (by decide +kernel)) (fun _ h => h) rfl (by decide +kernel) rfl rfl (Nat.le_of_ble_eq_true rfl) rfl dX1_init_17 (fun H locs hW => ?_)
  obtain ⟨M_10, eM_10⟩ : ∃ z : Mem, z = va_up M_9 b (some (.inr (2, [.int (nI 0), .null, .int (nI 0), .int (nI 0), .ref q_1, .int (nI 4294967295), .int (nI 0), .int (nI 0), .int (nI 0), .int (nI 0)]))) := ⟨_, rfl⟩
  rw [← eM_10] at hW
  have hb_10 : M_10 b = some (.inr (2, [.int (nI 0), .null, .int (nI 0), .int (nI 0), .ref q_1, .int (nI 4294967295), .int (nI 0), .int (nI 0), .int (nI 0), .int (nI 0)])) := by rw [eM_10]; exact if_pos rfl
  have hq_1_10 : M_10 q_1 = some (.inr (1, [.ref q_5, .int (nI 0)])) := by rw [eM_10]; exact (if_neg (fun z => by have h1 := hq_1_9; rw [z, hb_9] at h1; cases h1)).trans hq_1_9
  have hq_5_10 : M_10 q_5 = some (eI (G.2.1 1) 128 (fun _ => 0)) := by rw [eM_10]; exact (if_neg (fun z => by have h1 := hq_5_9; rw [z, hb_9] at h1; cases h1)).trans hq_5_9
  have dM_10 : ∀ x, M_10 x = none → M x = none := fun x h => dM_9 x (va_up_none (by rw [← eM_10]; exact h))
  have oM_10 : ∀ x, x ≠ q_1 → x ≠ q_5 → x ≠ b → M_10 x = M x := fun x k0 k1 k2 => by rw [eM_10]; exact (if_neg k2).trans (oM_9 x k0 k1 k2)
  refine lv_aload_n hx hb dX1_init_20 rfl (lv_at hl 0 rfl) ?_
  refine lv_iload_n hx hb dX1_init_21 rfl (lv_at hl 1 rfl) ?_
  refine mr_putF (ty := .int) (fs' := [.int (nI i), .null, .int (nI 0), .int (nI 0), .ref q_1, .int (nI 4294967295), .int (nI 0), .int (nI 0), .int (nI 0), .int (nI 0)]) hx hb hts hinX1 tyX1 tyX1_ok nmX1 hown hK hW hb_10 (by rfl) 0 (by decide) (hts (.fieldLink RX1 22 "SeaPost$Letter" "number" "I") (by decide +kernel)) (fun _ h => h) rfl hnm rfl (by decide +kernel) rfl rfl (Nat.le_of_ble_eq_true rfl) rfl dX1_init_22 (fun H locs hW => ?_)
  obtain ⟨M_11, eM_11⟩ : ∃ z : Mem, z = va_up M_10 b (some (.inr (2, [.int (nI i), .null, .int (nI 0), .int (nI 0), .ref q_1, .int (nI 4294967295), .int (nI 0), .int (nI 0), .int (nI 0), .int (nI 0)]))) := ⟨_, rfl⟩
  rw [← eM_11] at hW
  have hb_11 : M_11 b = some (.inr (2, [.int (nI i), .null, .int (nI 0), .int (nI 0), .ref q_1, .int (nI 4294967295), .int (nI 0), .int (nI 0), .int (nI 0), .int (nI 0)])) := by rw [eM_11]; exact if_pos rfl
  have hq_1_11 : M_11 q_1 = some (.inr (1, [.ref q_5, .int (nI 0)])) := by rw [eM_11]; exact (if_neg (fun z => by have h1 := hq_1_10; rw [z, hb_10] at h1; cases h1)).trans hq_1_10
  have hq_5_11 : M_11 q_5 = some (eI (G.2.1 1) 128 (fun _ => 0)) := by rw [eM_11]; exact (if_neg (fun z => by have h1 := hq_5_10; rw [z, hb_10] at h1; cases h1)).trans hq_5_10
  have dM_11 : ∀ x, M_11 x = none → M x = none := fun x h => dM_10 x (va_up_none (by rw [← eM_11]; exact h))
  have oM_11 : ∀ x, x ≠ q_1 → x ≠ q_5 → x ≠ b → M_11 x = M x := fun x k0 k1 k2 => by rw [eM_11]; exact (if_neg k2).trans (oM_10 x k0 k1 k2)
  refine lv_aload_n hx hb dX1_init_25 rfl (lv_at hl 0 rfl) ?_
  refine lv_aload_n hx hb dX1_init_26 rfl (lv_at hl 2 rfl) ?_
  refine mr_putF (ty := .object "SeaPost$Ship") (fs' := [.int (nI i), .ref u, .int (nI 0), .int (nI 0), .ref q_1, .int (nI 4294967295), .int (nI 0), .int (nI 0), .int (nI 0), .int (nI 0)]) hx hb hts hinX1 tyX1 tyX1_ok nmX1 hown hK hW hb_11 (by rfl) 1 (by decide) (hts (.fieldLink RX1 25 "SeaPost$Letter" "ship" "LSeaPost$Ship;") (by decide +kernel)) (fun _ h => h) rfl hnm rfl (by decide +kernel) rfl rfl (Nat.le_of_ble_eq_true rfl) rfl dX1_init_27 (fun H locs hW => ?_)
  obtain ⟨M_12, eM_12⟩ : ∃ z : Mem, z = va_up M_11 b (some (.inr (2, [.int (nI i), .ref u, .int (nI 0), .int (nI 0), .ref q_1, .int (nI 4294967295), .int (nI 0), .int (nI 0), .int (nI 0), .int (nI 0)]))) := ⟨_, rfl⟩
  rw [← eM_12] at hW
  have hb_12 : M_12 b = some (.inr (2, [.int (nI i), .ref u, .int (nI 0), .int (nI 0), .ref q_1, .int (nI 4294967295), .int (nI 0), .int (nI 0), .int (nI 0), .int (nI 0)])) := by rw [eM_12]; exact if_pos rfl
  have hq_1_12 : M_12 q_1 = some (.inr (1, [.ref q_5, .int (nI 0)])) := by rw [eM_12]; exact (if_neg (fun z => by have h1 := hq_1_11; rw [z, hb_11] at h1; cases h1)).trans hq_1_11
  have hq_5_12 : M_12 q_5 = some (eI (G.2.1 1) 128 (fun _ => 0)) := by rw [eM_12]; exact (if_neg (fun z => by have h1 := hq_5_11; rw [z, hb_11] at h1; cases h1)).trans hq_5_11
  have dM_12 : ∀ x, M_12 x = none → M x = none := fun x h => dM_11 x (va_up_none (by rw [← eM_12]; exact h))
  have oM_12 : ∀ x, x ≠ q_1 → x ≠ q_5 → x ≠ b → M_12 x = M x := fun x k0 k1 k2 => by rw [eM_12]; exact (if_neg k2).trans (oM_11 x k0 k1 k2)
  refine lv_aload_n hx hb dX1_init_30 rfl (lv_at hl 0 rfl) ?_
  refine lv_iload_n hx hb dX1_init_31 rfl (lv_at hl 3 rfl) ?_
  refine mr_put (ty := .int) (fs' := [.int (nI i), .ref u, .int (nI 0), .int (nI 0), .ref q_1, .int (nI 4294967295), .int (nI q0), .int (nI 0), .int (nI 0), .int (nI 0)]) hx hb hts hinX1 tyX1 tyX1_ok nmX1 hown hK hW hb_12 (by rfl) 6 (by decide) (hts (.fieldLink RX1 29 "SeaPost$Letter" "port" "I") (by decide +kernel)) (fun _ h => h) rfl (by decide +kernel) rfl rfl (Nat.le_of_ble_eq_true rfl) rfl dX1_init_32 (fun H locs hW => ?_)
  obtain ⟨M_13, eM_13⟩ : ∃ z : Mem, z = va_up M_12 b (some (.inr (2, [.int (nI i), .ref u, .int (nI 0), .int (nI 0), .ref q_1, .int (nI 4294967295), .int (nI q0), .int (nI 0), .int (nI 0), .int (nI 0)]))) := ⟨_, rfl⟩
  rw [← eM_13] at hW
  have hb_13 : M_13 b = some (.inr (2, [.int (nI i), .ref u, .int (nI 0), .int (nI 0), .ref q_1, .int (nI 4294967295), .int (nI q0), .int (nI 0), .int (nI 0), .int (nI 0)])) := by rw [eM_13]; exact if_pos rfl
  have hq_1_13 : M_13 q_1 = some (.inr (1, [.ref q_5, .int (nI 0)])) := by rw [eM_13]; exact (if_neg (fun z => by have h1 := hq_1_12; rw [z, hb_12] at h1; cases h1)).trans hq_1_12
  have hq_5_13 : M_13 q_5 = some (eI (G.2.1 1) 128 (fun _ => 0)) := by rw [eM_13]; exact (if_neg (fun z => by have h1 := hq_5_12; rw [z, hb_12] at h1; cases h1)).trans hq_5_12
  have dM_13 : ∀ x, M_13 x = none → M x = none := fun x h => dM_12 x (va_up_none (by rw [← eM_13]; exact h))
  have oM_13 : ∀ x, x ≠ q_1 → x ≠ q_5 → x ≠ b → M_13 x = M x := fun x k0 k1 k2 => by rw [eM_13]; exact (if_neg k2).trans (oM_12 x k0 k1 k2)
  refine lv_aload_n hx hb dX1_init_35 rfl (lv_at hl 0 rfl) ?_
  refine lv_iload hx hb dX1_init_36 (lv_at hl 4 rfl) ?_
  refine mr_putF (ty := .int) (fs' := [.int (nI i), .ref u, .int (nI h), .int (nI 0), .ref q_1, .int (nI 4294967295), .int (nI q0), .int (nI 0), .int (nI 0), .int (nI 0)]) hx hb hts hinX1 tyX1 tyX1_ok nmX1 hown hK hW hb_13 (by rfl) 2 (by decide) (hts (.fieldLink RX1 32 "SeaPost$Letter" "home" "I") (by decide +kernel)) (fun _ h => h) rfl hnm rfl (by decide +kernel) rfl rfl (Nat.le_of_ble_eq_true rfl) rfl dX1_init_38 (fun H locs hW => ?_)
  obtain ⟨M_14, eM_14⟩ : ∃ z : Mem, z = va_up M_13 b (some (.inr (2, [.int (nI i), .ref u, .int (nI h), .int (nI 0), .ref q_1, .int (nI 4294967295), .int (nI q0), .int (nI 0), .int (nI 0), .int (nI 0)]))) := ⟨_, rfl⟩
  rw [← eM_14] at hW
  have hb_14 : M_14 b = some (.inr (2, [.int (nI i), .ref u, .int (nI h), .int (nI 0), .ref q_1, .int (nI 4294967295), .int (nI q0), .int (nI 0), .int (nI 0), .int (nI 0)])) := by rw [eM_14]; exact if_pos rfl
  have hq_1_14 : M_14 q_1 = some (.inr (1, [.ref q_5, .int (nI 0)])) := by rw [eM_14]; exact (if_neg (fun z => by have h1 := hq_1_13; rw [z, hb_13] at h1; cases h1)).trans hq_1_13
  have hq_5_14 : M_14 q_5 = some (eI (G.2.1 1) 128 (fun _ => 0)) := by rw [eM_14]; exact (if_neg (fun z => by have h1 := hq_5_13; rw [z, hb_13] at h1; cases h1)).trans hq_5_13
  have dM_14 : ∀ x, M_14 x = none → M x = none := fun x h => dM_13 x (va_up_none (by rw [← eM_14]; exact h))
  have oM_14 : ∀ x, x ≠ q_1 → x ≠ q_5 → x ≠ b → M_14 x = M x := fun x k0 k1 k2 => by rw [eM_14]; exact (if_neg k2).trans (oM_13 x k0 k1 k2)
  refine lv_aload_n hx hb dX1_init_41 rfl (lv_at hl 0 rfl) ?_
  refine lv_iload hx hb dX1_init_42 (lv_at hl 5 rfl) ?_
  refine mr_putF (ty := .int) (fs' := [.int (nI i), .ref u, .int (nI h), .int (nI d), .ref q_1, .int (nI 4294967295), .int (nI q0), .int (nI 0), .int (nI 0), .int (nI 0)]) hx hb hts hinX1 tyX1 tyX1_ok nmX1 hown hK hW hb_14 (by rfl) 3 (by decide) (hts (.fieldLink RX1 35 "SeaPost$Letter" "postedOn" "I") (by decide +kernel)) (fun _ h => h) rfl hnm rfl (by decide +kernel) rfl rfl (Nat.le_of_ble_eq_true rfl) rfl dX1_init_44 (fun H locs hW => ?_)
  obtain ⟨M_15, eM_15⟩ : ∃ z : Mem, z = va_up M_14 b (some (.inr (2, [.int (nI i), .ref u, .int (nI h), .int (nI d), .ref q_1, .int (nI 4294967295), .int (nI q0), .int (nI 0), .int (nI 0), .int (nI 0)]))) := ⟨_, rfl⟩
  rw [← eM_15] at hW
  have hb_15 : M_15 b = some (.inr (2, [.int (nI i), .ref u, .int (nI h), .int (nI d), .ref q_1, .int (nI 4294967295), .int (nI q0), .int (nI 0), .int (nI 0), .int (nI 0)])) := by rw [eM_15]; exact if_pos rfl
  have hq_1_15 : M_15 q_1 = some (.inr (1, [.ref q_5, .int (nI 0)])) := by rw [eM_15]; exact (if_neg (fun z => by have h1 := hq_1_14; rw [z, hb_14] at h1; cases h1)).trans hq_1_14
  have hq_5_15 : M_15 q_5 = some (eI (G.2.1 1) 128 (fun _ => 0)) := by rw [eM_15]; exact (if_neg (fun z => by have h1 := hq_5_14; rw [z, hb_14] at h1; cases h1)).trans hq_5_14
  have dM_15 : ∀ x, M_15 x = none → M x = none := fun x h => dM_14 x (va_up_none (by rw [← eM_15]; exact h))
  have oM_15 : ∀ x, x ≠ q_1 → x ≠ q_5 → x ≠ b → M_15 x = M x := fun x k0 k1 k2 => by rw [eM_15]; exact (if_neg k2).trans (oM_14 x k0 k1 k2)
  exact mr_vret hx hb hr hlk (Nat.le_of_ble_eq_true rfl) (Nat.le_of_ble_eq_true rfl) hW ⟨q_1, q_5, fq_1, fq_5, hb_15, hq_1_15, hq_5_15, fun x k0 k1 k2 => oM_15 x k1 k2 k0, dM_15⟩ dX1_init_47

set_option maxHeartbeats 200000 in
set_option maxRecDepth 100000 in
theorem nShip (l : Launch) (G : mG) (M : Mem) (sz : Nat) (b : Nat) (hb0 : M b = some (.inr (4, [.null, .null, .null]))) : cMv l yX3_init wsX3_init 4 6 30 G M sz [.ref b] (fun M' => ∃ a : Nat, ∃ v : Nat, ∃ r : Nat, ∃ q : Nat, ∃ y : Nat, ∃ t : Nat, M a = none ∧ M v = none ∧ M r = none ∧ M q = none ∧ M y = none ∧ M t = none ∧ M' b = some (.inr (4, [.ref a, .ref v, .ref r])) ∧ M' a = some (.inr (0, [.int (nI 0), .ref (G.2.2 0), .int (nI 0)])) ∧ M' v = some (.inr (0, [.int (nI 0), .ref (G.2.2 0), .int (nI 0)])) ∧ M' r = some (.inr (3, [.ref q, .ref y, .ref t, .int (nI 0), .int (nI 0), .int (nI 0)])) ∧ M' q = some (eI (G.2.1 0) 6 (fun _ => 0)) ∧ M' y = some (eI (G.2.1 0) 6 (fun _ => 0)) ∧ M' t = some (eI (G.2.1 0) 6 (fun _ => 0)) ∧ (a ≠ v ∧ q ≠ y ∧ q ≠ t ∧ y ≠ t) ∧ (∀ x, x ≠ b → x ≠ a → x ≠ v → x ≠ r → x ≠ q → x ≠ y → x ≠ t → M' x = M x) ∧ (∀ x, M' x = none → M x = none)) := by
  refine m_start cX3_init 1 none (by decide) rfl (Nat.le_of_ble_eq_true rfl) ?_
  intro p e s m below meth c ls hx hb hr hml hown hlk hnm hts hK hsz hE hW hl
  have hA := mA_A (M := M) hsz
  have hl : lv_has ls 1 [(0, .ref b)] := hl
  have hinX2 : ∀ w ∈ u_ws RX2 TX2 6, w ∈ wsX3_init := (fun _ h => List.mem_cons_of_mem _ (List.mem_append_right _ h))
  have hinX3 : ∀ w ∈ u_ws RX3 TX3 3, w ∈ wsX3_init := (fun _ h => List.mem_cons_of_mem _ (List.mem_append_left _ (List.mem_append_right _ h)))
  have hinJx4a65c : ∀ w ∈ u_ws RJx4a65c TJx4a65c 3, w ∈ wsX3_init := (fun _ h => List.mem_cons_of_mem _ (List.mem_append_left _ (List.mem_append_left _ (List.mem_append_right _ h))))
  refine lv_aload_n hx hb dX3_init_0 rfl (lv_at hl 0 rfl) ?_
  refine W.objInit hx hb hown (hts (.methodLink RX3 3 objectInit) (by decide +kernel)) (hts (.instanceMethod objectInit) (by decide +kernel)) (hts (.code objectInit ⟨#[0xb1]⟩ 1 none) (by decide +kernel)) rfl (by rw [hml]; exact hl.1) rfl dX3_init_1 (Nat.le_of_ble_eq_true rfl) (Nat.le_of_ble_eq_true rfl) ?_
  refine W.eq (g2 := F0 m 4 ls []) rfl ?_
  refine lv_aload_n hx hb dX3_init_4 rfl (lv_at hl 0 rfl) ?_
  refine mr_new (fs := [.int (nI 0), .null, .int (nI 0)]) hx hb hts hinJx4a65c tyJx4a65c tyJx4a65c_ok hown (hts (.classLink RX3 9 RJx4a65c) (by decide +kernel)) (hts (.instantiable RJx4a65c 3) (by decide +kernel)) (hts (.initialized RJx4a65c) (by decide +kernel)) hK hW hA (ci := 0) (by rfl) (fun j hj => by match j, hj with | 0, _ => rfl | 1, _ => rfl | 2, _ => rfl) (Nat.le_of_ble_eq_true rfl) (Nat.le_of_ble_eq_true rfl) dX3_init_5 (fun q_1 H hq_1 hW => ?_)
  have fq_1 : M q_1 = none := hq_1
  obtain ⟨M_2, eM_2⟩ : ∃ z : Mem, z = va_up M q_1 (some (.inr (0, [.int (nI 0), .null, .int (nI 0)]))) := ⟨_, rfl⟩
  rw [← eM_2] at hW
  have hq_1_2 : M_2 q_1 = some (.inr (0, [.int (nI 0), .null, .int (nI 0)])) := by rw [eM_2]; exact if_pos rfl
  have hb_2 : M_2 b = some (.inr (4, [.null, .null, .null])) := by rw [eM_2]; exact (if_neg (fun z => by have h1 := hb0; rw [z, hq_1] at h1; cases h1)).trans hb0
  have dM_2 : ∀ x, M_2 x = none → M x = none := fun x h => (fun _ h => h) x (va_up_none (by rw [← eM_2]; exact h))
  have oM_2 : ∀ x, x ≠ q_1 → M_2 x = M x := fun x k0 => by rw [eM_2]; exact (if_neg k0).trans ((fun _ => rfl) x)
  refine lv_dup hx hb dX3_init_8 rfl ?_
  refine mk_v (va_runI (As := []) (nL := 1) ⟨hx, hb, hml, hown, hts⟩ (jInit l G _ _ q_1 hq_1_2) (cwI 0 hts gX3_init_Jx4a65c_init_da8c8 rfl rfl rfl (hts (.initialized RJx4a65c) (by decide +kernel)) (hts (.methodLink RX3 11 yJx4a65c_init_da8c8) (by decide +kernel)) (hts (.instanceMethod yJx4a65c_init_da8c8) (by decide +kernel)) rfl (by decide +kernel) ⟨(Nat.le_of_ble_eq_true rfl), (Nat.le_of_ble_eq_true rfl)⟩) (mp_S hK hE hW hA) rfl rfl hl.1 rfl (lv_room (Nat.le_of_ble_eq_true rfl)) dX3_init_9 ⟨(Nat.le_of_ble_eq_true rfl), (Nat.le_of_ble_eq_true rfl)⟩) hW hA (fun M_4 H locs hp_3 hW => ?_)
  obtain ⟨g1, g3⟩ := hp_3
  have g4 : ∀ x, M_4 x = none → M_2 x = none := fun x h => by
    by_cases z : x = q_1
    · rw [z, g1] at h; cases h
    · rw [← g3 x z]; exact h
  have hb_5 : M_4 b = some (.inr (4, [.null, .null, .null])) := (g3 _ (fun z => by have h1 := hb_2; rw [z, hq_1_2] at h1; cases h1)).trans hb_2
  have hq_1_6 : M_4 q_1 = some (.inr (0, [.int (nI 0), .ref (G.2.2 0), .int (nI 0)])) := g1
  have dM_4 : ∀ x, M_4 x = none → M x = none := fun x h => dM_2 x (g4 x h)
  have oM_4 : ∀ x, x ≠ q_1 → M_4 x = M x := fun x k0 => (g3 x k0).trans (oM_2 x k0)
  refine W.eq (g2 := F0 m 12 ls [.ref q_1, .ref b]) rfl ?_
  refine mr_putF (ty := .object "java/util/ArrayList") (fs' := [.ref q_1, .null, .null]) hx hb hts hinX3 tyX3 tyX3_ok nmX3 hown hK hW hb_5 (by rfl) 0 (by decide) (hts (.fieldLink RX3 12 "SeaPost$Ship" "told" "Ljava/util/ArrayList;") (by decide +kernel)) (fun _ h => h) rfl hnm rfl (by decide +kernel) rfl rfl (Nat.le_of_ble_eq_true rfl) rfl dX3_init_12 (fun H locs hW => ?_)
  obtain ⟨M_7, eM_7⟩ : ∃ z : Mem, z = va_up M_4 b (some (.inr (4, [.ref q_1, .null, .null]))) := ⟨_, rfl⟩
  rw [← eM_7] at hW
  have hb_7 : M_7 b = some (.inr (4, [.ref q_1, .null, .null])) := by rw [eM_7]; exact if_pos rfl
  have hq_1_7 : M_7 q_1 = some (.inr (0, [.int (nI 0), .ref (G.2.2 0), .int (nI 0)])) := by rw [eM_7]; exact (if_neg (fun z => by have h1 := hq_1_6; rw [z, hb_5] at h1; cases h1)).trans hq_1_6
  have dM_7 : ∀ x, M_7 x = none → M x = none := fun x h => dM_4 x (va_up_none (by rw [← eM_7]; exact h))
  have oM_7 : ∀ x, x ≠ q_1 → x ≠ b → M_7 x = M x := fun x k0 k1 => by rw [eM_7]; exact (if_neg k1).trans (oM_4 x k0)
  refine lv_aload_n hx hb dX3_init_15 rfl (lv_at hl 0 rfl) ?_
  refine mr_new (fs := [.int (nI 0), .null, .int (nI 0)]) hx hb hts hinJx4a65c tyJx4a65c tyJx4a65c_ok hown (hts (.classLink RX3 9 RJx4a65c) (by decide +kernel)) (hts (.instantiable RJx4a65c 3) (by decide +kernel)) (hts (.initialized RJx4a65c) (by decide +kernel)) hK hW hA (ci := 0) (by rfl) (fun j hj => by match j, hj with | 0, _ => rfl | 1, _ => rfl | 2, _ => rfl) (Nat.le_of_ble_eq_true rfl) (Nat.le_of_ble_eq_true rfl) dX3_init_16 (fun q_8 H hq_8 hW => ?_)
  have fq_8 : M q_8 = none := dM_7 _ hq_8
  have nq_1_q_8 : q_1 ≠ q_8 := (fun z => by have h1 := hq_1_7; rw [z, hq_8] at h1; cases h1)
  obtain ⟨M_9, eM_9⟩ : ∃ z : Mem, z = va_up M_7 q_8 (some (.inr (0, [.int (nI 0), .null, .int (nI 0)]))) := ⟨_, rfl⟩
  rw [← eM_9] at hW
  have hq_8_9 : M_9 q_8 = some (.inr (0, [.int (nI 0), .null, .int (nI 0)])) := by rw [eM_9]; exact if_pos rfl
  have hb_9 : M_9 b = some (.inr (4, [.ref q_1, .null, .null])) := by rw [eM_9]; exact (if_neg (fun z => by have h1 := hb_7; rw [z, hq_8] at h1; cases h1)).trans hb_7
  have hq_1_9 : M_9 q_1 = some (.inr (0, [.int (nI 0), .ref (G.2.2 0), .int (nI 0)])) := by rw [eM_9]; exact (if_neg (fun z => by have h1 := hq_1_7; rw [z, hq_8] at h1; cases h1)).trans hq_1_7
  have dM_9 : ∀ x, M_9 x = none → M x = none := fun x h => dM_7 x (va_up_none (by rw [← eM_9]; exact h))
  have oM_9 : ∀ x, x ≠ q_1 → x ≠ b → x ≠ q_8 → M_9 x = M x := fun x k0 k1 k2 => by rw [eM_9]; exact (if_neg k2).trans (oM_7 x k0 k1)
  refine lv_dup hx hb dX3_init_19 rfl ?_
  refine mk_v (va_runI (As := []) (nL := 1) ⟨hx, hb, hml, hown, hts⟩ (jInit l G _ _ q_8 hq_8_9) (cwI 0 hts gX3_init_Jx4a65c_init_da8c8 rfl rfl rfl (hts (.initialized RJx4a65c) (by decide +kernel)) (hts (.methodLink RX3 11 yJx4a65c_init_da8c8) (by decide +kernel)) (hts (.instanceMethod yJx4a65c_init_da8c8) (by decide +kernel)) rfl (by decide +kernel) ⟨(Nat.le_of_ble_eq_true rfl), (Nat.le_of_ble_eq_true rfl)⟩) (mp_S hK hE hW hA) rfl rfl hl.1 rfl (lv_room (Nat.le_of_ble_eq_true rfl)) dX3_init_20 ⟨(Nat.le_of_ble_eq_true rfl), (Nat.le_of_ble_eq_true rfl)⟩) hW hA (fun M_11 H locs hp_10 hW => ?_)
  obtain ⟨g1, g3⟩ := hp_10
  have g4 : ∀ x, M_11 x = none → M_9 x = none := fun x h => by
    by_cases z : x = q_8
    · rw [z, g1] at h; cases h
    · rw [← g3 x z]; exact h
  have hb_12 : M_11 b = some (.inr (4, [.ref q_1, .null, .null])) := (g3 _ (fun z => by have h1 := hb_9; rw [z, hq_8_9] at h1; cases h1)).trans hb_9
  have hq_1_13 : M_11 q_1 = some (.inr (0, [.int (nI 0), .ref (G.2.2 0), .int (nI 0)])) := (g3 _ nq_1_q_8).trans hq_1_9
  have hq_8_14 : M_11 q_8 = some (.inr (0, [.int (nI 0), .ref (G.2.2 0), .int (nI 0)])) := g1
  have dM_11 : ∀ x, M_11 x = none → M x = none := fun x h => dM_9 x (g4 x h)
  have oM_11 : ∀ x, x ≠ q_1 → x ≠ b → x ≠ q_8 → M_11 x = M x := fun x k0 k1 k2 => (g3 x k2).trans (oM_9 x k0 k1 k2)
  refine W.eq (g2 := F0 m 23 ls [.ref q_8, .ref b]) rfl ?_
  refine mr_putF (ty := .object "java/util/ArrayList") (fs' := [.ref q_1, .ref q_8, .null]) hx hb hts hinX3 tyX3 tyX3_ok nmX3 hown hK hW hb_12 (by rfl) 1 (by decide) (hts (.fieldLink RX3 18 "SeaPost$Ship" "received" "Ljava/util/ArrayList;") (by decide +kernel)) (fun _ h => h) rfl hnm rfl (by decide +kernel) rfl rfl (Nat.le_of_ble_eq_true rfl) rfl dX3_init_23 (fun H locs hW => ?_)
  obtain ⟨M_15, eM_15⟩ : ∃ z : Mem, z = va_up M_11 b (some (.inr (4, [.ref q_1, .ref q_8, .null]))) := ⟨_, rfl⟩
  rw [← eM_15] at hW
  have hb_15 : M_15 b = some (.inr (4, [.ref q_1, .ref q_8, .null])) := by rw [eM_15]; exact if_pos rfl
  have hq_1_15 : M_15 q_1 = some (.inr (0, [.int (nI 0), .ref (G.2.2 0), .int (nI 0)])) := by rw [eM_15]; exact (if_neg (fun z => by have h1 := hq_1_13; rw [z, hb_12] at h1; cases h1)).trans hq_1_13
  have hq_8_15 : M_15 q_8 = some (.inr (0, [.int (nI 0), .ref (G.2.2 0), .int (nI 0)])) := by rw [eM_15]; exact (if_neg (fun z => by have h1 := hq_8_14; rw [z, hb_12] at h1; cases h1)).trans hq_8_14
  have dM_15 : ∀ x, M_15 x = none → M x = none := fun x h => dM_11 x (va_up_none (by rw [← eM_15]; exact h))
  have oM_15 : ∀ x, x ≠ q_1 → x ≠ b → x ≠ q_8 → M_15 x = M x := fun x k0 k1 k2 => by rw [eM_15]; exact (if_neg k1).trans (oM_11 x k0 k1 k2)
  refine lv_aload_n hx hb dX3_init_26 rfl (lv_at hl 0 rfl) ?_
  refine mr_new (fs := [.null, .null, .null, .int (nI 0), .int (nI 0), .int (nI 0)]) hx hb hts hinX2 tyX2 tyX2_ok hown (hts (.classLink RX3 21 RX2) (by decide +kernel)) (hts (.instantiable RX2 6) (by decide +kernel)) (hts (.initialized RX2) (by decide +kernel)) hK hW hA (ci := 3) (by rfl) (fun j hj => by match j, hj with | 0, _ => rfl | 1, _ => rfl | 2, _ => rfl | 3, _ => rfl | 4, _ => rfl | 5, _ => rfl) (Nat.le_of_ble_eq_true rfl) (Nat.le_of_ble_eq_true rfl) dX3_init_27 (fun q_16 H hq_16 hW => ?_)
  have fq_16 : M q_16 = none := dM_15 _ hq_16
  have nq_1_q_16 : q_1 ≠ q_16 := (fun z => by have h1 := hq_1_15; rw [z, hq_16] at h1; cases h1)
  have nq_8_q_16 : q_8 ≠ q_16 := (fun z => by have h1 := hq_8_15; rw [z, hq_16] at h1; cases h1)
  obtain ⟨M_17, eM_17⟩ : ∃ z : Mem, z = va_up M_15 q_16 (some (.inr (3, [.null, .null, .null, .int (nI 0), .int (nI 0), .int (nI 0)]))) := ⟨_, rfl⟩
  rw [← eM_17] at hW
  have hq_16_17 : M_17 q_16 = some (.inr (3, [.null, .null, .null, .int (nI 0), .int (nI 0), .int (nI 0)])) := by rw [eM_17]; exact if_pos rfl
  have hb_17 : M_17 b = some (.inr (4, [.ref q_1, .ref q_8, .null])) := by rw [eM_17]; exact (if_neg (fun z => by have h1 := hb_15; rw [z, hq_16] at h1; cases h1)).trans hb_15
  have hq_1_17 : M_17 q_1 = some (.inr (0, [.int (nI 0), .ref (G.2.2 0), .int (nI 0)])) := by rw [eM_17]; exact (if_neg (fun z => by have h1 := hq_1_15; rw [z, hq_16] at h1; cases h1)).trans hq_1_15
  have hq_8_17 : M_17 q_8 = some (.inr (0, [.int (nI 0), .ref (G.2.2 0), .int (nI 0)])) := by rw [eM_17]; exact (if_neg (fun z => by have h1 := hq_8_15; rw [z, hq_16] at h1; cases h1)).trans hq_8_15
  have dM_17 : ∀ x, M_17 x = none → M x = none := fun x h => dM_15 x (va_up_none (by rw [← eM_17]; exact h))
  have oM_17 : ∀ x, x ≠ q_1 → x ≠ b → x ≠ q_8 → x ≠ q_16 → M_17 x = M x := fun x k0 k1 k2 k3 => by rw [eM_17]; exact (if_neg k3).trans (oM_15 x k0 k1 k2)
  refine lv_dup hx hb dX3_init_30 rfl ?_
  refine mk_v (va_runIN (As := []) (nL := 1) ⟨hx, hb, hml, hown, hts⟩ (nRoute l G _ _ q_16 hq_16_17) ⟨va_cnB 0 hts gX3_init_X2_init_n23 rfl rfl rfl (hE.2.2.1 (RX3, 23, yX2_init) (by decide +kernel)) (hts (.initialized RX2) (by decide +kernel)) (by decide +kernel) ⟨(Nat.le_of_ble_eq_true rfl), (Nat.le_of_ble_eq_true rfl)⟩, rfl, hts (.instanceMethod yX2_init) (by decide +kernel)⟩ (mp_S hK hE hW hA) rfl rfl hl.1 rfl (lv_room (Nat.le_of_ble_eq_true rfl)) dX3_init_31 ⟨(Nat.le_of_ble_eq_true rfl), (Nat.le_of_ble_eq_true rfl)⟩) hW hA (fun M_19 H locs hp_18 hW => ?_)
  obtain ⟨q_20, q_21, q_22, hq_20, hq_21, hq_22, g1, g2, g5, g6, ⟨nq_20_q_21, nq_20_q_22, nq_21_q_22⟩, g3, g4⟩ := hp_18
  have fq_20 : M q_20 = none := dM_17 _ hq_20
  have fq_21 : M q_21 = none := dM_17 _ hq_21
  have fq_22 : M q_22 = none := dM_17 _ hq_22
  have hb_23 : M_19 b = some (.inr (4, [.ref q_1, .ref q_8, .null])) := (g3 _ (fun z => by have h1 := hb_17; rw [z, hq_16_17] at h1; cases h1) (fun z => by have h1 := hb_17; rw [z, hq_20] at h1; cases h1) (fun z => by have h1 := hb_17; rw [z, hq_21] at h1; cases h1) (fun z => by have h1 := hb_17; rw [z, hq_22] at h1; cases h1)).trans hb_17
  have hq_1_24 : M_19 q_1 = some (.inr (0, [.int (nI 0), .ref (G.2.2 0), .int (nI 0)])) := (g3 _ nq_1_q_16 (fun z => by have h1 := hq_1_17; rw [z, hq_20] at h1; cases h1) (fun z => by have h1 := hq_1_17; rw [z, hq_21] at h1; cases h1) (fun z => by have h1 := hq_1_17; rw [z, hq_22] at h1; cases h1)).trans hq_1_17
  have hq_8_25 : M_19 q_8 = some (.inr (0, [.int (nI 0), .ref (G.2.2 0), .int (nI 0)])) := (g3 _ nq_8_q_16 (fun z => by have h1 := hq_8_17; rw [z, hq_20] at h1; cases h1) (fun z => by have h1 := hq_8_17; rw [z, hq_21] at h1; cases h1) (fun z => by have h1 := hq_8_17; rw [z, hq_22] at h1; cases h1)).trans hq_8_17
  have hq_16_26 : M_19 q_16 = some (.inr (3, [.ref q_20, .ref q_21, .ref q_22, .int (nI 0), .int (nI 0), .int (nI 0)])) := g1
  have hq_20_27 : M_19 q_20 = some (eI (G.2.1 0) 6 (fun _ => 0)) := g2
  have hq_21_28 : M_19 q_21 = some (eI (G.2.1 0) 6 (fun _ => 0)) := g5
  have hq_22_29 : M_19 q_22 = some (eI (G.2.1 0) 6 (fun _ => 0)) := g6
  have dM_19 : ∀ x, M_19 x = none → M x = none := fun x h => dM_17 x (g4 x h)
  have oM_19 : ∀ x, x ≠ q_1 → x ≠ b → x ≠ q_8 → x ≠ q_16 → x ≠ q_20 → x ≠ q_21 → x ≠ q_22 → M_19 x = M x := fun x k0 k1 k2 k3 k4 k5 k6 => (g3 x k3 k4 k5 k6).trans (oM_17 x k0 k1 k2 k3)
  refine W.eq (g2 := F0 m 34 ls [.ref q_16, .ref b]) rfl ?_
  refine mr_put (ty := .object "SeaPost$Route") (fs' := [.ref q_1, .ref q_8, .ref q_16]) hx hb hts hinX3 tyX3 tyX3_ok nmX3 hown hK hW hb_23 (by rfl) 2 (by decide) (hts (.fieldLink RX3 24 "SeaPost$Ship" "draft" "LSeaPost$Route;") (by decide +kernel)) (fun _ h => h) rfl (by decide +kernel) rfl rfl (Nat.le_of_ble_eq_true rfl) rfl dX3_init_34 (fun H locs hW => ?_)
  obtain ⟨M_30, eM_30⟩ : ∃ z : Mem, z = va_up M_19 b (some (.inr (4, [.ref q_1, .ref q_8, .ref q_16]))) := ⟨_, rfl⟩
  rw [← eM_30] at hW
  have hb_30 : M_30 b = some (.inr (4, [.ref q_1, .ref q_8, .ref q_16])) := by rw [eM_30]; exact if_pos rfl
  have hq_1_30 : M_30 q_1 = some (.inr (0, [.int (nI 0), .ref (G.2.2 0), .int (nI 0)])) := by rw [eM_30]; exact (if_neg (fun z => by have h1 := hq_1_24; rw [z, hb_23] at h1; cases h1)).trans hq_1_24
  have hq_8_30 : M_30 q_8 = some (.inr (0, [.int (nI 0), .ref (G.2.2 0), .int (nI 0)])) := by rw [eM_30]; exact (if_neg (fun z => by have h1 := hq_8_25; rw [z, hb_23] at h1; cases h1)).trans hq_8_25
  have hq_16_30 : M_30 q_16 = some (.inr (3, [.ref q_20, .ref q_21, .ref q_22, .int (nI 0), .int (nI 0), .int (nI 0)])) := by rw [eM_30]; exact (if_neg (fun z => by have h1 := hq_16_26; rw [z, hb_23] at h1; cases h1)).trans hq_16_26
  have hq_20_30 : M_30 q_20 = some (eI (G.2.1 0) 6 (fun _ => 0)) := by rw [eM_30]; exact (if_neg (fun z => by have h1 := hq_20_27; rw [z, hb_23] at h1; cases h1)).trans hq_20_27
  have hq_21_30 : M_30 q_21 = some (eI (G.2.1 0) 6 (fun _ => 0)) := by rw [eM_30]; exact (if_neg (fun z => by have h1 := hq_21_28; rw [z, hb_23] at h1; cases h1)).trans hq_21_28
  have hq_22_30 : M_30 q_22 = some (eI (G.2.1 0) 6 (fun _ => 0)) := by rw [eM_30]; exact (if_neg (fun z => by have h1 := hq_22_29; rw [z, hb_23] at h1; cases h1)).trans hq_22_29
  have dM_30 : ∀ x, M_30 x = none → M x = none := fun x h => dM_19 x (va_up_none (by rw [← eM_30]; exact h))
  have oM_30 : ∀ x, x ≠ q_1 → x ≠ b → x ≠ q_8 → x ≠ q_16 → x ≠ q_20 → x ≠ q_21 → x ≠ q_22 → M_30 x = M x := fun x k0 k1 k2 k3 k4 k5 k6 => by rw [eM_30]; exact (if_neg k1).trans (oM_19 x k0 k1 k2 k3 k4 k5 k6)
  exact mr_vret hx hb hr hlk (Nat.le_of_ble_eq_true rfl) (Nat.le_of_ble_eq_true rfl) hW ⟨q_1, q_8, q_16, q_20, q_21, q_22, fq_1, fq_8, fq_16, fq_20, fq_21, fq_22, hb_30, hq_1_30, hq_8_30, hq_16_30, hq_20_30, hq_21_30, hq_22_30, ⟨nq_1_q_8, nq_20_q_21, nq_20_q_22, nq_21_q_22⟩, fun x k0 k1 k2 k3 k4 k5 k6 => oM_30 x k1 k0 k2 k3 k4 k5 k6, dM_30⟩ dX3_init_37

set_option maxHeartbeats 200000 in
set_option maxRecDepth 100000 in
theorem nPost (l : Launch) (G : mG) (M : Mem) (sz : Nat) (b : Nat) (hb0 : M b = some (.inr (5, [.null, .null, .null, .null, .int (nI 0), .int (nI 0)]))) : cMv l yX4_init wsX4_init 4 4 19 G M sz [.ref b] (fun M' => ∃ a : Nat, ∃ v : Nat, ∃ r : Nat, ∃ q : Nat, M a = none ∧ M v = none ∧ M r = none ∧ M q = none ∧ M' b = some (.inr (5, [.ref a, .ref v, .ref r, .ref q, .int (nI 0), .int (nI 0)])) ∧ M' a = some (.inr (0, [.int (nI 0), .ref (G.2.2 0), .int (nI 0)])) ∧ M' v = some (.inr (0, [.int (nI 0), .ref (G.2.2 0), .int (nI 0)])) ∧ M' r = some (.inr (0, [.int (nI 0), .ref (G.2.2 0), .int (nI 0)])) ∧ M' q = some (eI (G.2.1 0) 10 (fun _ => 0)) ∧ (a ≠ v ∧ a ≠ r ∧ v ≠ r) ∧ (∀ x, x ≠ b → x ≠ a → x ≠ v → x ≠ r → x ≠ q → M' x = M x) ∧ (∀ x, M' x = none → M x = none)) := by
  refine m_start cX4_init 1 none (by decide) rfl (Nat.le_of_ble_eq_true rfl) ?_
  intro p e s m below meth c ls hx hb hr hml hown hlk hnm hts hK hsz hE hW hl
  have hA := mA_A (M := M) hsz
  have hl : lv_has ls 1 [(0, .ref b)] := hl
  have hinX4 : ∀ w ∈ u_ws RX4 TX4 6, w ∈ wsX4_init := (fun _ h => List.mem_cons_of_mem _ (List.mem_append_right _ h))
  have hinJx4a65c : ∀ w ∈ u_ws RJx4a65c TJx4a65c 3, w ∈ wsX4_init := (fun _ h => List.mem_cons_of_mem _ (List.mem_append_left _ (List.mem_append_right _ h)))
  refine lv_aload_n hx hb dX4_init_0 rfl (lv_at hl 0 rfl) ?_
  refine W.objInit hx hb hown (hts (.methodLink RX4 1 objectInit) (by decide +kernel)) (hts (.instanceMethod objectInit) (by decide +kernel)) (hts (.code objectInit ⟨#[0xb1]⟩ 1 none) (by decide +kernel)) rfl (by rw [hml]; exact hl.1) rfl dX4_init_1 (Nat.le_of_ble_eq_true rfl) (Nat.le_of_ble_eq_true rfl) ?_
  refine W.eq (g2 := F0 m 4 ls []) rfl ?_
  refine lv_aload_n hx hb dX4_init_4 rfl (lv_at hl 0 rfl) ?_
  refine mr_new (fs := [.int (nI 0), .null, .int (nI 0)]) hx hb hts hinJx4a65c tyJx4a65c tyJx4a65c_ok hown (hts (.classLink RX4 7 RJx4a65c) (by decide +kernel)) (hts (.instantiable RJx4a65c 3) (by decide +kernel)) (hts (.initialized RJx4a65c) (by decide +kernel)) hK hW hA (ci := 0) (by rfl) (fun j hj => by match j, hj with | 0, _ => rfl | 1, _ => rfl | 2, _ => rfl) (Nat.le_of_ble_eq_true rfl) (Nat.le_of_ble_eq_true rfl) dX4_init_5 (fun q_1 H hq_1 hW => ?_)
  have fq_1 : M q_1 = none := hq_1
  obtain ⟨M_2, eM_2⟩ : ∃ z : Mem, z = va_up M q_1 (some (.inr (0, [.int (nI 0), .null, .int (nI 0)]))) := ⟨_, rfl⟩
  rw [← eM_2] at hW
  have hq_1_2 : M_2 q_1 = some (.inr (0, [.int (nI 0), .null, .int (nI 0)])) := by rw [eM_2]; exact if_pos rfl
  have hb_2 : M_2 b = some (.inr (5, [.null, .null, .null, .null, .int (nI 0), .int (nI 0)])) := by rw [eM_2]; exact (if_neg (fun z => by have h1 := hb0; rw [z, hq_1] at h1; cases h1)).trans hb0
  have dM_2 : ∀ x, M_2 x = none → M x = none := fun x h => (fun _ h => h) x (va_up_none (by rw [← eM_2]; exact h))
  have oM_2 : ∀ x, x ≠ q_1 → M_2 x = M x := fun x k0 => by rw [eM_2]; exact (if_neg k0).trans ((fun _ => rfl) x)
  refine lv_dup hx hb dX4_init_8 rfl ?_
  refine mk_v (va_runI (As := []) (nL := 1) ⟨hx, hb, hml, hown, hts⟩ (jInit l G _ _ q_1 hq_1_2) (cwI 0 hts gX4_init_Jx4a65c_init_da8c8 rfl rfl rfl (hts (.initialized RJx4a65c) (by decide +kernel)) (hts (.methodLink RX4 9 yJx4a65c_init_da8c8) (by decide +kernel)) (hts (.instanceMethod yJx4a65c_init_da8c8) (by decide +kernel)) rfl (by decide +kernel) ⟨(Nat.le_of_ble_eq_true rfl), (Nat.le_of_ble_eq_true rfl)⟩) (mp_S hK hE hW hA) rfl rfl hl.1 rfl (lv_room (Nat.le_of_ble_eq_true rfl)) dX4_init_9 ⟨(Nat.le_of_ble_eq_true rfl), (Nat.le_of_ble_eq_true rfl)⟩) hW hA (fun M_4 H locs hp_3 hW => ?_)
  obtain ⟨g1, g3⟩ := hp_3
  have g4 : ∀ x, M_4 x = none → M_2 x = none := fun x h => by
    by_cases z : x = q_1
    · rw [z, g1] at h; cases h
    · rw [← g3 x z]; exact h
  have hb_5 : M_4 b = some (.inr (5, [.null, .null, .null, .null, .int (nI 0), .int (nI 0)])) := (g3 _ (fun z => by have h1 := hb_2; rw [z, hq_1_2] at h1; cases h1)).trans hb_2
  have hq_1_6 : M_4 q_1 = some (.inr (0, [.int (nI 0), .ref (G.2.2 0), .int (nI 0)])) := g1
  have dM_4 : ∀ x, M_4 x = none → M x = none := fun x h => dM_2 x (g4 x h)
  have oM_4 : ∀ x, x ≠ q_1 → M_4 x = M x := fun x k0 => (g3 x k0).trans (oM_2 x k0)
  refine W.eq (g2 := F0 m 12 ls [.ref q_1, .ref b]) rfl ?_
  refine mr_putF (ty := .object "java/util/ArrayList") (fs' := [.ref q_1, .null, .null, .null, .int (nI 0), .int (nI 0)]) hx hb hts hinX4 tyX4 tyX4_ok nmX4 hown hK hW hb_5 (by rfl) 0 (by decide) (hts (.fieldLink RX4 10 "SeaPost" "fleet" "Ljava/util/ArrayList;") (by decide +kernel)) (fun _ h => h) rfl hnm rfl (by decide +kernel) rfl rfl (Nat.le_of_ble_eq_true rfl) rfl dX4_init_12 (fun H locs hW => ?_)
  obtain ⟨M_7, eM_7⟩ : ∃ z : Mem, z = va_up M_4 b (some (.inr (5, [.ref q_1, .null, .null, .null, .int (nI 0), .int (nI 0)]))) := ⟨_, rfl⟩
  rw [← eM_7] at hW
  have hb_7 : M_7 b = some (.inr (5, [.ref q_1, .null, .null, .null, .int (nI 0), .int (nI 0)])) := by rw [eM_7]; exact if_pos rfl
  have hq_1_7 : M_7 q_1 = some (.inr (0, [.int (nI 0), .ref (G.2.2 0), .int (nI 0)])) := by rw [eM_7]; exact (if_neg (fun z => by have h1 := hq_1_6; rw [z, hb_5] at h1; cases h1)).trans hq_1_6
  have dM_7 : ∀ x, M_7 x = none → M x = none := fun x h => dM_4 x (va_up_none (by rw [← eM_7]; exact h))
  have oM_7 : ∀ x, x ≠ q_1 → x ≠ b → M_7 x = M x := fun x k0 k1 => by rw [eM_7]; exact (if_neg k1).trans (oM_4 x k0)
  refine lv_aload_n hx hb dX4_init_15 rfl (lv_at hl 0 rfl) ?_
  refine mr_new (fs := [.int (nI 0), .null, .int (nI 0)]) hx hb hts hinJx4a65c tyJx4a65c tyJx4a65c_ok hown (hts (.classLink RX4 7 RJx4a65c) (by decide +kernel)) (hts (.instantiable RJx4a65c 3) (by decide +kernel)) (hts (.initialized RJx4a65c) (by decide +kernel)) hK hW hA (ci := 0) (by rfl) (fun j hj => by match j, hj with | 0, _ => rfl | 1, _ => rfl | 2, _ => rfl) (Nat.le_of_ble_eq_true rfl) (Nat.le_of_ble_eq_true rfl) dX4_init_16 (fun q_8 H hq_8 hW => ?_)
  have fq_8 : M q_8 = none := dM_7 _ hq_8
  have nq_1_q_8 : q_1 ≠ q_8 := (fun z => by have h1 := hq_1_7; rw [z, hq_8] at h1; cases h1)
  obtain ⟨M_9, eM_9⟩ : ∃ z : Mem, z = va_up M_7 q_8 (some (.inr (0, [.int (nI 0), .null, .int (nI 0)]))) := ⟨_, rfl⟩
  rw [← eM_9] at hW
  have hq_8_9 : M_9 q_8 = some (.inr (0, [.int (nI 0), .null, .int (nI 0)])) := by rw [eM_9]; exact if_pos rfl
  have hb_9 : M_9 b = some (.inr (5, [.ref q_1, .null, .null, .null, .int (nI 0), .int (nI 0)])) := by rw [eM_9]; exact (if_neg (fun z => by have h1 := hb_7; rw [z, hq_8] at h1; cases h1)).trans hb_7
  have hq_1_9 : M_9 q_1 = some (.inr (0, [.int (nI 0), .ref (G.2.2 0), .int (nI 0)])) := by rw [eM_9]; exact (if_neg (fun z => by have h1 := hq_1_7; rw [z, hq_8] at h1; cases h1)).trans hq_1_7
  have dM_9 : ∀ x, M_9 x = none → M x = none := fun x h => dM_7 x (va_up_none (by rw [← eM_9]; exact h))
  have oM_9 : ∀ x, x ≠ q_1 → x ≠ b → x ≠ q_8 → M_9 x = M x := fun x k0 k1 k2 => by rw [eM_9]; exact (if_neg k2).trans (oM_7 x k0 k1)
  refine lv_dup hx hb dX4_init_19 rfl ?_
  refine mk_v (va_runI (As := []) (nL := 1) ⟨hx, hb, hml, hown, hts⟩ (jInit l G _ _ q_8 hq_8_9) (cwI 0 hts gX4_init_Jx4a65c_init_da8c8 rfl rfl rfl (hts (.initialized RJx4a65c) (by decide +kernel)) (hts (.methodLink RX4 9 yJx4a65c_init_da8c8) (by decide +kernel)) (hts (.instanceMethod yJx4a65c_init_da8c8) (by decide +kernel)) rfl (by decide +kernel) ⟨(Nat.le_of_ble_eq_true rfl), (Nat.le_of_ble_eq_true rfl)⟩) (mp_S hK hE hW hA) rfl rfl hl.1 rfl (lv_room (Nat.le_of_ble_eq_true rfl)) dX4_init_20 ⟨(Nat.le_of_ble_eq_true rfl), (Nat.le_of_ble_eq_true rfl)⟩) hW hA (fun M_11 H locs hp_10 hW => ?_)
  obtain ⟨g1, g3⟩ := hp_10
  have g4 : ∀ x, M_11 x = none → M_9 x = none := fun x h => by
    by_cases z : x = q_8
    · rw [z, g1] at h; cases h
    · rw [← g3 x z]; exact h
  have hb_12 : M_11 b = some (.inr (5, [.ref q_1, .null, .null, .null, .int (nI 0), .int (nI 0)])) := (g3 _ (fun z => by have h1 := hb_9; rw [z, hq_8_9] at h1; cases h1)).trans hb_9
  have hq_1_13 : M_11 q_1 = some (.inr (0, [.int (nI 0), .ref (G.2.2 0), .int (nI 0)])) := (g3 _ nq_1_q_8).trans hq_1_9
  have hq_8_14 : M_11 q_8 = some (.inr (0, [.int (nI 0), .ref (G.2.2 0), .int (nI 0)])) := g1
  have dM_11 : ∀ x, M_11 x = none → M x = none := fun x h => dM_9 x (g4 x h)
  have oM_11 : ∀ x, x ≠ q_1 → x ≠ b → x ≠ q_8 → M_11 x = M x := fun x k0 k1 k2 => (g3 x k2).trans (oM_9 x k0 k1 k2)
  refine W.eq (g2 := F0 m 23 ls [.ref q_8, .ref b]) rfl ?_
  refine mr_putF (ty := .object "java/util/ArrayList") (fs' := [.ref q_1, .ref q_8, .null, .null, .int (nI 0), .int (nI 0)]) hx hb hts hinX4 tyX4 tyX4_ok nmX4 hown hK hW hb_12 (by rfl) 1 (by decide) (hts (.fieldLink RX4 16 "SeaPost" "mail" "Ljava/util/ArrayList;") (by decide +kernel)) (fun _ h => h) rfl hnm rfl (by decide +kernel) rfl rfl (Nat.le_of_ble_eq_true rfl) rfl dX4_init_23 (fun H locs hW => ?_)
  obtain ⟨M_15, eM_15⟩ : ∃ z : Mem, z = va_up M_11 b (some (.inr (5, [.ref q_1, .ref q_8, .null, .null, .int (nI 0), .int (nI 0)]))) := ⟨_, rfl⟩
  rw [← eM_15] at hW
  have hb_15 : M_15 b = some (.inr (5, [.ref q_1, .ref q_8, .null, .null, .int (nI 0), .int (nI 0)])) := by rw [eM_15]; exact if_pos rfl
  have hq_1_15 : M_15 q_1 = some (.inr (0, [.int (nI 0), .ref (G.2.2 0), .int (nI 0)])) := by rw [eM_15]; exact (if_neg (fun z => by have h1 := hq_1_13; rw [z, hb_12] at h1; cases h1)).trans hq_1_13
  have hq_8_15 : M_15 q_8 = some (.inr (0, [.int (nI 0), .ref (G.2.2 0), .int (nI 0)])) := by rw [eM_15]; exact (if_neg (fun z => by have h1 := hq_8_14; rw [z, hb_12] at h1; cases h1)).trans hq_8_14
  have dM_15 : ∀ x, M_15 x = none → M x = none := fun x h => dM_11 x (va_up_none (by rw [← eM_15]; exact h))
  have oM_15 : ∀ x, x ≠ q_1 → x ≠ b → x ≠ q_8 → M_15 x = M x := fun x k0 k1 k2 => by rw [eM_15]; exact (if_neg k1).trans (oM_11 x k0 k1 k2)
  refine lv_aload_n hx hb dX4_init_26 rfl (lv_at hl 0 rfl) ?_
  refine mr_new (fs := [.int (nI 0), .null, .int (nI 0)]) hx hb hts hinJx4a65c tyJx4a65c tyJx4a65c_ok hown (hts (.classLink RX4 7 RJx4a65c) (by decide +kernel)) (hts (.instantiable RJx4a65c 3) (by decide +kernel)) (hts (.initialized RJx4a65c) (by decide +kernel)) hK hW hA (ci := 0) (by rfl) (fun j hj => by match j, hj with | 0, _ => rfl | 1, _ => rfl | 2, _ => rfl) (Nat.le_of_ble_eq_true rfl) (Nat.le_of_ble_eq_true rfl) dX4_init_27 (fun q_16 H hq_16 hW => ?_)
  have fq_16 : M q_16 = none := dM_15 _ hq_16
  have nq_1_q_16 : q_1 ≠ q_16 := (fun z => by have h1 := hq_1_15; rw [z, hq_16] at h1; cases h1)
  have nq_8_q_16 : q_8 ≠ q_16 := (fun z => by have h1 := hq_8_15; rw [z, hq_16] at h1; cases h1)
  obtain ⟨M_17, eM_17⟩ : ∃ z : Mem, z = va_up M_15 q_16 (some (.inr (0, [.int (nI 0), .null, .int (nI 0)]))) := ⟨_, rfl⟩
  rw [← eM_17] at hW
  have hq_16_17 : M_17 q_16 = some (.inr (0, [.int (nI 0), .null, .int (nI 0)])) := by rw [eM_17]; exact if_pos rfl
  have hb_17 : M_17 b = some (.inr (5, [.ref q_1, .ref q_8, .null, .null, .int (nI 0), .int (nI 0)])) := by rw [eM_17]; exact (if_neg (fun z => by have h1 := hb_15; rw [z, hq_16] at h1; cases h1)).trans hb_15
  have hq_1_17 : M_17 q_1 = some (.inr (0, [.int (nI 0), .ref (G.2.2 0), .int (nI 0)])) := by rw [eM_17]; exact (if_neg (fun z => by have h1 := hq_1_15; rw [z, hq_16] at h1; cases h1)).trans hq_1_15
  have hq_8_17 : M_17 q_8 = some (.inr (0, [.int (nI 0), .ref (G.2.2 0), .int (nI 0)])) := by rw [eM_17]; exact (if_neg (fun z => by have h1 := hq_8_15; rw [z, hq_16] at h1; cases h1)).trans hq_8_15
  have dM_17 : ∀ x, M_17 x = none → M x = none := fun x h => dM_15 x (va_up_none (by rw [← eM_17]; exact h))
  have oM_17 : ∀ x, x ≠ q_1 → x ≠ b → x ≠ q_8 → x ≠ q_16 → M_17 x = M x := fun x k0 k1 k2 k3 => by rw [eM_17]; exact (if_neg k3).trans (oM_15 x k0 k1 k2)
  refine lv_dup hx hb dX4_init_30 rfl ?_
  refine mk_v (va_runI (As := []) (nL := 1) ⟨hx, hb, hml, hown, hts⟩ (jInit l G _ _ q_16 hq_16_17) (cwI 0 hts gX4_init_Jx4a65c_init_da8c8 rfl rfl rfl (hts (.initialized RJx4a65c) (by decide +kernel)) (hts (.methodLink RX4 9 yJx4a65c_init_da8c8) (by decide +kernel)) (hts (.instanceMethod yJx4a65c_init_da8c8) (by decide +kernel)) rfl (by decide +kernel) ⟨(Nat.le_of_ble_eq_true rfl), (Nat.le_of_ble_eq_true rfl)⟩) (mp_S hK hE hW hA) rfl rfl hl.1 rfl (lv_room (Nat.le_of_ble_eq_true rfl)) dX4_init_31 ⟨(Nat.le_of_ble_eq_true rfl), (Nat.le_of_ble_eq_true rfl)⟩) hW hA (fun M_19 H locs hp_18 hW => ?_)
  obtain ⟨g1, g3⟩ := hp_18
  have g4 : ∀ x, M_19 x = none → M_17 x = none := fun x h => by
    by_cases z : x = q_16
    · rw [z, g1] at h; cases h
    · rw [← g3 x z]; exact h
  have hb_20 : M_19 b = some (.inr (5, [.ref q_1, .ref q_8, .null, .null, .int (nI 0), .int (nI 0)])) := (g3 _ (fun z => by have h1 := hb_17; rw [z, hq_16_17] at h1; cases h1)).trans hb_17
  have hq_1_21 : M_19 q_1 = some (.inr (0, [.int (nI 0), .ref (G.2.2 0), .int (nI 0)])) := (g3 _ nq_1_q_16).trans hq_1_17
  have hq_8_22 : M_19 q_8 = some (.inr (0, [.int (nI 0), .ref (G.2.2 0), .int (nI 0)])) := (g3 _ nq_8_q_16).trans hq_8_17
  have hq_16_23 : M_19 q_16 = some (.inr (0, [.int (nI 0), .ref (G.2.2 0), .int (nI 0)])) := g1
  have dM_19 : ∀ x, M_19 x = none → M x = none := fun x h => dM_17 x (g4 x h)
  have oM_19 : ∀ x, x ≠ q_1 → x ≠ b → x ≠ q_8 → x ≠ q_16 → M_19 x = M x := fun x k0 k1 k2 k3 => (g3 x k3).trans (oM_17 x k0 k1 k2 k3)
  refine W.eq (g2 := F0 m 34 ls [.ref q_16, .ref b]) rfl ?_
  refine mr_putF (ty := .object "java/util/ArrayList") (fs' := [.ref q_1, .ref q_8, .ref q_16, .null, .int (nI 0), .int (nI 0)]) hx hb hts hinX4 tyX4 tyX4_ok nmX4 hown hK hW hb_20 (by rfl) 2 (by decide) (hts (.fieldLink RX4 19 "SeaPost" "deadMail" "Ljava/util/ArrayList;") (by decide +kernel)) (fun _ h => h) rfl hnm rfl (by decide +kernel) rfl rfl (Nat.le_of_ble_eq_true rfl) rfl dX4_init_34 (fun H locs hW => ?_)
  obtain ⟨M_24, eM_24⟩ : ∃ z : Mem, z = va_up M_19 b (some (.inr (5, [.ref q_1, .ref q_8, .ref q_16, .null, .int (nI 0), .int (nI 0)]))) := ⟨_, rfl⟩
  rw [← eM_24] at hW
  have hb_24 : M_24 b = some (.inr (5, [.ref q_1, .ref q_8, .ref q_16, .null, .int (nI 0), .int (nI 0)])) := by rw [eM_24]; exact if_pos rfl
  have hq_1_24 : M_24 q_1 = some (.inr (0, [.int (nI 0), .ref (G.2.2 0), .int (nI 0)])) := by rw [eM_24]; exact (if_neg (fun z => by have h1 := hq_1_21; rw [z, hb_20] at h1; cases h1)).trans hq_1_21
  have hq_8_24 : M_24 q_8 = some (.inr (0, [.int (nI 0), .ref (G.2.2 0), .int (nI 0)])) := by rw [eM_24]; exact (if_neg (fun z => by have h1 := hq_8_22; rw [z, hb_20] at h1; cases h1)).trans hq_8_22
  have hq_16_24 : M_24 q_16 = some (.inr (0, [.int (nI 0), .ref (G.2.2 0), .int (nI 0)])) := by rw [eM_24]; exact (if_neg (fun z => by have h1 := hq_16_23; rw [z, hb_20] at h1; cases h1)).trans hq_16_23
  have dM_24 : ∀ x, M_24 x = none → M x = none := fun x h => dM_19 x (va_up_none (by rw [← eM_24]; exact h))
  have oM_24 : ∀ x, x ≠ q_1 → x ≠ b → x ≠ q_8 → x ≠ q_16 → M_24 x = M x := fun x k0 k1 k2 k3 => by rw [eM_24]; exact (if_neg k1).trans (oM_19 x k0 k1 k2 k3)
  refine lv_aload_n hx hb dX4_init_37 rfl (lv_at hl 0 rfl) ?_
  refine lv_bipush (v := nI 10) hx hb dX4_init_38 (by decide) ?_
  refine mr_newI (N := 10) hx hb (hts (.arrayClass .int) (by decide +kernel)) hK hW hA 0 (by rfl) (by omega) (Nat.le_of_ble_eq_true rfl) (Nat.le_of_ble_eq_true rfl) dX4_init_40 (fun q_25 H hq_25 hW => ?_)
  have fq_25 : M q_25 = none := dM_24 _ hq_25
  have nq_1_q_25 : q_1 ≠ q_25 := (fun z => by have h1 := hq_1_24; rw [z, hq_25] at h1; cases h1)
  have nq_8_q_25 : q_8 ≠ q_25 := (fun z => by have h1 := hq_8_24; rw [z, hq_25] at h1; cases h1)
  have nq_16_q_25 : q_16 ≠ q_25 := (fun z => by have h1 := hq_16_24; rw [z, hq_25] at h1; cases h1)
  obtain ⟨M_26, eM_26⟩ : ∃ z : Mem, z = va_up M_24 q_25 (some (eI (G.2.1 0) 10 (fun _ => 0))) := ⟨_, rfl⟩
  rw [← eM_26] at hW
  have hq_25_26 : M_26 q_25 = some (eI (G.2.1 0) 10 (fun _ => 0)) := by rw [eM_26]; exact if_pos rfl
  have hb_26 : M_26 b = some (.inr (5, [.ref q_1, .ref q_8, .ref q_16, .null, .int (nI 0), .int (nI 0)])) := by rw [eM_26]; exact (if_neg (fun z => by have h1 := hb_24; rw [z, hq_25] at h1; cases h1)).trans hb_24
  have hq_1_26 : M_26 q_1 = some (.inr (0, [.int (nI 0), .ref (G.2.2 0), .int (nI 0)])) := by rw [eM_26]; exact (if_neg (fun z => by have h1 := hq_1_24; rw [z, hq_25] at h1; cases h1)).trans hq_1_24
  have hq_8_26 : M_26 q_8 = some (.inr (0, [.int (nI 0), .ref (G.2.2 0), .int (nI 0)])) := by rw [eM_26]; exact (if_neg (fun z => by have h1 := hq_8_24; rw [z, hq_25] at h1; cases h1)).trans hq_8_24
  have hq_16_26 : M_26 q_16 = some (.inr (0, [.int (nI 0), .ref (G.2.2 0), .int (nI 0)])) := by rw [eM_26]; exact (if_neg (fun z => by have h1 := hq_16_24; rw [z, hq_25] at h1; cases h1)).trans hq_16_24
  have dM_26 : ∀ x, M_26 x = none → M x = none := fun x h => dM_24 x (va_up_none (by rw [← eM_26]; exact h))
  have oM_26 : ∀ x, x ≠ q_1 → x ≠ b → x ≠ q_8 → x ≠ q_16 → x ≠ q_25 → M_26 x = M x := fun x k0 k1 k2 k3 k4 => by rw [eM_26]; exact (if_neg k4).trans (oM_24 x k0 k1 k2 k3)
  refine mr_putF (ty := .array .int) (fs' := [.ref q_1, .ref q_8, .ref q_16, .ref q_25, .int (nI 0), .int (nI 0)]) hx hb hts hinX4 tyX4 tyX4_ok nmX4 hown hK hW hb_26 (by rfl) 3 (by decide) (hts (.fieldLink RX4 22 "SeaPost" "opensOn" "[I") (by decide +kernel)) (fun _ h => h) rfl hnm rfl (by decide +kernel) rfl rfl (Nat.le_of_ble_eq_true rfl) rfl dX4_init_42 (fun H locs hW => ?_)
  obtain ⟨M_27, eM_27⟩ : ∃ z : Mem, z = va_up M_26 b (some (.inr (5, [.ref q_1, .ref q_8, .ref q_16, .ref q_25, .int (nI 0), .int (nI 0)]))) := ⟨_, rfl⟩
  rw [← eM_27] at hW
  have hb_27 : M_27 b = some (.inr (5, [.ref q_1, .ref q_8, .ref q_16, .ref q_25, .int (nI 0), .int (nI 0)])) := by rw [eM_27]; exact if_pos rfl
  have hq_25_27 : M_27 q_25 = some (eI (G.2.1 0) 10 (fun _ => 0)) := by rw [eM_27]; exact (if_neg (fun z => by have h1 := hq_25_26; rw [z, hb_26] at h1; cases h1)).trans hq_25_26
  have hq_1_27 : M_27 q_1 = some (.inr (0, [.int (nI 0), .ref (G.2.2 0), .int (nI 0)])) := by rw [eM_27]; exact (if_neg (fun z => by have h1 := hq_1_26; rw [z, hb_26] at h1; cases h1)).trans hq_1_26
  have hq_8_27 : M_27 q_8 = some (.inr (0, [.int (nI 0), .ref (G.2.2 0), .int (nI 0)])) := by rw [eM_27]; exact (if_neg (fun z => by have h1 := hq_8_26; rw [z, hb_26] at h1; cases h1)).trans hq_8_26
  have hq_16_27 : M_27 q_16 = some (.inr (0, [.int (nI 0), .ref (G.2.2 0), .int (nI 0)])) := by rw [eM_27]; exact (if_neg (fun z => by have h1 := hq_16_26; rw [z, hb_26] at h1; cases h1)).trans hq_16_26
  have dM_27 : ∀ x, M_27 x = none → M x = none := fun x h => dM_26 x (va_up_none (by rw [← eM_27]; exact h))
  have oM_27 : ∀ x, x ≠ q_1 → x ≠ b → x ≠ q_8 → x ≠ q_16 → x ≠ q_25 → M_27 x = M x := fun x k0 k1 k2 k3 k4 => by rw [eM_27]; exact (if_neg k1).trans (oM_26 x k0 k1 k2 k3 k4)
  exact mr_vret hx hb hr hlk (Nat.le_of_ble_eq_true rfl) (Nat.le_of_ble_eq_true rfl) hW ⟨q_1, q_8, q_16, q_25, fq_1, fq_8, fq_16, fq_25, hb_27, hq_1_27, hq_8_27, hq_16_27, hq_25_27, ⟨nq_1_q_8, nq_1_q_16, nq_8_q_16⟩, fun x k0 k1 k2 k3 k4 => oM_27 x k1 k0 k2 k3 k4, dM_27⟩ dX4_init_45
