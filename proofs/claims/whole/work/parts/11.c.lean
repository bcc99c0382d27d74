/-! THE CLASS: searches (mine; the rows are laid by wip/whole/gen) -/
def dn : Nat → Nat
  | 0 => 4294967295
  | m + 1 => m
theorem nI_dec (m : Nat) : nI m + Int32.ofInt (-1) = nI (dn m) := by
  cases m with
  | zero => decide
  | succ m =>
    rw [show (Int32.ofInt (-1)) = - nI 1 by decide]
    exact (Int32.sub_eq_add_neg ..).symm.trans (pk_sub (a := m + 1) (b := 1) (by omega))
theorem nI_dn (m : Nat) : nI m - nI 1 = nI (dn m) := by
  cases m with
  | zero => decide
  | succ m => exact pk_sub (a := m + 1) (b := 1) (by omega)
section LPD
variable {p : Program} {l : Launch} {e : Env} {R : Room} {s : State} {m : MethodId} {args : Array Value} {below : List Frame} {meth : Method} {c : Code} {H : Heap} {locs : List Loc} {cells slots : Nat} {Q : State → Prop}
variable {pc : Nat} {ls : Array Slot}
theorem m_loopD (N : Nat) (I : Nat → Heap → List Loc → Array Slot → Prop) (h0 : I N H locs ls)
    (step : ∀ (n : Nat) (H : Heap) (locs : List Loc) (ls : Array Slot), I n H locs ls → (∀ (H' : Heap) (locs' : List Loc) (ls' : Array Slot) (n' : Nat), n = n' + 1 → I n' H' locs' ls' → W p l e R s m args below meth c H' locs' cells slots Q (F0 m pc ls' [])) → W p l e R s m args below meth c H locs cells slots Q (F0 m pc ls [])) :
    W p l e R s m args below meth c H locs cells slots Q (F0 m pc ls []) := by
  have key : ∀ (n : Nat) (H : Heap) (locs : List Loc) (ls : Array Slot), I n H locs ls → W p l e R s m args below meth c H locs cells slots Q (F0 m pc ls []) := by
    intro n
    induction n with
    | zero => intro H locs ls h; exact step 0 H locs ls h (fun _ _ _ _ h => by omega)
    | succ n ih => exact fun H locs ls h => step (n + 1) H locs ls h (fun H' locs' ls' n' hn h' => ih H' locs' ls' ((Nat.succ.inj hn).symm ▸ h'))
  exact key N H locs ls h0
end LPD
theorem wdd_le9 {a b : Nat} (ha : a ≤ 9) (hb : b < 10) : wdd a b ≤ 3 := by
  unfold wdd dist
  split
  · omega
  · split <;> omega
theorem isL_t {ς : Sg} {s : Nat} (h : s < ς 33 0) : isL ς (10 + s) := Or.inr (Or.inl ⟨by omega, by omega⟩)
theorem isL_r {ς : Sg} {s : Nat} (h : s < ς 33 0) : isL ς (20 + s) := Or.inr (Or.inr ⟨by omega, by omega⟩)
theorem isR_of {ς : Sg} {s j : Nat} (h : s < ς 33 0) (hj : j < ς 30 (10 + s)) (h21 : j < 21) : isR ς (21 * s + j) := by
  have e1 : (21 * s + j) / 21 = s := by omega
  have e2 : (21 * s + j) % 21 = j := by omega
  unfold isR
  rw [e1, e2]
  exact ⟨h, Or.inl hj⟩
theorem kGetT (l : Launch) (G : mG) (N : Mem) (Γ : Adr) (ς : Sg) (s j : Nat) (hs : s < ς 33 0) (h8 : ς 33 0 ≤ 8) (hj : j < ς 30 (10 + s)) (M : Mem) (sz : Nat) (hR : Rp G N Γ ς M) : cMq l yJx4a65c_get_915e3 wsJx4a65c_get_915e3 2 0 0 G M sz [.ref (Γ 2 (10 + s)), .int (nI j)] (fun r M' => r = some (Γ 5 (21 * s + j)) ∧ M' = M) := by
  have h := kGet l G N Γ ς (10 + s) j (isL_t hs) hj M sz hR
  have e1 : elk (10 + s) = 5 := by unfold elk; rw [if_neg (by omega), if_pos (by omega)]
  have e2 : eli ς (10 + s) j = 21 * s + j := by unfold eli; rw [if_neg (by omega), if_pos (by omega)]; omega
  rw [e1, e2] at h
  exact h
theorem kGetR (l : Launch) (G : mG) (N : Mem) (Γ : Adr) (ς : Sg) (s j : Nat) (hs : s < ς 33 0) (hj : j < ς 30 (20 + s)) (M : Mem) (sz : Nat) (hR : Rp G N Γ ς M) : cMq l yJx4a65c_get_915e3 wsJx4a65c_get_915e3 2 0 0 G M sz [.ref (Γ 2 (20 + s)), .int (nI j)] (fun r M' => r = some (Γ 9 (ς 31 (64 * (20 + s) + j))) ∧ M' = M) := by
  have h := kGet l G N Γ ς (20 + s) j (isL_r hs) hj M sz hR
  have e1 : elk (20 + s) = 9 := by unfold elk; rw [if_neg (by omega), if_neg (by omega)]
  have e2 : eli ς (20 + s) j = ς 31 (64 * (20 + s) + j) := by unfold eli; rw [if_neg (by omega), if_neg (by omega)]
  rw [e1, e2] at h
  exact h
theorem kGetF (l : Launch) (G : mG) (N : Mem) (Γ : Adr) (ς : Sg) (j : Nat) (hj : j < ς 30 0) (M : Mem) (sz : Nat) (hR : Rp G N Γ ς M) : cMq l yJx4a65c_get_915e3 wsJx4a65c_get_915e3 2 0 0 G M sz [.ref (Γ 2 0), .int (nI j)] (fun r M' => r = some (Γ 4 j) ∧ M' = M) := kGet l G N Γ ς 0 j (Or.inl (by omega)) hj M sz hR
theorem kGetM (l : Launch) (G : mG) (N : Mem) (Γ : Adr) (ς : Sg) (j : Nat) (hj : j < ς 30 1) (M : Mem) (sz : Nat) (hR : Rp G N Γ ς M) : cMq l yJx4a65c_get_915e3 wsJx4a65c_get_915e3 2 0 0 G M sz [.ref (Γ 2 1), .int (nI j)] (fun r M' => r = some (Γ 9 j) ∧ M' = M) := kGet l G N Γ ς 1 j (Or.inl (by omega)) hj M sz hR
theorem kGetD (l : Launch) (G : mG) (N : Mem) (Γ : Adr) (ς : Sg) (j : Nat) (hj : j < ς 30 2) (M : Mem) (sz : Nat) (hR : Rp G N Γ ς M) : cMq l yJx4a65c_get_915e3 wsJx4a65c_get_915e3 2 0 0 G M sz [.ref (Γ 2 2), .int (nI j)] (fun r M' => r = some (Γ 9 (ς 31 (128 + j))) ∧ M' = M) := kGet l G N Γ ς 2 j (Or.inl (by omega)) hj M sz hR

set_option maxHeartbeats 4000000 in
set_option maxRecDepth 100000 in
theorem kWordIn (l : Launch) (G : mG) (N : Mem) (Γ : Adr) (ς : Sg) (u q : Nat) (hs : u < ς 33 0) (h8 : ς 33 0 ≤ 8) (hq : q < 10) (hn : ς 30 (10 + u) ≤ 20) (h12 : ∀ r, r < 168 → ς 1 r ≤ 9 ∧ ς 2 r ≤ 1000) (hd : ς 24 0 ≤ 1000) (M : Mem) (sz : Nat) (hR : Rp G N Γ ς M) : cMi l yX3_wordIn wsX3_wordIn 3 0 0 G M sz [.ref (Γ 4 u), .int (nI q), .int (nI (ς 24 0))] (fun y9 M' => y9 = nI (woF ς q u (ς 30 (10 + u))) ∧ M' = M) := by
  refine m_start cX3_wordIn 5 (some .int) (by decide) rfl (Nat.le_of_ble_eq_true rfl) ?_
  intro p e s m below meth c ls hx hb hr hml hown hlk hnm hts hK hsz hE hW hl
  have hA := mA_A (M := M) hsz
  have hl : lv_has ls 5 [(0, .ref (Γ 4 u)), (1, .int (nI q)), (2, .int (nI (ς 24 0)))] := hl
  have hinX2 : ∀ w ∈ u_ws RX2 TX2 6, w ∈ wsX3_wordIn := (fun _ h => List.mem_cons_of_mem _ (List.mem_append_left _ (List.mem_append_right _ h)))
  have hinX3 : ∀ w ∈ u_ws RX3 TX3 3, w ∈ wsX3_wordIn := (fun _ h => List.mem_cons_of_mem _ (List.mem_append_left _ (List.mem_append_left _ (List.mem_append_right _ h))))
  have hinJx4a65c : ∀ w ∈ u_ws RJx4a65c TJx4a65c 3, w ∈ wsX3_wordIn := (fun _ h => List.mem_cons_of_mem _ (List.mem_append_right _ h))
  refine lv_aload_n hx hb dX3_wordIn_0 rfl (lv_at hl 0 rfl) ?_
  refine mr_get hx hb hts hinX3 hown hK hW (hR.o4 (i := u) hs) (by rfl) 0 (by decide) (hts (.fieldLink RX3 12 "SeaPost$Ship" "told" "Ljava/util/ArrayList;") (by decide +kernel)) (fun _ h => h) rfl dX3_wordIn_1 ?_
  obtain ⟨z_1m, z_1a, z_1f, z_1, -, -⟩ := hR.o2 (x := 10 + u) (isL_t hs)
  refine mk_i (va_runV (As := []) (nL := 5) ⟨hx, hb, hml, hown, hts⟩ (kSize l G N Γ ς (10 + u) (isL_t hs) _ _ hR) (cwV 0 hts gX3_wordIn_Jx4a65c_size_8abf5 rfl rfl rfl (by decide +kernel) ⟨(Nat.le_of_ble_eq_true rfl), (Nat.le_of_ble_eq_true rfl)⟩) (mp_V hK hE hW hA (mW_recv hK hW.1 z_1 (by rfl))) rfl rfl hl.1 rfl (lv_room (Nat.le_of_ble_eq_true rfl)) dX3_wordIn_4 ⟨(Nat.le_of_ble_eq_true rfl), (Nat.le_of_ble_eq_true rfl)⟩) hW hA (fun r9 M9 H locs hp_2 hW => ?_)
  obtain ⟨e91, e92⟩ := hp_2
  subst e91
  rw [e92] at hW
  clear e92
  refine W.eq (g2 := F0 m 7 ls [.int (nI (ς 30 (10 + u)))]) rfl ?_
  refine lv_iconst (v := nI 1) hx hb dX3_wordIn_7 (by decide) ?_
  refine lv_isub hx hb dX3_wordIn_8 (lv_tope (nI_dn (ς 30 (10 + u))) ?_)
  refine lv_istore_n (lv' := [(3, .int (nI (dn (ς 30 (10 + u))))), (0, .ref (Γ 4 u)), (1, .int (nI q)), (2, .int (nI (ς 24 0)))]) hx hb dX3_wordIn_9 rfl hl (by decide) rfl (fun ls hl => ?_)
  refine m_loopD (ς 30 (10 + u)) (fun j H locs ls => mW G.1 vwCl (mA M sz) s.heap M H locs ∧ lv_has ls 5 [(3, .int (nI (dn j))), (0, .ref (Γ 4 u)), (1, .int (nI q)), (2, .int (nI (ς 24 0)))] ∧ woF ς q u (ς 30 (10 + u)) = woF ς q u j ∧ j ≤ ς 30 (10 + u)) ⟨hW, lv_sub hl [0, 1, 2, 3] rfl, rfl, by omega⟩ (fun j H locs ls hI ih => ?_)
  obtain ⟨hW, hl, hF, hm⟩ := hI
  rcases j with _ | j
  · skip
    have hl : lv_has ls 5 [(3, .int (nI 4294967295)), (0, .ref (Γ 4 u)), (1, .int (nI q)), (2, .int (nI (ς 24 0)))] := hl
    refine lv_iload_n hx hb dX3_wordIn_10 rfl (lv_at hl 0 rfl) ?_
    refine lv_if_lt (tgt := 54) hx hb dX3_wordIn_11 (by decide) (fun _ => ?_) (fun z => absurd (by decide) z)
    refine lv_iconst (v := nI 4294967295) hx hb dX3_wordIn_54 (by decide) ?_
    exact mr_iret hx hb hr hlk (Nat.le_of_ble_eq_true rfl) (Nat.le_of_ble_eq_true rfl) hW ⟨congrArg nI hF.symm, rfl⟩ dX3_wordIn_55
  · skip
    have hl : lv_has ls 5 [(3, .int (nI j)), (0, .ref (Γ 4 u)), (1, .int (nI q)), (2, .int (nI (ς 24 0)))] := hl
    have hr9 := h12 (21 * u + j) (by omega)
    have hw9 := wdd_le9 hr9.1 hq
    have hisR : isR ς (21 * u + j) := isR_of hs (by omega) (by omega)
    refine lv_iload_n hx hb dX3_wordIn_10 rfl (lv_at hl 0 rfl) ?_
    refine nv_if_lt (tgt := 54) hx hb dX3_wordIn_11 (by decide) (by omega) (fun z => (by omega : False).elim) (fun _ => ?_)
    refine lv_aload_n hx hb dX3_wordIn_14 rfl (lv_at hl 1 rfl) ?_
    refine mr_get hx hb hts hinX3 hown hK hW (hR.o4 (i := u) hs) (by rfl) 0 (by decide) (hts (.fieldLink RX3 12 "SeaPost$Ship" "told" "Ljava/util/ArrayList;") (by decide +kernel)) (fun _ h => h) rfl dX3_wordIn_15 ?_
    refine lv_iload_n hx hb dX3_wordIn_18 rfl (lv_at hl 0 rfl) ?_
    obtain ⟨z_3m, z_3a, z_3f, z_3, -, -⟩ := hR.o2 (x := 10 + u) (isL_t hs)
    refine mk_q (va_runV (As := [.int (nI j)]) (nL := 5) ⟨hx, hb, hml, hown, hts⟩ (kGetT l G N Γ ς u j hs h8 (by omega) _ _ hR) (cwV 1 hts gX3_wordIn_Jx4a65c_get_915e3 rfl rfl rfl (by decide +kernel) ⟨(Nat.le_of_ble_eq_true rfl), (Nat.le_of_ble_eq_true rfl)⟩) (mp_V hK hE hW hA (mW_recv hK hW.1 z_3 (by rfl))) rfl rfl hl.1 rfl (lv_room (Nat.le_of_ble_eq_true rfl)) dX3_wordIn_19 ⟨(Nat.le_of_ble_eq_true rfl), (Nat.le_of_ble_eq_true rfl)⟩) hW hA (fun r9 M9 H locs hp_4 hW => ?_)
    obtain ⟨e91, e92⟩ := hp_4
    subst e91
    rw [e92] at hW
    clear e92
    refine W.eq (g2 := F0 m 22 ls [.ref (Γ 5 (21 * u + j))]) rfl ?_
    refine va_castS hx hb hown (hts (.classLink RX3 21 RX2) (by decide +kernel)) (hK.1 3 _ rfl).2 (mW_recv hK hW.1 (hR.o5 (i := 21 * u + j) hisR) (by rfl)) dX3_wordIn_22 ?_
    refine lv_astore (lv' := [(4, .ref (Γ 5 (21 * u + j))), (3, .int (nI j)), (0, .ref (Γ 4 u)), (1, .int (nI q)), (2, .int (nI (ς 24 0)))]) hx hb dX3_wordIn_25 hl (by decide) rfl (fun ls hl => ?_)
    refine lv_aload hx hb dX3_wordIn_27 (lv_at hl 0 rfl) ?_
    refine mr_get hx hb hts hinX2 hown hK hW (hR.o5 (i := 21 * u + j) hisR) (by rfl) 5 (by decide) (hts (.fieldLink RX3 32 "SeaPost$Route" "toldOn" "I") (by decide +kernel)) (fun _ h => h) rfl dX3_wordIn_29 ?_
    refine lv_aload hx hb dX3_wordIn_32 (lv_at hl 0 rfl) ?_
    refine mr_get hx hb hts hinX2 hown hK hW (hR.o5 (i := 21 * u + j) hisR) (by rfl) 4 (by decide) (hts (.fieldLink RX3 28 "SeaPost$Route" "toldAt" "I") (by decide +kernel)) (fun _ h => h) rfl dX3_wordIn_34 ?_
    refine lv_iload_n hx hb dX3_wordIn_37 rfl (lv_at hl 3 rfl) ?_
    refine mk_i (va_runSN (As := [.int (nI (ς 1 (21 * u + j))), .int (nI q)]) (nL := 5) ⟨hx, hb, hml, hown, hts⟩ (@kWord l G (ς 1 (21 * u + j)) q (by omega) hq _ _ ) ⟨va_cnB 2 hts gX3_wordIn_X4_wordDays_n51 rfl rfl rfl (hE.2.2.1 (RX3, 51, yX4_wordDays) (by decide +kernel)) (hts (.initialized RX4) (by decide +kernel)) (by decide +kernel) ⟨(Nat.le_of_ble_eq_true rfl), (Nat.le_of_ble_eq_true rfl)⟩, hts (.static yX4_wordDays) (by decide +kernel), trivial⟩ (mp_S hK hE hW hA) rfl rfl hl.1 rfl (lv_room (Nat.le_of_ble_eq_true rfl)) dX3_wordIn_38 ⟨(Nat.le_of_ble_eq_true rfl), (Nat.le_of_ble_eq_true rfl)⟩) hW hA (fun r9 M9 H locs hp_5 hW => ?_)
    obtain ⟨e91, e92⟩ := hp_5
    subst e91
    rw [e92] at hW
    clear e92
    refine W.eq (g2 := F0 m 41 ls [.int (nI (wdd (ς 1 (21 * u + j)) q)), .int (nI (ς 2 (21 * u + j)))]) rfl ?_
    refine lv_iadd hx hb dX3_wordIn_41 (lv_tope (nI_add (ς 2 (21 * u + j)) (wdd (ς 1 (21 * u + j)) q)) ?_)
    refine lv_iload_n hx hb dX3_wordIn_42 rfl (lv_at hl 4 rfl) ?_
    refine nv_icmp_gt (u := ς 2 (21 * u + j) + (wdd (ς 1 (21 * u + j)) q)) (v := ς 24 0) (tgt := 48) hx hb dX3_wordIn_43 (by decide) (by omega) (by omega) (fun c_6 => ?_) (fun c_6 => ?_)
    · skip
      refine lv_iinc (v := nI (dn j)) (lv' := [(3, .int (nI (dn j))), (4, .ref (Γ 5 (21 * u + j))), (0, .ref (Γ 4 u)), (1, .int (nI q)), (2, .int (nI (ς 24 0)))]) hx hb dX3_wordIn_48 hl (k := 1) rfl (nI_dec j) (by decide) rfl (fun ls hl => ?_)
      refine lv_goto (tgt := 10) hx hb dX3_wordIn_51 (by decide) ?_
      exact ih _ _ _ j rfl ⟨hW, lv_sub hl [0, 2, 3, 4] rfl, hF.trans (if_neg (by omega)), by omega⟩
    · skip
      refine lv_iload_n hx hb dX3_wordIn_46 rfl (lv_at hl 1 rfl) ?_
      exact mr_iret hx hb hr hlk (Nat.le_of_ble_eq_true rfl) (Nat.le_of_ble_eq_true rfl) hW ⟨congrArg nI (hF.trans (if_pos (by omega))).symm, rfl⟩ dX3_wordIn_47
