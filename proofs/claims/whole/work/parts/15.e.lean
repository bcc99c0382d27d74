/-! THE LAW: more of its cases (mine; laid by wip/whole/gen) -/
set_option maxHeartbeats 4000000 in
set_option maxRecDepth 100000 in
theorem g_pass {p : Program} {l : Launch} {e : Env} {s : State} {m : MethodId} {below : List Frame} {meth : Method} {c : Code} {H : Heap} {locs : List Loc} {cells slots : Nat} {Q : State → Prop} {b L : Nat} {xs : Nat → Int32} {ls : Array Slot} {G : mG} (B : gB p l s m c b L xs G) {k : Nat} (hk : 5 * k + 5 ≤ L) {a1 o : Nat} {ad : Nat → Nat} (hJ : gJ G s a1 ad o H locs) (hl : lv_has ls 7 (gLv b a1 (ad 0) o (nI (5 * k)))) (hc : cells + 47 ≤ 601024) (hs : slots + 3000 ≤ 7293034)
    (kk : ∀ (H : Heap) (locs : List Loc) (ls : Array Slot), gJ G s a1 ad o H locs → lv_has ls 7 (gLv b a1 (ad 0) o (nI (5 * k))) → W p l e room_1 s m #[Value.ref b] below meth c H locs (cells + 47) (slots + 3000) Q (F0 m 1593 ls [])) : W p l e room_1 s m #[Value.ref b] below meth c H locs cells slots Q (F0 m 803 ls []) := by
  obtain ⟨hx, hb, hml, hown, hts, hX, hbl, hK, hE, hN, hL, hst⟩ := id B
  obtain ⟨M, N, Γ, σ, ρ, f, hI, h00, hW⟩ := hJ
  obtain ⟨u1, hu1, eu1⟩ := nU_of (xs (5 * k + 1))
  subst h00
  have hA : ∀ q, s.heap.size ≤ q → gA s q := fun _ h => h
  have hB : RB σ := hI.1.1.1.b
  obtain ⟨⟨b0, b8, b24⟩, b7, b3, b12, b45, -⟩ := id hB
  refine lv_aload_n hx hb dL_law_803 rfl (lv_at hl 1 rfl) ?_
  refine g_arg (j := 1) hx hb hX hbl hW.2.1 hL hk (by decide) (by decide) eu1 (lv_sub hl [0, 4] rfl) dL_law_804 dL_law_805 dL_law_807 dL_law_808 dL_law_809 ?_
  refine lv_aload_n hx hb dL_law_810 rfl (lv_at hl 3 rfl) ?_
  refine mk_w (vx_runSX (As := [.ref (Γ 0 0), .int (nI u1), .ref o]) (rest := []) (nL := 7) ⟨hx, hb, hml, hown, hts⟩ (l_pass l hst G N Γ (st σ 25 0 0) ρ u1 hu1 hI.1.x25 o f hI.2.2.2.1 M H.size (by rw [cs_25]; exact hI.2.1)) (vx_cwSW 3 hts gL_law_L_pass rfl rfl rfl (by decide +kernel) ⟨(Nat.le_of_ble_eq_true rfl), (Nat.le_of_ble_eq_true rfl)⟩) (wp_S hK hE hN hW hA) rfl rfl hl.1 rfl (lv_room (Nat.le_of_ble_eq_true rfl)) dL_law_811 ⟨(show cells + 47 ≤ 601024 by omega), (show slots + 3000 ≤ 7293034 by omega)⟩) hW hA (fun r1 M1 H locs hp hW => ?_)
  have hp : wEnd G N Γ o f (thD σ u1) (dyN (st σ 25 0 0) u1 22 0 + 4294967296 - σ 22 0) (dyN (st σ 25 0 0) u1) M r1 M1 := hp
  obtain ⟨hr1, hA1, hst2⟩ := hI.step hp (fun z => ((dyN_ok hI.1.1.x25 u1 (thD_0 z)).2.2.2.2 0).trans st_s)
  subst hr1
  refine lv_istore (lv' := [(5, .int (nI (thD σ u1))), (0, .ref b), (1, .ref (Γ 0 0)), (2, .ref (ad 0)), (3, .ref o), (4, .int (nI (5 * k)))]) hx hb dL_law_814 hl (by decide) rfl (fun ls hl => ?_)
  refine lv_aload_n hx hb dL_law_816 rfl (lv_at hl 3 rfl) ?_
  refine g_arg (j := 1) hx hb hX hbl hW.2.1 hL hk (by decide) (by decide) eu1 (lv_sub hl [1, 5] rfl) dL_law_817 dL_law_818 dL_law_820 dL_law_821 dL_law_822 ?_
  refine mk_i (va_runV (As := [.int (nI u1)]) (rest := []) (nL := 7) ⟨hx, hb, hml, hown, hts⟩ (c5_pass l G ad σ u1 hu1 hI.1.1 M1 H.size hA1) (cwV 1 hts gL_law_X5_pass rfl rfl rfl (by decide +kernel) ⟨(Nat.le_of_ble_eq_true rfl), (Nat.le_of_ble_eq_true rfl)⟩) (mp_V hK hE hW hA (mW_recv hK hW.1 (hA1.1 0 (by decide)) (by rfl))) rfl rfl hl.1 rfl (lv_room (Nat.le_of_ble_eq_true rfl)) dL_law_823 ⟨(show cells + 47 + 0 ≤ 601024 by omega), (show slots + 3000 + 0 ≤ 7293034 by omega)⟩) hW hA (fun r2 M2 H locs hp hW => ?_)
  obtain ⟨σ2, hp1, hA2, hF2⟩ := hp
  obtain ⟨h25, N2, Γ2, ρ2, f2, hI2, h002, h0⟩ := hst2 r2 σ2 M2 hp1 hA2 hF2
  exact g_tail (a1 := Γ 0 0) (i4 := nI (5 * k)) B hW hI2 h25 (by unfold thD; (repeat' split) <;> omega) h0 hl dL_law_826 dL_law_828 dL_law_829 dL_law_832 dL_law_834 dL_law_839 dL_law_841 dL_law_844 dL_law_845 dL_law_846 dL_law_847 dL_law_849 dL_law_850 dL_law_851 dL_law_856 (by decide) (show cells + 47 + 0 ≤ 601024 by omega) (show slots + 3000 + 0 ≤ 7293034 by omega) (fun H locs ls M N hW hI hl => W.widen (k := cells + 47) (n := slots + 3000) (by omega) (by omega) (kk H locs ls ⟨M, N, Γ2, σ2, ρ2, f2, hI, h002, hW⟩ hl))

set_option maxHeartbeats 4000000 in
set_option maxRecDepth 100000 in
theorem g_state {p : Program} {l : Launch} {e : Env} {s : State} {m : MethodId} {below : List Frame} {meth : Method} {c : Code} {H : Heap} {locs : List Loc} {cells slots : Nat} {Q : State → Prop} {b L : Nat} {xs : Nat → Int32} {ls : Array Slot} {G : mG} (B : gB p l s m c b L xs G) {k : Nat} (hk : 5 * k + 5 ≤ L) {a1 o : Nat} {ad : Nat → Nat} (hJ : gJ G s a1 ad o H locs) (hl : lv_has ls 7 (gLv b a1 (ad 0) o (nI (5 * k)))) (hc : cells + 47 ≤ 601024) (hs : slots + 3000 ≤ 7293034)
    (kk : ∀ (H : Heap) (locs : List Loc) (ls : Array Slot), gJ G s a1 ad o H locs → lv_has ls 7 (gLv b a1 (ad 0) o (nI (5 * k))) → W p l e room_1 s m #[Value.ref b] below meth c H locs (cells + 47) (slots + 3000) Q (F0 m 1593 ls [])) : W p l e room_1 s m #[Value.ref b] below meth c H locs cells slots Q (F0 m 885 ls []) := by
  obtain ⟨hx, hb, hml, hown, hts, hX, hbl, hK, hE, hN, hL, hst⟩ := id B
  obtain ⟨M, N, Γ, σ, ρ, f, hI, h00, hW⟩ := hJ
  obtain ⟨u1, hu1, eu1⟩ := nU_of (xs (5 * k + 1))
  subst h00
  have hA : ∀ q, s.heap.size ≤ q → gA s q := fun _ h => h
  have hB : RB σ := hI.1.1.1.b
  obtain ⟨⟨b0, b8, b24⟩, b7, b3, b12, b45, -⟩ := id hB
  refine lv_aload_n hx hb dL_law_885 rfl (lv_at hl 1 rfl) ?_
  refine g_arg (j := 1) hx hb hX hbl hW.2.1 hL hk (by decide) (by decide) eu1 (lv_sub hl [0, 4] rfl) dL_law_886 dL_law_887 dL_law_889 dL_law_890 dL_law_891 ?_
  refine lv_aload_n hx hb dL_law_892 rfl (lv_at hl 3 rfl) ?_
  refine mk_w (vx_runSX (As := [.ref (Γ 0 0), .int (nI u1), .ref o]) (rest := []) (nL := 7) ⟨hx, hb, hml, hown, hts⟩ (l_state l hst G N Γ σ ρ u1 hu1 hI.1 o f hI.2.2.2.1 M H.size hI.2.1) (vx_cwSW 3 hts gL_law_L_state rfl rfl rfl (by decide +kernel) ⟨(Nat.le_of_ble_eq_true rfl), (Nat.le_of_ble_eq_true rfl)⟩) (wp_S hK hE hN hW hA) rfl rfl hl.1 rfl (lv_room (Nat.le_of_ble_eq_true rfl)) dL_law_893 ⟨(show cells + 5 ≤ 601024 by omega), (show slots + 30 ≤ 7293034 by omega)⟩) hW hA (fun r1 M1 H locs hp hW => ?_)
  have hp : wEnd G N Γ o f (thL σ u1) (σ 12 u1) ((st σ 25 0 0)) M r1 M1 := wE25 hp
  obtain ⟨hr1, hA1, hst2⟩ := hI.step hp (fun _ => st_s)
  subst hr1
  refine lv_istore (lv' := [(5, .int (nI (thL σ u1))), (0, .ref b), (1, .ref (Γ 0 0)), (2, .ref (ad 0)), (3, .ref o), (4, .int (nI (5 * k)))]) hx hb dL_law_896 hl (by decide) rfl (fun ls hl => ?_)
  refine lv_aload_n hx hb dL_law_898 rfl (lv_at hl 3 rfl) ?_
  refine g_arg (j := 1) hx hb hX hbl hW.2.1 hL hk (by decide) (by decide) eu1 (lv_sub hl [1, 5] rfl) dL_law_899 dL_law_900 dL_law_902 dL_law_903 dL_law_904 ?_
  refine mk_i (va_runV (As := [.int (nI u1)]) (rest := []) (nL := 7) ⟨hx, hb, hml, hown, hts⟩ (c5_state l G ad σ u1 hu1 hI.1.1 M1 H.size hA1) (cwV 1 hts gL_law_X5_state rfl rfl rfl (by decide +kernel) ⟨(Nat.le_of_ble_eq_true rfl), (Nat.le_of_ble_eq_true rfl)⟩) (mp_V hK hE hW hA (mW_recv hK hW.1 (hA1.1 0 (by decide)) (by rfl))) rfl rfl hl.1 rfl (lv_room (Nat.le_of_ble_eq_true rfl)) dL_law_905 ⟨(show cells + 5 + 0 ≤ 601024 by omega), (show slots + 30 + 0 ≤ 7293034 by omega)⟩) hW hA (fun r2 M2 H locs hp hW => ?_)
  obtain ⟨σ2, hp1, hA2, hF2⟩ := hp
  obtain ⟨h25, N2, Γ2, ρ2, f2, hI2, h002, h0⟩ := hst2 r2 σ2 M2 hp1 hA2 hF2
  exact g_tail (a1 := Γ 0 0) (i4 := nI (5 * k)) B hW hI2 h25 (by unfold thL; (repeat' split) <;> omega) h0 hl dL_law_908 dL_law_910 dL_law_911 dL_law_914 dL_law_916 dL_law_921 dL_law_923 dL_law_926 dL_law_927 dL_law_928 dL_law_929 dL_law_931 dL_law_932 dL_law_933 dL_law_938 (by decide) (show cells + 5 + 0 ≤ 601024 by omega) (show slots + 30 + 0 ≤ 7293034 by omega) (fun H locs ls M N hW hI hl => W.widen (k := cells + 47) (n := slots + 3000) (by omega) (by omega) (kk H locs ls ⟨M, N, Γ2, σ2, ρ2, f2, hI, h002, hW⟩ hl))

set_option maxHeartbeats 4000000 in
set_option maxRecDepth 100000 in
theorem g_where {p : Program} {l : Launch} {e : Env} {s : State} {m : MethodId} {below : List Frame} {meth : Method} {c : Code} {H : Heap} {locs : List Loc} {cells slots : Nat} {Q : State → Prop} {b L : Nat} {xs : Nat → Int32} {ls : Array Slot} {G : mG} (B : gB p l s m c b L xs G) {k : Nat} (hk : 5 * k + 5 ≤ L) {a1 o : Nat} {ad : Nat → Nat} (hJ : gJ G s a1 ad o H locs) (hl : lv_has ls 7 (gLv b a1 (ad 0) o (nI (5 * k)))) (hc : cells + 47 ≤ 601024) (hs : slots + 3000 ≤ 7293034)
    (kk : ∀ (H : Heap) (locs : List Loc) (ls : Array Slot), gJ G s a1 ad o H locs → lv_has ls 7 (gLv b a1 (ad 0) o (nI (5 * k))) → W p l e room_1 s m #[Value.ref b] below meth c H locs (cells + 47) (slots + 3000) Q (F0 m 1593 ls [])) : W p l e room_1 s m #[Value.ref b] below meth c H locs cells slots Q (F0 m 941 ls []) := by
  obtain ⟨hx, hb, hml, hown, hts, hX, hbl, hK, hE, hN, hL, hst⟩ := id B
  obtain ⟨M, N, Γ, σ, ρ, f, hI, h00, hW⟩ := hJ
  obtain ⟨u1, hu1, eu1⟩ := nU_of (xs (5 * k + 1))
  subst h00
  have hA : ∀ q, s.heap.size ≤ q → gA s q := fun _ h => h
  have hB : RB σ := hI.1.1.1.b
  obtain ⟨⟨b0, b8, b24⟩, b7, b3, b12, b45, -⟩ := id hB
  refine lv_aload_n hx hb dL_law_941 rfl (lv_at hl 1 rfl) ?_
  refine g_arg (j := 1) hx hb hX hbl hW.2.1 hL hk (by decide) (by decide) eu1 (lv_sub hl [0, 4] rfl) dL_law_942 dL_law_943 dL_law_945 dL_law_946 dL_law_947 ?_
  refine lv_aload_n hx hb dL_law_948 rfl (lv_at hl 3 rfl) ?_
  refine mk_w (vx_runSX (As := [.ref (Γ 0 0), .int (nI u1), .ref o]) (rest := []) (nL := 7) ⟨hx, hb, hml, hown, hts⟩ (l_where l hst G N Γ σ ρ u1 hu1 hI.1 o f hI.2.2.2.1 M H.size hI.2.1) (vx_cwSW 3 hts gL_law_L_where rfl rfl rfl (by decide +kernel) ⟨(Nat.le_of_ble_eq_true rfl), (Nat.le_of_ble_eq_true rfl)⟩) (wp_S hK hE hN hW hA) rfl rfl hl.1 rfl (lv_room (Nat.le_of_ble_eq_true rfl)) dL_law_949 ⟨(show cells + 5 ≤ 601024 by omega), (show slots + 30 ≤ 7293034 by omega)⟩) hW hA (fun r1 M1 H locs hp hW => ?_)
  have hp : wEnd G N Γ o f (thL σ u1) (whS σ u1) ((st σ 25 0 0)) M r1 M1 := wE25 hp
  obtain ⟨hr1, hA1, hst2⟩ := hI.step hp (fun _ => st_s)
  subst hr1
  refine lv_istore (lv' := [(5, .int (nI (thL σ u1))), (0, .ref b), (1, .ref (Γ 0 0)), (2, .ref (ad 0)), (3, .ref o), (4, .int (nI (5 * k)))]) hx hb dL_law_952 hl (by decide) rfl (fun ls hl => ?_)
  refine lv_aload_n hx hb dL_law_954 rfl (lv_at hl 3 rfl) ?_
  refine g_arg (j := 1) hx hb hX hbl hW.2.1 hL hk (by decide) (by decide) eu1 (lv_sub hl [1, 5] rfl) dL_law_955 dL_law_956 dL_law_958 dL_law_959 dL_law_960 ?_
  refine mk_i (va_runV (As := [.int (nI u1)]) (rest := []) (nL := 7) ⟨hx, hb, hml, hown, hts⟩ (c5_where l G ad σ u1 hu1 hI.1.1 M1 H.size hA1) (cwV 1 hts gL_law_X5_where rfl rfl rfl (by decide +kernel) ⟨(Nat.le_of_ble_eq_true rfl), (Nat.le_of_ble_eq_true rfl)⟩) (mp_V hK hE hW hA (mW_recv hK hW.1 (hA1.1 0 (by decide)) (by rfl))) rfl rfl hl.1 rfl (lv_room (Nat.le_of_ble_eq_true rfl)) dL_law_961 ⟨(show cells + 5 + 0 ≤ 601024 by omega), (show slots + 30 + 0 ≤ 7293034 by omega)⟩) hW hA (fun r2 M2 H locs hp hW => ?_)
  obtain ⟨σ2, hp1, hA2, hF2⟩ := hp
  obtain ⟨h25, N2, Γ2, ρ2, f2, hI2, h002, h0⟩ := hst2 r2 σ2 M2 hp1 hA2 hF2
  exact g_tail (a1 := Γ 0 0) (i4 := nI (5 * k)) B hW hI2 h25 (by unfold thL; (repeat' split) <;> omega) h0 hl dL_law_964 dL_law_966 dL_law_967 dL_law_970 dL_law_972 dL_law_977 dL_law_979 dL_law_982 dL_law_983 dL_law_984 dL_law_985 dL_law_987 dL_law_988 dL_law_989 dL_law_994 (by decide) (show cells + 5 + 0 ≤ 601024 by omega) (show slots + 30 + 0 ≤ 7293034 by omega) (fun H locs ls M N hW hI hl => W.widen (k := cells + 47) (n := slots + 3000) (by omega) (by omega) (kk H locs ls ⟨M, N, Γ2, σ2, ρ2, f2, hI, h002, hW⟩ hl))

set_option maxHeartbeats 4000000 in
set_option maxRecDepth 100000 in
theorem g_whereByMarks {p : Program} {l : Launch} {e : Env} {s : State} {m : MethodId} {below : List Frame} {meth : Method} {c : Code} {H : Heap} {locs : List Loc} {cells slots : Nat} {Q : State → Prop} {b L : Nat} {xs : Nat → Int32} {ls : Array Slot} {G : mG} (B : gB p l s m c b L xs G) {k : Nat} (hk : 5 * k + 5 ≤ L) {a1 o : Nat} {ad : Nat → Nat} (hJ : gJ G s a1 ad o H locs) (hl : lv_has ls 7 (gLv b a1 (ad 0) o (nI (5 * k)))) (hc : cells + 47 ≤ 601024) (hs : slots + 3000 ≤ 7293034)
    (kk : ∀ (H : Heap) (locs : List Loc) (ls : Array Slot), gJ G s a1 ad o H locs → lv_has ls 7 (gLv b a1 (ad 0) o (nI (5 * k))) → W p l e room_1 s m #[Value.ref b] below meth c H locs (cells + 47) (slots + 3000) Q (F0 m 1593 ls [])) : W p l e room_1 s m #[Value.ref b] below meth c H locs cells slots Q (F0 m 997 ls []) := by
  obtain ⟨hx, hb, hml, hown, hts, hX, hbl, hK, hE, hN, hL, hst⟩ := id B
  obtain ⟨M, N, Γ, σ, ρ, f, hI, h00, hW⟩ := hJ
  obtain ⟨u1, hu1, eu1⟩ := nU_of (xs (5 * k + 1))
  subst h00
  have hA : ∀ q, s.heap.size ≤ q → gA s q := fun _ h => h
  have hB : RB σ := hI.1.1.1.b
  obtain ⟨⟨b0, b8, b24⟩, b7, b3, b12, b45, -⟩ := id hB
  refine lv_aload_n hx hb dL_law_997 rfl (lv_at hl 1 rfl) ?_
  refine g_arg (j := 1) hx hb hX hbl hW.2.1 hL hk (by decide) (by decide) eu1 (lv_sub hl [0, 4] rfl) dL_law_998 dL_law_999 dL_law_1001 dL_law_1002 dL_law_1003 ?_
  refine lv_aload_n hx hb dL_law_1004 rfl (lv_at hl 3 rfl) ?_
  refine mk_w (vx_runSX (As := [.ref (Γ 0 0), .int (nI u1), .ref o]) (rest := []) (nL := 7) ⟨hx, hb, hml, hown, hts⟩ (l_whereByMarks l hst G N Γ σ ρ u1 hu1 hI.1 o f hI.2.2.2.1 M H.size hI.2.1) (vx_cwSW 3 hts gL_law_L_whereByMarks rfl rfl rfl (by decide +kernel) ⟨(Nat.le_of_ble_eq_true rfl), (Nat.le_of_ble_eq_true rfl)⟩) (wp_S hK hE hN hW hA) rfl rfl hl.1 rfl (lv_room (Nat.le_of_ble_eq_true rfl)) dL_law_1005 ⟨(show cells + 5 ≤ 601024 by omega), (show slots + 30 ≤ 7293034 by omega)⟩) hW hA (fun r1 M1 H locs hp hW => ?_)
  have hp : wEnd G N Γ o f (thL σ u1) (wmS σ u1) ((st σ 25 0 0)) M r1 M1 := wE25 hp
  obtain ⟨hr1, hA1, hst2⟩ := hI.step hp (fun _ => st_s)
  subst hr1
  refine lv_istore (lv' := [(5, .int (nI (thL σ u1))), (0, .ref b), (1, .ref (Γ 0 0)), (2, .ref (ad 0)), (3, .ref o), (4, .int (nI (5 * k)))]) hx hb dL_law_1008 hl (by decide) rfl (fun ls hl => ?_)
  refine lv_aload_n hx hb dL_law_1010 rfl (lv_at hl 3 rfl) ?_
  refine g_arg (j := 1) hx hb hX hbl hW.2.1 hL hk (by decide) (by decide) eu1 (lv_sub hl [1, 5] rfl) dL_law_1011 dL_law_1012 dL_law_1014 dL_law_1015 dL_law_1016 ?_
  refine mk_i (va_runV (As := [.int (nI u1)]) (rest := []) (nL := 7) ⟨hx, hb, hml, hown, hts⟩ (c5_whereByMarks l G ad σ u1 hu1 hI.1.1 M1 H.size hA1) (cwV 1 hts gL_law_X5_whereByMarks rfl rfl rfl (by decide +kernel) ⟨(Nat.le_of_ble_eq_true rfl), (Nat.le_of_ble_eq_true rfl)⟩) (mp_V hK hE hW hA (mW_recv hK hW.1 (hA1.1 0 (by decide)) (by rfl))) rfl rfl hl.1 rfl (lv_room (Nat.le_of_ble_eq_true rfl)) dL_law_1017 ⟨(show cells + 5 + 0 ≤ 601024 by omega), (show slots + 30 + 0 ≤ 7293034 by omega)⟩) hW hA (fun r2 M2 H locs hp hW => ?_)
  obtain ⟨σ2, hp1, hA2, hF2⟩ := hp
  obtain ⟨h25, N2, Γ2, ρ2, f2, hI2, h002, h0⟩ := hst2 r2 σ2 M2 hp1 hA2 hF2
  exact g_tail (a1 := Γ 0 0) (i4 := nI (5 * k)) B hW hI2 h25 (by unfold thL; (repeat' split) <;> omega) h0 hl dL_law_1020 dL_law_1022 dL_law_1023 dL_law_1026 dL_law_1028 dL_law_1033 dL_law_1035 dL_law_1038 dL_law_1039 dL_law_1040 dL_law_1041 dL_law_1043 dL_law_1044 dL_law_1045 dL_law_1050 (by decide) (show cells + 5 + 0 ≤ 601024 by omega) (show slots + 30 + 0 ≤ 7293034 by omega) (fun H locs ls M N hW hI hl => W.widen (k := cells + 47) (n := slots + 3000) (by omega) (by omega) (kk H locs ls ⟨M, N, Γ2, σ2, ρ2, f2, hI, h002, hW⟩ hl))

set_option maxHeartbeats 4000000 in
set_option maxRecDepth 100000 in
theorem g_comesTo {p : Program} {l : Launch} {e : Env} {s : State} {m : MethodId} {below : List Frame} {meth : Method} {c : Code} {H : Heap} {locs : List Loc} {cells slots : Nat} {Q : State → Prop} {b L : Nat} {xs : Nat → Int32} {ls : Array Slot} {G : mG} (B : gB p l s m c b L xs G) {k : Nat} (hk : 5 * k + 5 ≤ L) {a1 o : Nat} {ad : Nat → Nat} (hJ : gJ G s a1 ad o H locs) (hl : lv_has ls 7 (gLv b a1 (ad 0) o (nI (5 * k)))) (hc : cells + 47 ≤ 601024) (hs : slots + 3000 ≤ 7293034)
    (kk : ∀ (H : Heap) (locs : List Loc) (ls : Array Slot), gJ G s a1 ad o H locs → lv_has ls 7 (gLv b a1 (ad 0) o (nI (5 * k))) → W p l e room_1 s m #[Value.ref b] below meth c H locs (cells + 47) (slots + 3000) Q (F0 m 1593 ls [])) : W p l e room_1 s m #[Value.ref b] below meth c H locs cells slots Q (F0 m 1053 ls []) := by
  obtain ⟨hx, hb, hml, hown, hts, hX, hbl, hK, hE, hN, hL, hst⟩ := id B
  obtain ⟨M, N, Γ, σ, ρ, f, hI, h00, hW⟩ := hJ
  obtain ⟨u1, hu1, eu1⟩ := nU_of (xs (5 * k + 1))
  subst h00
  have hA : ∀ q, s.heap.size ≤ q → gA s q := fun _ h => h
  have hB : RB σ := hI.1.1.1.b
  obtain ⟨⟨b0, b8, b24⟩, b7, b3, b12, b45, -⟩ := id hB
  refine lv_aload_n hx hb dL_law_1053 rfl (lv_at hl 1 rfl) ?_
  refine g_arg (j := 1) hx hb hX hbl hW.2.1 hL hk (by decide) (by decide) eu1 (lv_sub hl [0, 4] rfl) dL_law_1054 dL_law_1055 dL_law_1057 dL_law_1058 dL_law_1059 ?_
  refine lv_aload_n hx hb dL_law_1060 rfl (lv_at hl 3 rfl) ?_
  refine mk_w (vx_runSX (As := [.ref (Γ 0 0), .int (nI u1), .ref o]) (rest := []) (nL := 7) ⟨hx, hb, hml, hown, hts⟩ (l_comesTo l hst G N Γ σ ρ u1 hu1 hI.1 o f hI.2.2.2.1 M H.size hI.2.1) (vx_cwSW 3 hts gL_law_L_comesTo rfl rfl rfl (by decide +kernel) ⟨(Nat.le_of_ble_eq_true rfl), (Nat.le_of_ble_eq_true rfl)⟩) (wp_S hK hE hN hW hA) rfl rfl hl.1 rfl (lv_room (Nat.le_of_ble_eq_true rfl)) dL_law_1061 ⟨(show cells + 5 ≤ 601024 by omega), (show slots + 30 ≤ 7293034 by omega)⟩) hW hA (fun r1 M1 H locs hp hW => ?_)
  have hp : wEnd G N Γ o f (thL σ u1) (coS σ u1) ((st σ 25 0 0)) M r1 M1 := wE25 hp
  obtain ⟨hr1, hA1, hst2⟩ := hI.step hp (fun _ => st_s)
  subst hr1
  refine lv_istore (lv' := [(5, .int (nI (thL σ u1))), (0, .ref b), (1, .ref (Γ 0 0)), (2, .ref (ad 0)), (3, .ref o), (4, .int (nI (5 * k)))]) hx hb dL_law_1064 hl (by decide) rfl (fun ls hl => ?_)
  refine lv_aload_n hx hb dL_law_1066 rfl (lv_at hl 3 rfl) ?_
  refine g_arg (j := 1) hx hb hX hbl hW.2.1 hL hk (by decide) (by decide) eu1 (lv_sub hl [1, 5] rfl) dL_law_1067 dL_law_1068 dL_law_1070 dL_law_1071 dL_law_1072 ?_
  refine mk_i (va_runV (As := [.int (nI u1)]) (rest := []) (nL := 7) ⟨hx, hb, hml, hown, hts⟩ (c5_comesTo l G ad σ u1 hu1 hI.1.1 M1 H.size hA1) (cwV 1 hts gL_law_X5_comesTo rfl rfl rfl (by decide +kernel) ⟨(Nat.le_of_ble_eq_true rfl), (Nat.le_of_ble_eq_true rfl)⟩) (mp_V hK hE hW hA (mW_recv hK hW.1 (hA1.1 0 (by decide)) (by rfl))) rfl rfl hl.1 rfl (lv_room (Nat.le_of_ble_eq_true rfl)) dL_law_1073 ⟨(show cells + 5 + 0 ≤ 601024 by omega), (show slots + 30 + 0 ≤ 7293034 by omega)⟩) hW hA (fun r2 M2 H locs hp hW => ?_)
  obtain ⟨σ2, hp1, hA2, hF2⟩ := hp
  obtain ⟨h25, N2, Γ2, ρ2, f2, hI2, h002, h0⟩ := hst2 r2 σ2 M2 hp1 hA2 hF2
  exact g_tail (a1 := Γ 0 0) (i4 := nI (5 * k)) B hW hI2 h25 (by unfold thL; (repeat' split) <;> omega) h0 hl dL_law_1076 dL_law_1078 dL_law_1079 dL_law_1082 dL_law_1084 dL_law_1089 dL_law_1091 dL_law_1094 dL_law_1095 dL_law_1096 dL_law_1097 dL_law_1099 dL_law_1100 dL_law_1101 dL_law_1106 (by decide) (show cells + 5 + 0 ≤ 601024 by omega) (show slots + 30 + 0 ≤ 7293034 by omega) (fun H locs ls M N hW hI hl => W.widen (k := cells + 47) (n := slots + 3000) (by omega) (by omega) (kk H locs ls ⟨M, N, Γ2, σ2, ρ2, f2, hI, h002, hW⟩ hl))

set_option maxHeartbeats 4000000 in
set_option maxRecDepth 100000 in
theorem g_sentOn {p : Program} {l : Launch} {e : Env} {s : State} {m : MethodId} {below : List Frame} {meth : Method} {c : Code} {H : Heap} {locs : List Loc} {cells slots : Nat} {Q : State → Prop} {b L : Nat} {xs : Nat → Int32} {ls : Array Slot} {G : mG} (B : gB p l s m c b L xs G) {k : Nat} (hk : 5 * k + 5 ≤ L) {a1 o : Nat} {ad : Nat → Nat} (hJ : gJ G s a1 ad o H locs) (hl : lv_has ls 7 (gLv b a1 (ad 0) o (nI (5 * k)))) (hc : cells + 47 ≤ 601024) (hs : slots + 3000 ≤ 7293034)
    (kk : ∀ (H : Heap) (locs : List Loc) (ls : Array Slot), gJ G s a1 ad o H locs → lv_has ls 7 (gLv b a1 (ad 0) o (nI (5 * k))) → W p l e room_1 s m #[Value.ref b] below meth c H locs (cells + 47) (slots + 3000) Q (F0 m 1593 ls [])) : W p l e room_1 s m #[Value.ref b] below meth c H locs cells slots Q (F0 m 1109 ls []) := by
  obtain ⟨hx, hb, hml, hown, hts, hX, hbl, hK, hE, hN, hL, hst⟩ := id B
  obtain ⟨M, N, Γ, σ, ρ, f, hI, h00, hW⟩ := hJ
  obtain ⟨u1, hu1, eu1⟩ := nU_of (xs (5 * k + 1))
  subst h00
  have hA : ∀ q, s.heap.size ≤ q → gA s q := fun _ h => h
  have hB : RB σ := hI.1.1.1.b
  obtain ⟨⟨b0, b8, b24⟩, b7, b3, b12, b45, -⟩ := id hB
  refine lv_aload_n hx hb dL_law_1109 rfl (lv_at hl 1 rfl) ?_
  refine g_arg (j := 1) hx hb hX hbl hW.2.1 hL hk (by decide) (by decide) eu1 (lv_sub hl [0, 4] rfl) dL_law_1110 dL_law_1111 dL_law_1113 dL_law_1114 dL_law_1115 ?_
  refine lv_aload_n hx hb dL_law_1116 rfl (lv_at hl 3 rfl) ?_
  refine mk_w (vx_runSX (As := [.ref (Γ 0 0), .int (nI u1), .ref o]) (rest := []) (nL := 7) ⟨hx, hb, hml, hown, hts⟩ (l_sentOn l hst G N Γ σ ρ u1 hu1 hI.1 o f hI.2.2.2.1 M H.size hI.2.1) (vx_cwSW 3 hts gL_law_L_sentOn rfl rfl rfl (by decide +kernel) ⟨(Nat.le_of_ble_eq_true rfl), (Nat.le_of_ble_eq_true rfl)⟩) (wp_S hK hE hN hW hA) rfl rfl hl.1 rfl (lv_room (Nat.le_of_ble_eq_true rfl)) dL_law_1117 ⟨(show cells + 5 ≤ 601024 by omega), (show slots + 30 ≤ 7293034 by omega)⟩) hW hA (fun r1 M1 H locs hp hW => ?_)
  have hp : wEnd G N Γ o f (thL σ u1) (σ 15 u1) ((st σ 25 0 0)) M r1 M1 := wE25 hp
  obtain ⟨hr1, hA1, hst2⟩ := hI.step hp (fun _ => st_s)
  subst hr1
  refine lv_istore (lv' := [(5, .int (nI (thL σ u1))), (0, .ref b), (1, .ref (Γ 0 0)), (2, .ref (ad 0)), (3, .ref o), (4, .int (nI (5 * k)))]) hx hb dL_law_1120 hl (by decide) rfl (fun ls hl => ?_)
  refine lv_aload_n hx hb dL_law_1122 rfl (lv_at hl 3 rfl) ?_
  refine g_arg (j := 1) hx hb hX hbl hW.2.1 hL hk (by decide) (by decide) eu1 (lv_sub hl [1, 5] rfl) dL_law_1123 dL_law_1124 dL_law_1126 dL_law_1127 dL_law_1128 ?_
  refine mk_i (va_runV (As := [.int (nI u1)]) (rest := []) (nL := 7) ⟨hx, hb, hml, hown, hts⟩ (c5_sentOn l G ad σ u1 hu1 hI.1.1 M1 H.size hA1) (cwV 1 hts gL_law_X5_sentOn rfl rfl rfl (by decide +kernel) ⟨(Nat.le_of_ble_eq_true rfl), (Nat.le_of_ble_eq_true rfl)⟩) (mp_V hK hE hW hA (mW_recv hK hW.1 (hA1.1 0 (by decide)) (by rfl))) rfl rfl hl.1 rfl (lv_room (Nat.le_of_ble_eq_true rfl)) dL_law_1129 ⟨(show cells + 5 + 0 ≤ 601024 by omega), (show slots + 30 + 0 ≤ 7293034 by omega)⟩) hW hA (fun r2 M2 H locs hp hW => ?_)
  obtain ⟨σ2, hp1, hA2, hF2⟩ := hp
  obtain ⟨h25, N2, Γ2, ρ2, f2, hI2, h002, h0⟩ := hst2 r2 σ2 M2 hp1 hA2 hF2
  exact g_tail (a1 := Γ 0 0) (i4 := nI (5 * k)) B hW hI2 h25 (by unfold thL; (repeat' split) <;> omega) h0 hl dL_law_1132 dL_law_1134 dL_law_1135 dL_law_1138 dL_law_1140 dL_law_1145 dL_law_1147 dL_law_1150 dL_law_1151 dL_law_1152 dL_law_1153 dL_law_1155 dL_law_1156 dL_law_1157 dL_law_1162 (by decide) (show cells + 5 + 0 ≤ 601024 by omega) (show slots + 30 + 0 ≤ 7293034 by omega) (fun H locs ls M N hW hI hl => W.widen (k := cells + 47) (n := slots + 3000) (by omega) (by omega) (kk H locs ls ⟨M, N, Γ2, σ2, ρ2, f2, hI, h002, hW⟩ hl))

set_option maxHeartbeats 4000000 in
set_option maxRecDepth 100000 in
theorem g_overtaken {p : Program} {l : Launch} {e : Env} {s : State} {m : MethodId} {below : List Frame} {meth : Method} {c : Code} {H : Heap} {locs : List Loc} {cells slots : Nat} {Q : State → Prop} {b L : Nat} {xs : Nat → Int32} {ls : Array Slot} {G : mG} (B : gB p l s m c b L xs G) {k : Nat} (hk : 5 * k + 5 ≤ L) {a1 o : Nat} {ad : Nat → Nat} (hJ : gJ G s a1 ad o H locs) (hl : lv_has ls 7 (gLv b a1 (ad 0) o (nI (5 * k)))) (hc : cells + 47 ≤ 601024) (hs : slots + 3000 ≤ 7293034)
    (kk : ∀ (H : Heap) (locs : List Loc) (ls : Array Slot), gJ G s a1 ad o H locs → lv_has ls 7 (gLv b a1 (ad 0) o (nI (5 * k))) → W p l e room_1 s m #[Value.ref b] below meth c H locs (cells + 47) (slots + 3000) Q (F0 m 1593 ls [])) : W p l e room_1 s m #[Value.ref b] below meth c H locs cells slots Q (F0 m 1165 ls []) := by
  obtain ⟨hx, hb, hml, hown, hts, hX, hbl, hK, hE, hN, hL, hst⟩ := id B
  obtain ⟨M, N, Γ, σ, ρ, f, hI, h00, hW⟩ := hJ
  obtain ⟨u1, hu1, eu1⟩ := nU_of (xs (5 * k + 1))
  subst h00
  have hA : ∀ q, s.heap.size ≤ q → gA s q := fun _ h => h
  have hB : RB σ := hI.1.1.1.b
  obtain ⟨⟨b0, b8, b24⟩, b7, b3, b12, b45, -⟩ := id hB
  refine lv_aload_n hx hb dL_law_1165 rfl (lv_at hl 1 rfl) ?_
  refine g_arg (j := 1) hx hb hX hbl hW.2.1 hL hk (by decide) (by decide) eu1 (lv_sub hl [0, 4] rfl) dL_law_1166 dL_law_1167 dL_law_1169 dL_law_1170 dL_law_1171 ?_
  refine lv_aload_n hx hb dL_law_1172 rfl (lv_at hl 3 rfl) ?_
  refine mk_w (vx_runSX (As := [.ref (Γ 0 0), .int (nI u1), .ref o]) (rest := []) (nL := 7) ⟨hx, hb, hml, hown, hts⟩ (l_overtaken l hst G N Γ σ ρ u1 hu1 hI.1 o f hI.2.2.2.1 M H.size hI.2.1) (vx_cwSW 3 hts gL_law_L_overtaken rfl rfl rfl (by decide +kernel) ⟨(Nat.le_of_ble_eq_true rfl), (Nat.le_of_ble_eq_true rfl)⟩) (wp_S hK hE hN hW hA) rfl rfl hl.1 rfl (lv_room (Nat.le_of_ble_eq_true rfl)) dL_law_1173 ⟨(show cells + 5 ≤ 601024 by omega), (show slots + 30 ≤ 7293034 by omega)⟩) hW hA (fun r1 M1 H locs hp hW => ?_)
  have hp : wEnd G N Γ o f (thL σ u1) (ovS σ u1) ((st σ 25 0 0)) M r1 M1 := wE25 hp
  obtain ⟨hr1, hA1, hst2⟩ := hI.step hp (fun _ => st_s)
  subst hr1
  refine lv_istore (lv' := [(5, .int (nI (thL σ u1))), (0, .ref b), (1, .ref (Γ 0 0)), (2, .ref (ad 0)), (3, .ref o), (4, .int (nI (5 * k)))]) hx hb dL_law_1176 hl (by decide) rfl (fun ls hl => ?_)
  refine lv_aload_n hx hb dL_law_1178 rfl (lv_at hl 3 rfl) ?_
  refine g_arg (j := 1) hx hb hX hbl hW.2.1 hL hk (by decide) (by decide) eu1 (lv_sub hl [1, 5] rfl) dL_law_1179 dL_law_1180 dL_law_1182 dL_law_1183 dL_law_1184 ?_
  refine mk_i (va_runV (As := [.int (nI u1)]) (rest := []) (nL := 7) ⟨hx, hb, hml, hown, hts⟩ (c5_overtaken l G ad σ u1 hu1 hI.1.1 M1 H.size hA1) (cwV 1 hts gL_law_X5_overtaken rfl rfl rfl (by decide +kernel) ⟨(Nat.le_of_ble_eq_true rfl), (Nat.le_of_ble_eq_true rfl)⟩) (mp_V hK hE hW hA (mW_recv hK hW.1 (hA1.1 0 (by decide)) (by rfl))) rfl rfl hl.1 rfl (lv_room (Nat.le_of_ble_eq_true rfl)) dL_law_1185 ⟨(show cells + 5 + 0 ≤ 601024 by omega), (show slots + 30 + 0 ≤ 7293034 by omega)⟩) hW hA (fun r2 M2 H locs hp hW => ?_)
  obtain ⟨σ2, hp1, hA2, hF2⟩ := hp
  obtain ⟨h25, N2, Γ2, ρ2, f2, hI2, h002, h0⟩ := hst2 r2 σ2 M2 hp1 hA2 hF2
  exact g_tail (a1 := Γ 0 0) (i4 := nI (5 * k)) B hW hI2 h25 (by unfold thL; (repeat' split) <;> omega) h0 hl dL_law_1188 dL_law_1190 dL_law_1191 dL_law_1194 dL_law_1196 dL_law_1201 dL_law_1203 dL_law_1206 dL_law_1207 dL_law_1208 dL_law_1209 dL_law_1211 dL_law_1212 dL_law_1213 dL_law_1218 (by decide) (show cells + 5 + 0 ≤ 601024 by omega) (show slots + 30 + 0 ≤ 7293034 by omega) (fun H locs ls M N hW hI hl => W.widen (k := cells + 47) (n := slots + 3000) (by omega) (by omega) (kk H locs ls ⟨M, N, Γ2, σ2, ρ2, f2, hI, h002, hW⟩ hl))
