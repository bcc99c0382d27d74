/-! THE LAW: the start's state (mine) -/
theorem HS.zero : HS σ0 σ0 := by
  refine ⟨⟨fun f i => ?_, fun P => rfl, fun P => rfl, fun i hi => absurd hi (Nat.not_lt_zero i), fun i _ => ⟨rfl, rfl⟩, fun r k hk => absurd hk (Nat.not_lt_zero k), fun s _ => ⟨rfl, rfl⟩⟩, fun i _ => ⟨rfl, rfl, fun _ _ => rfl⟩, fun u n hn => absurd hn (Nat.not_lt_zero n), fun u hu => absurd hu (Nat.not_lt_zero u), fun j => ?_⟩
  · show okv f 0
    unfold okv
    split <;> first | trivial | decide
  · exact ⟨Nat.zero_le _, Nat.zero_le _, Nat.zero_le _, Nat.zero_le _, Nat.zero_le _, Nat.zero_le _⟩
theorem g_le {L k : Nat} (hL : L ≤ 2560) (hk : 5 * k ≤ L) (z : ¬ nI L - nI 5 < nI (5 * k)) : 5 * k + 5 ≤ L := by
  rw [Int32.lt_iff_toInt_lt, pk_sub_toInt (by omega) (by decide), nI_toInt (by omega)] at z
  omega
theorem g_out {u : Nat} (hu : u < 4294967296) (h : 25 ≤ u) : (nI u).toInt < 0 ∨ 24 < (nI u).toInt := by
  rw [nU_toInt hu]
  split <;> omega

set_option maxHeartbeats 4000000 in
set_option maxRecDepth 100000 in
theorem g_loop {p : Program} {l : Launch} {e : Env} {s : State} {m : MethodId} {below : List Frame} {meth : Method} {c : Code} {b L : Nat} {xs : Nat → Int32} {G : mG} (B : gB p l s m c b L xs G) (hr : meth.sig.returnType = ret) (hlk : meth.locks = false) {a1 o : Nat} {ad : Nat → Nat} : ∀ (n k : Nat), 5 * k ≤ L → L - 5 * k < n → ∀ (H : Heap) (locs : List Loc) (ls : Array Slot) (cells slots : Nat), cells ≤ 100 + 47 * k → slots ≤ 20000 + 3000 * k → gJ G s a1 ad o H locs → lv_has ls 7 (gLv b a1 (ad 0) o (nI (5 * k))) → W p l e room_1 s m #[Value.ref b] below meth c H locs cells slots (lw_Z below #[Value.ref b] s) (F0 m 23 ls []) := by
  intro n
  induction n with
  | zero => intro k _ h; omega
  | succ n ih =>
    intro k h1 h2 H locs ls cells slots hc hs hJ hl
    obtain ⟨hx, hb, hml, hown, hts, hX, hbl, hK, hE, hN, hL, hst⟩ := id B
    obtain ⟨M, N, Γ, σ, ρ, f, hI, h00, hW⟩ := id hJ
    refine lv_iload hx hb dL_law_23 (lv_at hl 4 rfl) ?_
    refine lv_aload_n hx hb dL_law_25 rfl (lv_at hl 0 rfl) ?_
    refine va_slen hx hb hX hbl (Nat.not_le.mpr hbl) hW.2.1 dL_law_26 ?_
    refine lv_iconst (v := nI 5) hx hb dL_law_27 (by decide) ?_
    refine lv_isub hx hb dL_law_28 ?_
    refine lv_icmp_gt (tgt := 1599) hx hb dL_law_29 (by decide) (fun z => ?_) (fun z => ?_)
    · refine va_forget (fun q hq => hW.2.1.2.2 q hq) ?_
      refine W.widen (k := 601024) (n := 7293034) (by omega) (by omega) ?_
      refine lv_iconst (v := 1) hx hb dL_law_1599 (by decide) ?_
      exact lw_ret hx hb hr hlk dL_law_1600
    · have hk5 : 5 * k + 5 ≤ L := g_le hL h1 z
      have kk : ∀ (H : Heap) (locs : List Loc) (ls : Array Slot), gJ G s a1 ad o H locs → lv_has ls 7 (gLv b a1 (ad 0) o (nI (5 * k))) → W p l e room_1 s m #[Value.ref b] below meth c H locs (cells + 47) (slots + 3000) (lw_Z below #[Value.ref b] s) (F0 m 1593 ls []) := by
        intro H locs ls hJ hl
        refine lv_iinc (v := nI (5 * (k + 1))) (lv' := [(4, .int (nI (5 * (k + 1)))), (0, .ref b), (1, .ref a1), (2, .ref (ad 0)), (3, .ref o)]) hx hb dL_law_1593 hl (k := 4) rfl (by rw [show (Int32.ofInt 5) = nI 5 by decide, nI_add]; exact congrArg nI (by omega)) (by decide) rfl (fun ls hl => ?_)
        refine lv_goto (tgt := 23) hx hb dL_law_1596 (by decide) ?_
        exact ih (k + 1) (by omega) (by omega) H locs ls (cells + 47) (slots + 3000) (by omega) (by omega) hJ (lv_sub hl [1, 2, 3, 4, 0] rfl)
      have hc47 : cells + 47 ≤ 601024 := by omega
      have hs47 : slots + 3000 ≤ 7293034 := by omega
      refine lv_aload_n hx hb dL_law_32 rfl (lv_at hl 0 rfl) ?_
      refine lv_iload hx hb dL_law_33 (lv_at hl 4 rfl) ?_
      refine va_sld hx hb hX hbl (Nat.not_le.mpr hbl) hW.2.1 (vp_in_nI (show 5 * k < L by omega) (by omega)) dL_law_35 ?_
      refine lv_bipush (v := nI 31) hx hb dL_law_36 (by decide) ?_
      refine lv_iand hx hb dL_law_38 ?_
      obtain ⟨u, hu, eu⟩ := nU_of (xs (nI (5 * k)).toNatClampNeg &&& nI 31)
      refine lv_tope eu ?_
      rcases Nat.lt_or_ge u 25 with h25 | h25
      · rcases (show u = 0 ∨ u = 1 ∨ u = 2 ∨ u = 3 ∨ u = 4 ∨ u = 5 ∨ u = 6 ∨ u = 7 ∨ u = 8 ∨ u = 9 ∨ u = 10 ∨ u = 11 ∨ u = 12 ∨ u = 13 ∨ u = 14 ∨ u = 15 ∨ u = 16 ∨ u = 17 ∨ u = 18 ∨ u = 19 ∨ u = 20 ∨ u = 21 ∨ u = 22 ∨ u = 23 ∨ u = 24 by omega) with rfl | rfl | rfl | rfl | rfl | rfl | rfl | rfl | rfl | rfl | rfl | rfl | rfl | rfl | rfl | rfl | rfl | rfl | rfl | rfl | rfl | rfl | rfl | rfl | rfl
        · exact lv_tableIn (off := 113) (tgt := 152) hx hb dL_law_39 (by decide) (by decide) (by decide) (by decide) (g_addShip B hk5 hJ hl hc47 hs47 kk)
        · exact lv_tableIn (off := 157) (tgt := 196) hx hb dL_law_39 (by decide) (by decide) (by decide) (by decide) (g_call B hk5 hJ hl hc47 hs47 kk)
        · exact lv_tableIn (off := 249) (tgt := 288) hx hb dL_law_39 (by decide) (by decide) (by decide) (by decide) (g_tell B hk5 hJ hl hc47 hs47 kk)
        · exact lv_tableIn (off := 317) (tgt := 356) hx hb dL_law_39 (by decide) (by decide) (by decide) (by decide) (g_shipAt B hk5 hJ hl hc47 hs47 kk)
        · exact lv_tableIn (off := 373) (tgt := 412) hx hb dL_law_39 (by decide) (by decide) (by decide) (by decide) (g_routes B hk5 hJ hl hc47 hs47 kk)
        · exact lv_tableIn (off := 429) (tgt := 468) hx hb dL_law_39 (by decide) (by decide) (by decide) (by decide) (g_word B hk5 hJ hl hc47 hs47 kk)
        · exact lv_tableIn (off := 497) (tgt := 536) hx hb dL_law_39 (by decide) (by decide) (by decide) (by decide) (g_behind B hk5 hJ hl hc47 hs47 kk)
        · exact lv_tableIn (off := 553) (tgt := 592) hx hb dL_law_39 (by decide) (by decide) (by decide) (by decide) (g_post B hk5 hJ hl hc47 hs47 kk)
        · exact lv_tableIn (off := 633) (tgt := 672) hx hb dL_law_39 (by decide) (by decide) (by decide) (by decide) (g_strike B hk5 hJ hl hc47 hs47 kk)
        · exact lv_tableIn (off := 701) (tgt := 740) hx hb dL_law_39 (by decide) (by decide) (by decide) (by decide) (g_isClosed B hk5 hJ hl hc47 hs47 kk)
        · exact lv_tableIn (off := 764) (tgt := 803) hx hb dL_law_39 (by decide) (by decide) (by decide) (by decide) (g_pass B hk5 hJ hl hc47 hs47 kk)
        · exact lv_tableIn (off := 820) (tgt := 859) hx hb dL_law_39 (by decide) (by decide) (by decide) (by decide) (g_today B hk5 hJ hl hc47 hs47 kk)
        · exact lv_tableIn (off := 833) (tgt := 872) hx hb dL_law_39 (by decide) (by decide) (by decide) (by decide) (g_letters B hk5 hJ hl hc47 hs47 kk)
        · exact lv_tableIn (off := 846) (tgt := 885) hx hb dL_law_39 (by decide) (by decide) (by decide) (by decide) (g_state B hk5 hJ hl hc47 hs47 kk)
        · exact lv_tableIn (off := 902) (tgt := 941) hx hb dL_law_39 (by decide) (by decide) (by decide) (by decide) (g_where B hk5 hJ hl hc47 hs47 kk)
        · exact lv_tableIn (off := 958) (tgt := 997) hx hb dL_law_39 (by decide) (by decide) (by decide) (by decide) (g_whereByMarks B hk5 hJ hl hc47 hs47 kk)
        · exact lv_tableIn (off := 1014) (tgt := 1053) hx hb dL_law_39 (by decide) (by decide) (by decide) (by decide) (g_comesTo B hk5 hJ hl hc47 hs47 kk)
        · exact lv_tableIn (off := 1070) (tgt := 1109) hx hb dL_law_39 (by decide) (by decide) (by decide) (by decide) (g_sentOn B hk5 hJ hl hc47 hs47 kk)
        · exact lv_tableIn (off := 1126) (tgt := 1165) hx hb dL_law_39 (by decide) (by decide) (by decide) (by decide) (g_overtaken B hk5 hJ hl hc47 hs47 kk)
        · exact lv_tableIn (off := 1182) (tgt := 1221) hx hb dL_law_39 (by decide) (by decide) (by decide) (by decide) (g_lying B hk5 hJ hl hc47 hs47 kk)
        · exact lv_tableIn (off := 1238) (tgt := 1277) hx hb dL_law_39 (by decide) (by decide) (by decide) (by decide) (g_deadAt B hk5 hJ hl hc47 hs47 kk)
        · exact lv_tableIn (off := 1294) (tgt := 1333) hx hb dL_law_39 (by decide) (by decide) (by decide) (by decide) (g_deliveredAs B hk5 hJ hl hc47 hs47 kk)
        · exact lv_tableIn (off := 1362) (tgt := 1401) hx hb dL_law_39 (by decide) (by decide) (by decide) (by decide) (g_marks B hk5 hJ hl hc47 hs47 kk)
        · exact lv_tableIn (off := 1418) (tgt := 1457) hx hb dL_law_39 (by decide) (by decide) (by decide) (by decide) (g_markAt B hk5 hJ hl hc47 hs47 kk)
        · exact lv_tableIn (off := 1486) (tgt := 1525) hx hb dL_law_39 (by decide) (by decide) (by decide) (by decide) (g_written B hk5 hJ hl hc47 hs47 kk)
      · exact lv_tableOut (tgt := 1593) hx hb dL_law_39 (g_out hu h25) (by decide) (W.widen (by omega) (by omega) (kk H locs ls hJ hl))
