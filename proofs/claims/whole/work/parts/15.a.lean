/-! THE LAW: the calls that catch (mine; the rows are laid by wip/whole/gen) -/
theorem Rp.nb {G : mG} {N : Mem} {Γ : Adr} {ς : Sg} {M : Mem} {q : Nat} {e : va_E} (h : Rp G N Γ ς M) (hN : N q = some e) : M q = some e := by
  obtain ⟨Λ, cp, h0, g1, g2, g3, g4⟩ := h
  exact (g4 q e hN).1
theorem xcase1 {th : Nat} {a E : String} (h : xOk th [a] E) : th = 1 ∧ E = a := by
  obtain ⟨h0, he⟩ := h
  obtain ⟨k, rfl⟩ : ∃ k, th = k + 1 := ⟨th - 1, by omega⟩
  rw [Nat.add_sub_cancel] at he
  match k, he with
  | 0, he => exact ⟨rfl, (Option.some.inj he).symm⟩
theorem xcase2 {th : Nat} {a b E : String} (h : xOk th [a, b] E) : (th = 1 ∧ E = a) ∨ (th = 2 ∧ E = b) := by
  obtain ⟨h0, he⟩ := h
  obtain ⟨k, rfl⟩ : ∃ k, th = k + 1 := ⟨th - 1, by omega⟩
  rw [Nat.add_sub_cancel] at he
  match k, he with
  | 0, he => exact Or.inl ⟨rfl, (Option.some.inj he).symm⟩
  | 1, he => exact Or.inr ⟨rfl, (Option.some.inj he).symm⟩
theorem xcase3 {th : Nat} {a b c E : String} (h : xOk th [a, b, c] E) : (th = 1 ∧ E = a) ∨ (th = 2 ∧ E = b) ∨ (th = 3 ∧ E = c) := by
  obtain ⟨h0, he⟩ := h
  obtain ⟨k, rfl⟩ : ∃ k, th = k + 1 := ⟨th - 1, by omega⟩
  rw [Nat.add_sub_cancel] at he
  match k, he with
  | 0, he => exact Or.inl ⟨rfl, (Option.some.inj he).symm⟩
  | 1, he => exact Or.inr (Or.inl ⟨rfl, (Option.some.inj he).symm⟩)
  | 2, he => exact Or.inr (Or.inr ⟨rfl, (Option.some.inj he).symm⟩)
def wEnd (G : mG) (N : Mem) (Γ : Adr) (o : Nat) (f : Nat → Int64) (th rs : Nat) (nx : Sg) (M : Mem) : Int32 → Mem → Prop := fun r M' => r = nI th ∧ ((th = 0 ∧ ∃ (Γ' : Adr) (ρ' : Sg), Γ' 0 0 = Γ 0 0 ∧ HS nx ρ' ∧ Rp G (va_up N o (some (eJ (G.2.1 3) 1 (vp_updL f 0 (nI rs).toInt64)))) Γ' (cs nx ρ') M') ∨ (th ≠ 0 ∧ M' = M))

set_option maxHeartbeats 4000000 in
set_option maxRecDepth 100000 in
theorem l_addShip (l : Launch) (hst : l.stackTraces = false) (G : mG) (N : Mem) (Γ : Adr) (σ ρ : Sg)  (hH : HS σ ρ) (o : Nat) (f : Nat → Int64) (hN : N o = some (eJ (G.2.1 3) 1 f)) (M : Mem) (sz : Nat) (hR : Rp G N Γ (cs σ ρ) M) : cWi l yL_addShip wsL_addShip 9 14 200 G M sz [.ref (Γ 0 0), .ref o] (wEnd G N Γ o f (thA σ) (σ 0 0) (nxA σ) M) := by
  refine m_startW cL_addShip 3 (some .int) [(0, 8, 11, 13)] (by decide) rfl (Nat.le_of_ble_eq_true rfl) ?_
  intro p e s m below meth c ls hx hb hr hml hown hlk hts hK hsz hE hW hl htab hNc
  have hA := mA_A (M := M) hsz
  have hl : lv_has ls 3 [(0, .ref (Γ 0 0)), (1, .ref o)] := hl
  refine lv_aload_n hx hb dL_addShip_0 rfl (lv_at hl 1 rfl) ?_
  refine lv_iconst (v := nI 0) hx hb dL_addShip_1 (by decide) ?_
  refine lv_aload_n hx hb dL_addShip_2 rfl (lv_at hl 0 rfl) ?_
  refine mx_w (vx_runV (As := []) (nL := 3) ⟨hx, hb, hml, hown, hts⟩ (wAddShip l hst G N Γ σ ρ  hH _ _ hR) (cwV 0 hts gL_addShip_X4_addShip rfl rfl rfl (by decide +kernel) ⟨(Nat.le_of_ble_eq_true rfl), (Nat.le_of_ble_eq_true rfl)⟩) (mp_V hK hE hW hA (mW_recv hK hW.1 hR.o0 (by rfl))) rfl rfl hl.1 rfl (lv_room (Nat.le_of_ble_eq_true rfl)) dL_addShip_3 ⟨(Nat.le_of_ble_eq_true rfl), (Nat.le_of_ble_eq_true rfl)⟩) hW hA (fun E9 ce9 q9 H locs hxp hW hcell hv9 hcl => ?_) (fun r9 M9 H locs hp hW => ?_)
  · skip
    obtain ⟨hth, rfl⟩ := xcase1 hxp
    refine vx_catch (own := RL) (name := "java/lang/IllegalStateException") (E := "java/lang/IllegalStateException") hown (tableOf []) ⟨0, 8, 11, 13⟩ (tableOf []) (htab.trans rfl) (fun z hz => absurd hz List.not_mem_nil) (by decide) (by decide) (hts (.classLink RL 13 "java/lang/IllegalStateException") (by decide +kernel)) (va_Nw.use rfl (hE.2.2.2.2.2.2.2.2 _ (.tail _ (.tail _ (.head _))))) hcell hv9 hcl ?_
    refine W.eq (g2 := F0 m 11 ls [.ref q9]) rfl ?_
    refine lv_astore_n (lv' := [(2, .ref q9), (0, .ref (Γ 0 0)), (1, .ref o)]) hx hb dL_addShip_11 rfl hl (by decide) rfl (fun ls hl => ?_)
    refine lv_iconst (v := nI 1) hx hb dL_addShip_12 (by decide) ?_
    exact vx_ret (mr_iret hx hb hr hlk (Nat.le_of_ble_eq_true rfl) (Nat.le_of_ble_eq_true rfl) hW ⟨by rw [hth], Or.inr ⟨by omega, rfl⟩⟩ dL_addShip_13)
  · skip
    obtain ⟨hth, hr9, Γ1, ρ1, h00, hR1, hH1⟩ := hp
    subst hr9
    refine lv_i2l hx hb dL_addShip_6 rfl ?_
    refine mr_jast (j := 0) hx hb hK hW 3 (hR1.nb hN) (by rfl) rfl (by decide) (by decide) dL_addShip_7 (fun H locs hW => ?_)
    refine lv_goto (tgt := 14) hx hb dL_addShip_8 (by decide) ?_
    refine lv_iconst (v := nI 0) hx hb dL_addShip_14 (by decide) ?_
    exact vx_ret (mr_iret hx hb hr hlk (Nat.le_of_ble_eq_true rfl) (Nat.le_of_ble_eq_true rfl) hW ⟨by rw [hth], Or.inl ⟨hth, Γ1, ρ1, h00, hH1, hR1.putN hN⟩⟩ dL_addShip_15)

set_option maxHeartbeats 4000000 in
set_option maxRecDepth 100000 in
theorem l_call (l : Launch) (hst : l.stackTraces = false) (G : mG) (N : Mem) (Γ : Adr) (σ ρ : Sg) (u : Nat) (hu : u < 4294967296) (q : Nat) (hq : q < 4294967296) (a : Nat) (ha : a < 4294967296) (d : Nat) (hd : d < 4294967296) (hH : HS σ ρ) (o : Nat) (f : Nat → Int64) (hN : N o = some (eJ (G.2.1 3) 1 f)) (M : Mem) (sz : Nat) (hR : Rp G N Γ (cs σ ρ) M) : cWi l yL_call wsL_call 8 5 30 G M sz [.ref (Γ 0 0), .int (nI u), .int (nI q), .int (nI a), .int (nI d), .ref o] (wEnd G N Γ o f (thC σ u q a d) (σ 3 (21 * u + 20) + 1) (nxC σ u q a d) M) := by
  refine m_startW cL_call 7 (some .int) [(0, 14, 17, 19), (0, 14, 21, 21), (0, 14, 25, 13)] (by decide) rfl (Nat.le_of_ble_eq_true rfl) ?_
  intro p e s m below meth c ls hx hb hr hml hown hlk hts hK hsz hE hW hl htab hNc
  have hA := mA_A (M := M) hsz
  have hl : lv_has ls 7 [(0, .ref (Γ 0 0)), (1, .int (nI u)), (2, .int (nI q)), (3, .int (nI a)), (4, .int (nI d)), (5, .ref o)] := hl
  refine lv_aload hx hb dL_call_0 (lv_at hl 5 rfl) ?_
  refine lv_iconst (v := nI 0) hx hb dL_call_2 (by decide) ?_
  refine lv_aload_n hx hb dL_call_3 rfl (lv_at hl 0 rfl) ?_
  refine lv_iload_n hx hb dL_call_4 rfl (lv_at hl 1 rfl) ?_
  refine lv_iload_n hx hb dL_call_5 rfl (lv_at hl 2 rfl) ?_
  refine lv_iload_n hx hb dL_call_6 rfl (lv_at hl 3 rfl) ?_
  refine lv_iload hx hb dL_call_7 (lv_at hl 4 rfl) ?_
  refine mx_w (vx_runV (As := [.int (nI u), .int (nI q), .int (nI a), .int (nI d)]) (nL := 7) ⟨hx, hb, hml, hown, hts⟩ (wCall l hst G N Γ σ ρ u hu q hq a ha d hd hH _ _ hR) (cwV 4 hts gL_call_X4_call rfl rfl rfl (by decide +kernel) ⟨(Nat.le_of_ble_eq_true rfl), (Nat.le_of_ble_eq_true rfl)⟩) (mp_V hK hE hW hA (mW_recv hK hW.1 hR.o0 (by rfl))) rfl rfl hl.1 rfl (lv_room (Nat.le_of_ble_eq_true rfl)) dL_call_9 ⟨(Nat.le_of_ble_eq_true rfl), (Nat.le_of_ble_eq_true rfl)⟩) hW hA (fun E9 ce9 q9 H locs hxp hW hcell hv9 hcl => ?_) (fun r9 M9 H locs hp hW => ?_)
  · skip
    rcases xcase3 hxp with ⟨hth, rfl⟩ | ⟨hth, rfl⟩ | ⟨hth, rfl⟩
    · skip
      refine vx_catch (own := RL) (name := "java/lang/IndexOutOfBoundsException") (E := "java/lang/IndexOutOfBoundsException") hown (tableOf []) ⟨0, 14, 17, 19⟩ (tableOf [(0, 14, 21, 21), (0, 14, 25, 13)]) (htab.trans rfl) (fun z hz => absurd hz List.not_mem_nil) (by decide) (by decide) (hts (.classLink RL 19 "java/lang/IndexOutOfBoundsException") (by decide +kernel)) (va_Nw.use rfl (hE.2.2.2.2.2.2.2.2 _ (.head _))) hcell hv9 hcl ?_
      refine W.eq (g2 := F0 m 17 ls [.ref q9]) rfl ?_
      refine lv_astore (lv' := [(6, .ref q9), (0, .ref (Γ 0 0)), (1, .int (nI u)), (2, .int (nI q)), (3, .int (nI a)), (4, .int (nI d)), (5, .ref o)]) hx hb dL_call_17 hl (by decide) rfl (fun ls hl => ?_)
      refine lv_iconst (v := nI 1) hx hb dL_call_19 (by decide) ?_
      exact vx_ret (mr_iret hx hb hr hlk (Nat.le_of_ble_eq_true rfl) (Nat.le_of_ble_eq_true rfl) hW ⟨by rw [hth], Or.inr ⟨by omega, rfl⟩⟩ dL_call_20)
    · skip
      refine vx_catch (own := RL) (name := "java/lang/IllegalArgumentException") (E := "java/lang/IllegalArgumentException") hown (tableOf [(0, 14, 17, 19)]) ⟨0, 14, 21, 21⟩ (tableOf [(0, 14, 25, 13)]) (htab.trans rfl) (fun z hz => (List.mem_cons.mp hz).elim (fun h9 => by subst h9; exact Or.inr ⟨by decide, "java/lang/IndexOutOfBoundsException", hts (.classLink RL 19 "java/lang/IndexOutOfBoundsException") (by decide +kernel), hNc _ (.head _)⟩) (fun hz => absurd hz List.not_mem_nil)) (by decide) (by decide) (hts (.classLink RL 21 "java/lang/IllegalArgumentException") (by decide +kernel)) (va_Nw.use rfl (hE.2.2.2.2.2.2.2.2 _ (.tail _ (.head _)))) hcell hv9 hcl ?_
      refine W.eq (g2 := F0 m 21 ls [.ref q9]) rfl ?_
      refine lv_astore (lv' := [(6, .ref q9), (0, .ref (Γ 0 0)), (1, .int (nI u)), (2, .int (nI q)), (3, .int (nI a)), (4, .int (nI d)), (5, .ref o)]) hx hb dL_call_21 hl (by decide) rfl (fun ls hl => ?_)
      refine lv_iconst (v := nI 2) hx hb dL_call_23 (by decide) ?_
      exact vx_ret (mr_iret hx hb hr hlk (Nat.le_of_ble_eq_true rfl) (Nat.le_of_ble_eq_true rfl) hW ⟨by rw [hth], Or.inr ⟨by omega, rfl⟩⟩ dL_call_24)
    · skip
      refine vx_catch (own := RL) (name := "java/lang/IllegalStateException") (E := "java/lang/IllegalStateException") hown (tableOf [(0, 14, 17, 19), (0, 14, 21, 21)]) ⟨0, 14, 25, 13⟩ (tableOf []) (htab.trans rfl) (fun z hz => (List.mem_cons.mp hz).elim (fun h9 => by subst h9; exact Or.inr ⟨by decide, "java/lang/IndexOutOfBoundsException", hts (.classLink RL 19 "java/lang/IndexOutOfBoundsException") (by decide +kernel), hNc _ (.tail _ (.head _))⟩) (fun hz => (List.mem_cons.mp hz).elim (fun h9 => by subst h9; exact Or.inr ⟨by decide, "java/lang/IllegalArgumentException", hts (.classLink RL 21 "java/lang/IllegalArgumentException") (by decide +kernel), hNc _ (.tail _ (.tail _ (.head _)))⟩) (fun hz => absurd hz List.not_mem_nil))) (by decide) (by decide) (hts (.classLink RL 13 "java/lang/IllegalStateException") (by decide +kernel)) (va_Nw.use rfl (hE.2.2.2.2.2.2.2.2 _ (.tail _ (.tail _ (.head _))))) hcell hv9 hcl ?_
      refine W.eq (g2 := F0 m 25 ls [.ref q9]) rfl ?_
      refine lv_astore (lv' := [(6, .ref q9), (0, .ref (Γ 0 0)), (1, .int (nI u)), (2, .int (nI q)), (3, .int (nI a)), (4, .int (nI d)), (5, .ref o)]) hx hb dL_call_25 hl (by decide) rfl (fun ls hl => ?_)
      refine lv_iconst (v := nI 3) hx hb dL_call_27 (by decide) ?_
      exact vx_ret (mr_iret hx hb hr hlk (Nat.le_of_ble_eq_true rfl) (Nat.le_of_ble_eq_true rfl) hW ⟨by rw [hth], Or.inr ⟨by omega, rfl⟩⟩ dL_call_28)
  · skip
    obtain ⟨hth, hr9, Γ1, ρ1, h00, hR1, hH1⟩ := hp
    subst hr9
    refine lv_i2l hx hb dL_call_12 rfl ?_
    refine mr_jast (j := 0) hx hb hK hW 3 (hR1.nb hN) (by rfl) rfl (by decide) (by decide) dL_call_13 (fun H locs hW => ?_)
    refine lv_goto (tgt := 29) hx hb dL_call_14 (by decide) ?_
    refine lv_iconst (v := nI 0) hx hb dL_call_29 (by decide) ?_
    exact vx_ret (mr_iret hx hb hr hlk (Nat.le_of_ble_eq_true rfl) (Nat.le_of_ble_eq_true rfl) hW ⟨by rw [hth], Or.inl ⟨hth, Γ1, ρ1, h00, hH1, hR1.putN hN⟩⟩ dL_call_30)

set_option maxHeartbeats 4000000 in
set_option maxRecDepth 100000 in
theorem l_tell (l : Launch) (hst : l.stackTraces = false) (G : mG) (N : Mem) (Γ : Adr) (σ ρ : Sg) (u : Nat) (hu : u < 4294967296) (q : Nat) (hq : q < 4294967296) (hH : HS σ ρ) (o : Nat) (f : Nat → Int64) (hN : N o = some (eJ (G.2.1 3) 1 f)) (M : Mem) (sz : Nat) (hR : Rp G N Γ (cs σ ρ) M) : cWi l yL_tell wsL_tell 9 9 120 G M sz [.ref (Γ 0 0), .int (nI u), .int (nI q), .ref o] (wEnd G N Γ o f (thT σ u q) (σ 7 u) (nxT σ u q) M) := by
  refine m_startW cL_tell 5 (some .int) [(0, 10, 13, 19), (0, 10, 17, 13)] (by decide) rfl (Nat.le_of_ble_eq_true rfl) ?_
  intro p e s m below meth c ls hx hb hr hml hown hlk hts hK hsz hE hW hl htab hNc
  have hA := mA_A (M := M) hsz
  have hl : lv_has ls 5 [(0, .ref (Γ 0 0)), (1, .int (nI u)), (2, .int (nI q)), (3, .ref o)] := hl
  refine lv_aload_n hx hb dL_tell_0 rfl (lv_at hl 3 rfl) ?_
  refine lv_iconst (v := nI 0) hx hb dL_tell_1 (by decide) ?_
  refine lv_aload_n hx hb dL_tell_2 rfl (lv_at hl 0 rfl) ?_
  refine lv_iload_n hx hb dL_tell_3 rfl (lv_at hl 1 rfl) ?_
  refine lv_iload_n hx hb dL_tell_4 rfl (lv_at hl 2 rfl) ?_
  refine mx_w (vx_runV (As := [.int (nI u), .int (nI q)]) (nL := 5) ⟨hx, hb, hml, hown, hts⟩ (wTell l hst G N Γ σ ρ u hu q hq hH _ _ hR) (cwV 2 hts gL_tell_X4_tell rfl rfl rfl (by decide +kernel) ⟨(Nat.le_of_ble_eq_true rfl), (Nat.le_of_ble_eq_true rfl)⟩) (mp_V hK hE hW hA (mW_recv hK hW.1 hR.o0 (by rfl))) rfl rfl hl.1 rfl (lv_room (Nat.le_of_ble_eq_true rfl)) dL_tell_5 ⟨(Nat.le_of_ble_eq_true rfl), (Nat.le_of_ble_eq_true rfl)⟩) hW hA (fun E9 ce9 q9 H locs hxp hW hcell hv9 hcl => ?_) (fun r9 M9 H locs hp hW => ?_)
  · skip
    rcases xcase2 hxp with ⟨hth, rfl⟩ | ⟨hth, rfl⟩
    · skip
      refine vx_catch (own := RL) (name := "java/lang/IndexOutOfBoundsException") (E := "java/lang/IndexOutOfBoundsException") hown (tableOf []) ⟨0, 10, 13, 19⟩ (tableOf [(0, 10, 17, 13)]) (htab.trans rfl) (fun z hz => absurd hz List.not_mem_nil) (by decide) (by decide) (hts (.classLink RL 19 "java/lang/IndexOutOfBoundsException") (by decide +kernel)) (va_Nw.use rfl (hE.2.2.2.2.2.2.2.2 _ (.head _))) hcell hv9 hcl ?_
      refine W.eq (g2 := F0 m 13 ls [.ref q9]) rfl ?_
      refine lv_astore (lv' := [(4, .ref q9), (0, .ref (Γ 0 0)), (1, .int (nI u)), (2, .int (nI q)), (3, .ref o)]) hx hb dL_tell_13 hl (by decide) rfl (fun ls hl => ?_)
      refine lv_iconst (v := nI 1) hx hb dL_tell_15 (by decide) ?_
      exact vx_ret (mr_iret hx hb hr hlk (Nat.le_of_ble_eq_true rfl) (Nat.le_of_ble_eq_true rfl) hW ⟨by rw [hth], Or.inr ⟨by omega, rfl⟩⟩ dL_tell_16)
    · skip
      refine vx_catch (own := RL) (name := "java/lang/IllegalStateException") (E := "java/lang/IllegalStateException") hown (tableOf [(0, 10, 13, 19)]) ⟨0, 10, 17, 13⟩ (tableOf []) (htab.trans rfl) (fun z hz => (List.mem_cons.mp hz).elim (fun h9 => by subst h9; exact Or.inr ⟨by decide, "java/lang/IndexOutOfBoundsException", hts (.classLink RL 19 "java/lang/IndexOutOfBoundsException") (by decide +kernel), hNc _ (.tail _ (.head _))⟩) (fun hz => absurd hz List.not_mem_nil)) (by decide) (by decide) (hts (.classLink RL 13 "java/lang/IllegalStateException") (by decide +kernel)) (va_Nw.use rfl (hE.2.2.2.2.2.2.2.2 _ (.tail _ (.tail _ (.head _))))) hcell hv9 hcl ?_
      refine W.eq (g2 := F0 m 17 ls [.ref q9]) rfl ?_
      refine lv_astore (lv' := [(4, .ref q9), (0, .ref (Γ 0 0)), (1, .int (nI u)), (2, .int (nI q)), (3, .ref o)]) hx hb dL_tell_17 hl (by decide) rfl (fun ls hl => ?_)
      refine lv_iconst (v := nI 2) hx hb dL_tell_19 (by decide) ?_
      exact vx_ret (mr_iret hx hb hr hlk (Nat.le_of_ble_eq_true rfl) (Nat.le_of_ble_eq_true rfl) hW ⟨by rw [hth], Or.inr ⟨by omega, rfl⟩⟩ dL_tell_20)
  · skip
    obtain ⟨hth, hr9, Γ1, ρ1, h00, hR1, hH1⟩ := hp
    subst hr9
    refine lv_i2l hx hb dL_tell_8 rfl ?_
    refine mr_jast (j := 0) hx hb hK hW 3 (hR1.nb hN) (by rfl) rfl (by decide) (by decide) dL_tell_9 (fun H locs hW => ?_)
    refine lv_goto (tgt := 21) hx hb dL_tell_10 (by decide) ?_
    refine lv_iconst (v := nI 0) hx hb dL_tell_21 (by decide) ?_
    exact vx_ret (mr_iret hx hb hr hlk (Nat.le_of_ble_eq_true rfl) (Nat.le_of_ble_eq_true rfl) hW ⟨by rw [hth], Or.inl ⟨hth, Γ1, ρ1, h00, hH1, hR1.putN hN⟩⟩ dL_tell_22)

set_option maxHeartbeats 4000000 in
set_option maxRecDepth 100000 in
theorem l_shipAt (l : Launch) (hst : l.stackTraces = false) (G : mG) (N : Mem) (Γ : Adr) (σ ρ : Sg) (u : Nat) (hu : u < 4294967296) (hH : HS σ ρ) (o : Nat) (f : Nat → Int64) (hN : N o = some (eJ (G.2.1 3) 1 f)) (M : Mem) (sz : Nat) (hR : Rp G N Γ (cs σ ρ) M) : cWi l yL_shipAt wsL_shipAt 8 5 30 G M sz [.ref (Γ 0 0), .int (nI u), .ref o] (wEnd G N Γ o f (thS σ u) (plS σ u) (σ) M) := by
  refine m_startW cL_shipAt 4 (some .int) [(0, 9, 12, 19)] (by decide) rfl (Nat.le_of_ble_eq_true rfl) ?_
  intro p e s m below meth c ls hx hb hr hml hown hlk hts hK hsz hE hW hl htab hNc
  have hA := mA_A (M := M) hsz
  have hl : lv_has ls 4 [(0, .ref (Γ 0 0)), (1, .int (nI u)), (2, .ref o)] := hl
  refine lv_aload_n hx hb dL_shipAt_0 rfl (lv_at hl 2 rfl) ?_
  refine lv_iconst (v := nI 0) hx hb dL_shipAt_1 (by decide) ?_
  refine lv_aload_n hx hb dL_shipAt_2 rfl (lv_at hl 0 rfl) ?_
  refine lv_iload_n hx hb dL_shipAt_3 rfl (lv_at hl 1 rfl) ?_
  refine mx_w (vx_runV (As := [.int (nI u)]) (nL := 4) ⟨hx, hb, hml, hown, hts⟩ (wShipAt l hst G N Γ σ ρ u hu hH _ _ hR) (cwV 1 hts gL_shipAt_X4_shipAt rfl rfl rfl (by decide +kernel) ⟨(Nat.le_of_ble_eq_true rfl), (Nat.le_of_ble_eq_true rfl)⟩) (mp_V hK hE hW hA (mW_recv hK hW.1 hR.o0 (by rfl))) rfl rfl hl.1 rfl (lv_room (Nat.le_of_ble_eq_true rfl)) dL_shipAt_4 ⟨(Nat.le_of_ble_eq_true rfl), (Nat.le_of_ble_eq_true rfl)⟩) hW hA (fun E9 ce9 q9 H locs hxp hW hcell hv9 hcl => ?_) (fun r9 M9 H locs hp hW => ?_)
  · skip
    obtain ⟨hth, rfl⟩ := xcase1 hxp
    refine vx_catch (own := RL) (name := "java/lang/IndexOutOfBoundsException") (E := "java/lang/IndexOutOfBoundsException") hown (tableOf []) ⟨0, 9, 12, 19⟩ (tableOf []) (htab.trans rfl) (fun z hz => absurd hz List.not_mem_nil) (by decide) (by decide) (hts (.classLink RL 19 "java/lang/IndexOutOfBoundsException") (by decide +kernel)) (va_Nw.use rfl (hE.2.2.2.2.2.2.2.2 _ (.head _))) hcell hv9 hcl ?_
    refine W.eq (g2 := F0 m 12 ls [.ref q9]) rfl ?_
    refine lv_astore_n (lv' := [(3, .ref q9), (0, .ref (Γ 0 0)), (1, .int (nI u)), (2, .ref o)]) hx hb dL_shipAt_12 rfl hl (by decide) rfl (fun ls hl => ?_)
    refine lv_iconst (v := nI 1) hx hb dL_shipAt_13 (by decide) ?_
    exact vx_ret (mr_iret hx hb hr hlk (Nat.le_of_ble_eq_true rfl) (Nat.le_of_ble_eq_true rfl) hW ⟨by rw [hth], Or.inr ⟨by omega, rfl⟩⟩ dL_shipAt_14)
  · skip
    obtain ⟨hth, hr9, Γ1, ρ1, h00, hR1, hH1⟩ := hp
    subst hr9
    refine lv_i2l hx hb dL_shipAt_7 rfl ?_
    refine mr_jast (j := 0) hx hb hK hW 3 (hR1.nb hN) (by rfl) rfl (by decide) (by decide) dL_shipAt_8 (fun H locs hW => ?_)
    refine lv_goto (tgt := 15) hx hb dL_shipAt_9 (by decide) ?_
    refine lv_iconst (v := nI 0) hx hb dL_shipAt_15 (by decide) ?_
    exact vx_ret (mr_iret hx hb hr hlk (Nat.le_of_ble_eq_true rfl) (Nat.le_of_ble_eq_true rfl) hW ⟨by rw [hth], Or.inl ⟨hth, Γ1, ρ1, h00, hH1, hR1.putN hN⟩⟩ dL_shipAt_16)

set_option maxHeartbeats 4000000 in
set_option maxRecDepth 100000 in
theorem l_routes (l : Launch) (hst : l.stackTraces = false) (G : mG) (N : Mem) (Γ : Adr) (σ ρ : Sg) (u : Nat) (hu : u < 4294967296) (hH : HS σ ρ) (o : Nat) (f : Nat → Int64) (hN : N o = some (eJ (G.2.1 3) 1 f)) (M : Mem) (sz : Nat) (hR : Rp G N Γ (cs σ ρ) M) : cWi l yL_routes wsL_routes 8 5 30 G M sz [.ref (Γ 0 0), .int (nI u), .ref o] (wEnd G N Γ o f (thS σ u) (σ 7 u) (σ) M) := by
  refine m_startW cL_routes 4 (some .int) [(0, 9, 12, 19)] (by decide) rfl (Nat.le_of_ble_eq_true rfl) ?_
  intro p e s m below meth c ls hx hb hr hml hown hlk hts hK hsz hE hW hl htab hNc
  have hA := mA_A (M := M) hsz
  have hl : lv_has ls 4 [(0, .ref (Γ 0 0)), (1, .int (nI u)), (2, .ref o)] := hl
  refine lv_aload_n hx hb dL_routes_0 rfl (lv_at hl 2 rfl) ?_
  refine lv_iconst (v := nI 0) hx hb dL_routes_1 (by decide) ?_
  refine lv_aload_n hx hb dL_routes_2 rfl (lv_at hl 0 rfl) ?_
  refine lv_iload_n hx hb dL_routes_3 rfl (lv_at hl 1 rfl) ?_
  refine mx_w (vx_runV (As := [.int (nI u)]) (nL := 4) ⟨hx, hb, hml, hown, hts⟩ (wRoutes l hst G N Γ σ ρ u hu hH _ _ hR) (cwV 1 hts gL_routes_X4_routes rfl rfl rfl (by decide +kernel) ⟨(Nat.le_of_ble_eq_true rfl), (Nat.le_of_ble_eq_true rfl)⟩) (mp_V hK hE hW hA (mW_recv hK hW.1 hR.o0 (by rfl))) rfl rfl hl.1 rfl (lv_room (Nat.le_of_ble_eq_true rfl)) dL_routes_4 ⟨(Nat.le_of_ble_eq_true rfl), (Nat.le_of_ble_eq_true rfl)⟩) hW hA (fun E9 ce9 q9 H locs hxp hW hcell hv9 hcl => ?_) (fun r9 M9 H locs hp hW => ?_)
  · skip
    obtain ⟨hth, rfl⟩ := xcase1 hxp
    refine vx_catch (own := RL) (name := "java/lang/IndexOutOfBoundsException") (E := "java/lang/IndexOutOfBoundsException") hown (tableOf []) ⟨0, 9, 12, 19⟩ (tableOf []) (htab.trans rfl) (fun z hz => absurd hz List.not_mem_nil) (by decide) (by decide) (hts (.classLink RL 19 "java/lang/IndexOutOfBoundsException") (by decide +kernel)) (va_Nw.use rfl (hE.2.2.2.2.2.2.2.2 _ (.head _))) hcell hv9 hcl ?_
    refine W.eq (g2 := F0 m 12 ls [.ref q9]) rfl ?_
    refine lv_astore_n (lv' := [(3, .ref q9), (0, .ref (Γ 0 0)), (1, .int (nI u)), (2, .ref o)]) hx hb dL_routes_12 rfl hl (by decide) rfl (fun ls hl => ?_)
    refine lv_iconst (v := nI 1) hx hb dL_routes_13 (by decide) ?_
    exact vx_ret (mr_iret hx hb hr hlk (Nat.le_of_ble_eq_true rfl) (Nat.le_of_ble_eq_true rfl) hW ⟨by rw [hth], Or.inr ⟨by omega, rfl⟩⟩ dL_routes_14)
  · skip
    obtain ⟨hth, hr9, Γ1, ρ1, h00, hR1, hH1⟩ := hp
    subst hr9
    refine lv_i2l hx hb dL_routes_7 rfl ?_
    refine mr_jast (j := 0) hx hb hK hW 3 (hR1.nb hN) (by rfl) rfl (by decide) (by decide) dL_routes_8 (fun H locs hW => ?_)
    refine lv_goto (tgt := 15) hx hb dL_routes_9 (by decide) ?_
    refine lv_iconst (v := nI 0) hx hb dL_routes_15 (by decide) ?_
    exact vx_ret (mr_iret hx hb hr hlk (Nat.le_of_ble_eq_true rfl) (Nat.le_of_ble_eq_true rfl) hW ⟨by rw [hth], Or.inl ⟨hth, Γ1, ρ1, h00, hH1, hR1.putN hN⟩⟩ dL_routes_16)

set_option maxHeartbeats 4000000 in
set_option maxRecDepth 100000 in
theorem l_word (l : Launch) (hst : l.stackTraces = false) (G : mG) (N : Mem) (Γ : Adr) (σ ρ : Sg) (q : Nat) (hq : q < 4294967296) (u : Nat) (hu : u < 4294967296) (hH : HS σ ρ) (o : Nat) (f : Nat → Int64) (hN : N o = some (eJ (G.2.1 3) 1 f)) (M : Mem) (sz : Nat) (hR : Rp G N Γ (cs σ ρ) M) : cWi l yL_word wsL_word 8 5 30 G M sz [.ref (Γ 0 0), .int (nI q), .int (nI u), .ref o] (wEnd G N Γ o f (thW σ q u) (woS σ q u) (σ) M) := by
  refine m_startW cL_word 5 (some .int) [(0, 10, 13, 19)] (by decide) rfl (Nat.le_of_ble_eq_true rfl) ?_
  intro p e s m below meth c ls hx hb hr hml hown hlk hts hK hsz hE hW hl htab hNc
  have hA := mA_A (M := M) hsz
  have hl : lv_has ls 5 [(0, .ref (Γ 0 0)), (1, .int (nI q)), (2, .int (nI u)), (3, .ref o)] := hl
  refine lv_aload_n hx hb dL_word_0 rfl (lv_at hl 3 rfl) ?_
  refine lv_iconst (v := nI 0) hx hb dL_word_1 (by decide) ?_
  refine lv_aload_n hx hb dL_word_2 rfl (lv_at hl 0 rfl) ?_
  refine lv_iload_n hx hb dL_word_3 rfl (lv_at hl 1 rfl) ?_
  refine lv_iload_n hx hb dL_word_4 rfl (lv_at hl 2 rfl) ?_
  refine mx_w (vx_runV (As := [.int (nI q), .int (nI u)]) (nL := 5) ⟨hx, hb, hml, hown, hts⟩ (wWord l hst G N Γ σ ρ q hq u hu hH _ _ hR) (cwV 2 hts gL_word_X4_word rfl rfl rfl (by decide +kernel) ⟨(Nat.le_of_ble_eq_true rfl), (Nat.le_of_ble_eq_true rfl)⟩) (mp_V hK hE hW hA (mW_recv hK hW.1 hR.o0 (by rfl))) rfl rfl hl.1 rfl (lv_room (Nat.le_of_ble_eq_true rfl)) dL_word_5 ⟨(Nat.le_of_ble_eq_true rfl), (Nat.le_of_ble_eq_true rfl)⟩) hW hA (fun E9 ce9 q9 H locs hxp hW hcell hv9 hcl => ?_) (fun r9 M9 H locs hp hW => ?_)
  · skip
    obtain ⟨hth, rfl⟩ := xcase1 hxp
    refine vx_catch (own := RL) (name := "java/lang/IndexOutOfBoundsException") (E := "java/lang/IndexOutOfBoundsException") hown (tableOf []) ⟨0, 10, 13, 19⟩ (tableOf []) (htab.trans rfl) (fun z hz => absurd hz List.not_mem_nil) (by decide) (by decide) (hts (.classLink RL 19 "java/lang/IndexOutOfBoundsException") (by decide +kernel)) (va_Nw.use rfl (hE.2.2.2.2.2.2.2.2 _ (.head _))) hcell hv9 hcl ?_
    refine W.eq (g2 := F0 m 13 ls [.ref q9]) rfl ?_
    refine lv_astore (lv' := [(4, .ref q9), (0, .ref (Γ 0 0)), (1, .int (nI q)), (2, .int (nI u)), (3, .ref o)]) hx hb dL_word_13 hl (by decide) rfl (fun ls hl => ?_)
    refine lv_iconst (v := nI 1) hx hb dL_word_15 (by decide) ?_
    exact vx_ret (mr_iret hx hb hr hlk (Nat.le_of_ble_eq_true rfl) (Nat.le_of_ble_eq_true rfl) hW ⟨by rw [hth], Or.inr ⟨by omega, rfl⟩⟩ dL_word_16)
  · skip
    obtain ⟨hth, hr9, Γ1, ρ1, h00, hR1, hH1⟩ := hp
    subst hr9
    refine lv_i2l hx hb dL_word_8 rfl ?_
    refine mr_jast (j := 0) hx hb hK hW 3 (hR1.nb hN) (by rfl) rfl (by decide) (by decide) dL_word_9 (fun H locs hW => ?_)
    refine lv_goto (tgt := 17) hx hb dL_word_10 (by decide) ?_
    refine lv_iconst (v := nI 0) hx hb dL_word_17 (by decide) ?_
    exact vx_ret (mr_iret hx hb hr hlk (Nat.le_of_ble_eq_true rfl) (Nat.le_of_ble_eq_true rfl) hW ⟨by rw [hth], Or.inl ⟨hth, Γ1, ρ1, h00, hH1, hR1.putN hN⟩⟩ dL_word_18)

set_option maxHeartbeats 4000000 in
set_option maxRecDepth 100000 in
theorem l_behind (l : Launch) (hst : l.stackTraces = false) (G : mG) (N : Mem) (Γ : Adr) (σ ρ : Sg) (u : Nat) (hu : u < 4294967296) (hH : HS σ ρ) (o : Nat) (f : Nat → Int64) (hN : N o = some (eJ (G.2.1 3) 1 f)) (M : Mem) (sz : Nat) (hR : Rp G N Γ (cs σ ρ) M) : cWi l yL_behind wsL_behind 8 5 30 G M sz [.ref (Γ 0 0), .int (nI u), .ref o] (wEnd G N Γ o f (thS σ u) (beF σ u 10) (σ) M) := by
  refine m_startW cL_behind 4 (some .int) [(0, 9, 12, 19)] (by decide) rfl (Nat.le_of_ble_eq_true rfl) ?_
  intro p e s m below meth c ls hx hb hr hml hown hlk hts hK hsz hE hW hl htab hNc
  have hA := mA_A (M := M) hsz
  have hl : lv_has ls 4 [(0, .ref (Γ 0 0)), (1, .int (nI u)), (2, .ref o)] := hl
  refine lv_aload_n hx hb dL_behind_0 rfl (lv_at hl 2 rfl) ?_
  refine lv_iconst (v := nI 0) hx hb dL_behind_1 (by decide) ?_
  refine lv_aload_n hx hb dL_behind_2 rfl (lv_at hl 0 rfl) ?_
  refine lv_iload_n hx hb dL_behind_3 rfl (lv_at hl 1 rfl) ?_
  refine mx_w (vx_runV (As := [.int (nI u)]) (nL := 4) ⟨hx, hb, hml, hown, hts⟩ (wBehind l hst G N Γ σ ρ u hu hH _ _ hR) (cwV 1 hts gL_behind_X4_behind rfl rfl rfl (by decide +kernel) ⟨(Nat.le_of_ble_eq_true rfl), (Nat.le_of_ble_eq_true rfl)⟩) (mp_V hK hE hW hA (mW_recv hK hW.1 hR.o0 (by rfl))) rfl rfl hl.1 rfl (lv_room (Nat.le_of_ble_eq_true rfl)) dL_behind_4 ⟨(Nat.le_of_ble_eq_true rfl), (Nat.le_of_ble_eq_true rfl)⟩) hW hA (fun E9 ce9 q9 H locs hxp hW hcell hv9 hcl => ?_) (fun r9 M9 H locs hp hW => ?_)
  · skip
    obtain ⟨hth, rfl⟩ := xcase1 hxp
    refine vx_catch (own := RL) (name := "java/lang/IndexOutOfBoundsException") (E := "java/lang/IndexOutOfBoundsException") hown (tableOf []) ⟨0, 9, 12, 19⟩ (tableOf []) (htab.trans rfl) (fun z hz => absurd hz List.not_mem_nil) (by decide) (by decide) (hts (.classLink RL 19 "java/lang/IndexOutOfBoundsException") (by decide +kernel)) (va_Nw.use rfl (hE.2.2.2.2.2.2.2.2 _ (.head _))) hcell hv9 hcl ?_
    refine W.eq (g2 := F0 m 12 ls [.ref q9]) rfl ?_
    refine lv_astore_n (lv' := [(3, .ref q9), (0, .ref (Γ 0 0)), (1, .int (nI u)), (2, .ref o)]) hx hb dL_behind_12 rfl hl (by decide) rfl (fun ls hl => ?_)
    refine lv_iconst (v := nI 1) hx hb dL_behind_13 (by decide) ?_
    exact vx_ret (mr_iret hx hb hr hlk (Nat.le_of_ble_eq_true rfl) (Nat.le_of_ble_eq_true rfl) hW ⟨by rw [hth], Or.inr ⟨by omega, rfl⟩⟩ dL_behind_14)
  · skip
    obtain ⟨hth, hr9, Γ1, ρ1, h00, hR1, hH1⟩ := hp
    subst hr9
    refine lv_i2l hx hb dL_behind_7 rfl ?_
    refine mr_jast (j := 0) hx hb hK hW 3 (hR1.nb hN) (by rfl) rfl (by decide) (by decide) dL_behind_8 (fun H locs hW => ?_)
    refine lv_goto (tgt := 15) hx hb dL_behind_9 (by decide) ?_
    refine lv_iconst (v := nI 0) hx hb dL_behind_15 (by decide) ?_
    exact vx_ret (mr_iret hx hb hr hlk (Nat.le_of_ble_eq_true rfl) (Nat.le_of_ble_eq_true rfl) hW ⟨by rw [hth], Or.inl ⟨hth, Γ1, ρ1, h00, hH1, hR1.putN hN⟩⟩ dL_behind_16)

set_option maxHeartbeats 4000000 in
set_option maxRecDepth 100000 in
theorem l_post (l : Launch) (hst : l.stackTraces = false) (G : mG) (N : Mem) (Γ : Adr) (σ ρ : Sg) (q : Nat) (hq : q < 4294967296) (u : Nat) (hu : u < 4294967296) (h : Nat) (hh : h < 4294967296) (hH : HS σ ρ) (o : Nat) (f : Nat → Int64) (hN : N o = some (eJ (G.2.1 3) 1 f)) (M : Mem) (sz : Nat) (hR : Rp G N Γ (cs σ ρ) M) : cWi l yL_post wsL_post 12 9 300 G M sz [.ref (Γ 0 0), .int (nI q), .int (nI u), .int (nI h), .ref o] (wEnd G N Γ o f (thP σ q u h) (σ 8 0) (po σ q u h) M) := by
  refine m_startW cL_post 6 (some .int) [(0, 12, 15, 19), (0, 12, 19, 13)] (by decide) rfl (Nat.le_of_ble_eq_true rfl) ?_
  intro p e s m below meth c ls hx hb hr hml hown hlk hts hK hsz hE hW hl htab hNc
  have hA := mA_A (M := M) hsz
  have hl : lv_has ls 6 [(0, .ref (Γ 0 0)), (1, .int (nI q)), (2, .int (nI u)), (3, .int (nI h)), (4, .ref o)] := hl
  refine lv_aload hx hb dL_post_0 (lv_at hl 4 rfl) ?_
  refine lv_iconst (v := nI 0) hx hb dL_post_2 (by decide) ?_
  refine lv_aload_n hx hb dL_post_3 rfl (lv_at hl 0 rfl) ?_
  refine lv_iload_n hx hb dL_post_4 rfl (lv_at hl 1 rfl) ?_
  refine lv_iload_n hx hb dL_post_5 rfl (lv_at hl 2 rfl) ?_
  refine lv_iload_n hx hb dL_post_6 rfl (lv_at hl 3 rfl) ?_
  refine mx_w (vx_runV (As := [.int (nI q), .int (nI u), .int (nI h)]) (nL := 6) ⟨hx, hb, hml, hown, hts⟩ (wPost l hst G N Γ σ ρ q hq u hu h hh hH _ _ hR) (cwV 3 hts gL_post_X4_post rfl rfl rfl (by decide +kernel) ⟨(Nat.le_of_ble_eq_true rfl), (Nat.le_of_ble_eq_true rfl)⟩) (mp_V hK hE hW hA (mW_recv hK hW.1 hR.o0 (by rfl))) rfl rfl hl.1 rfl (lv_room (Nat.le_of_ble_eq_true rfl)) dL_post_7 ⟨(Nat.le_of_ble_eq_true rfl), (Nat.le_of_ble_eq_true rfl)⟩) hW hA (fun E9 ce9 q9 H locs hxp hW hcell hv9 hcl => ?_) (fun r9 M9 H locs hp hW => ?_)
  · skip
    rcases xcase2 hxp with ⟨hth, rfl⟩ | ⟨hth, rfl⟩
    · skip
      refine vx_catch (own := RL) (name := "java/lang/IndexOutOfBoundsException") (E := "java/lang/IndexOutOfBoundsException") hown (tableOf []) ⟨0, 12, 15, 19⟩ (tableOf [(0, 12, 19, 13)]) (htab.trans rfl) (fun z hz => absurd hz List.not_mem_nil) (by decide) (by decide) (hts (.classLink RL 19 "java/lang/IndexOutOfBoundsException") (by decide +kernel)) (va_Nw.use rfl (hE.2.2.2.2.2.2.2.2 _ (.head _))) hcell hv9 hcl ?_
      refine W.eq (g2 := F0 m 15 ls [.ref q9]) rfl ?_
      refine lv_astore (lv' := [(5, .ref q9), (0, .ref (Γ 0 0)), (1, .int (nI q)), (2, .int (nI u)), (3, .int (nI h)), (4, .ref o)]) hx hb dL_post_15 hl (by decide) rfl (fun ls hl => ?_)
      refine lv_iconst (v := nI 1) hx hb dL_post_17 (by decide) ?_
      exact vx_ret (mr_iret hx hb hr hlk (Nat.le_of_ble_eq_true rfl) (Nat.le_of_ble_eq_true rfl) hW ⟨by rw [hth], Or.inr ⟨by omega, rfl⟩⟩ dL_post_18)
    · skip
      refine vx_catch (own := RL) (name := "java/lang/IllegalStateException") (E := "java/lang/IllegalStateException") hown (tableOf [(0, 12, 15, 19)]) ⟨0, 12, 19, 13⟩ (tableOf []) (htab.trans rfl) (fun z hz => (List.mem_cons.mp hz).elim (fun h9 => by subst h9; exact Or.inr ⟨by decide, "java/lang/IndexOutOfBoundsException", hts (.classLink RL 19 "java/lang/IndexOutOfBoundsException") (by decide +kernel), hNc _ (.tail _ (.head _))⟩) (fun hz => absurd hz List.not_mem_nil)) (by decide) (by decide) (hts (.classLink RL 13 "java/lang/IllegalStateException") (by decide +kernel)) (va_Nw.use rfl (hE.2.2.2.2.2.2.2.2 _ (.tail _ (.tail _ (.head _))))) hcell hv9 hcl ?_
      refine W.eq (g2 := F0 m 19 ls [.ref q9]) rfl ?_
      refine lv_astore (lv' := [(5, .ref q9), (0, .ref (Γ 0 0)), (1, .int (nI q)), (2, .int (nI u)), (3, .int (nI h)), (4, .ref o)]) hx hb dL_post_19 hl (by decide) rfl (fun ls hl => ?_)
      refine lv_iconst (v := nI 2) hx hb dL_post_21 (by decide) ?_
      exact vx_ret (mr_iret hx hb hr hlk (Nat.le_of_ble_eq_true rfl) (Nat.le_of_ble_eq_true rfl) hW ⟨by rw [hth], Or.inr ⟨by omega, rfl⟩⟩ dL_post_22)
  · skip
    obtain ⟨hth, hr9, Γ1, ρ1, h00, hR1, hH1⟩ := hp
    subst hr9
    refine lv_i2l hx hb dL_post_10 rfl ?_
    refine mr_jast (j := 0) hx hb hK hW 3 (hR1.nb hN) (by rfl) rfl (by decide) (by decide) dL_post_11 (fun H locs hW => ?_)
    refine lv_goto (tgt := 23) hx hb dL_post_12 (by decide) ?_
    refine lv_iconst (v := nI 0) hx hb dL_post_23 (by decide) ?_
    exact vx_ret (mr_iret hx hb hr hlk (Nat.le_of_ble_eq_true rfl) (Nat.le_of_ble_eq_true rfl) hW ⟨by rw [hth], Or.inl ⟨hth, Γ1, ρ1, h00, hH1, hR1.putN hN⟩⟩ dL_post_24)

set_option maxHeartbeats 4000000 in
set_option maxRecDepth 100000 in
theorem l_strike (l : Launch) (hst : l.stackTraces = false) (G : mG) (N : Mem) (Γ : Adr) (σ ρ : Sg) (q : Nat) (hq : q < 4294967296) (d : Nat) (hd : d < 4294967296) (hH : HS σ ρ) (o : Nat) (f : Nat → Int64) (hN : N o = some (eJ (G.2.1 3) 1 f)) (M : Mem) (sz : Nat) (hR : Rp G N Γ (cs σ ρ) M) : cWi l yL_strike wsL_strike 8 5 30 G M sz [.ref (Γ 0 0), .int (nI q), .int (nI d), .ref o] (wEnd G N Γ o f (thK σ q d) (opS σ q d) (nxK σ q d) M) := by
  refine m_startW cL_strike 5 (some .int) [(0, 10, 13, 19), (0, 10, 17, 21)] (by decide) rfl (Nat.le_of_ble_eq_true rfl) ?_
  intro p e s m below meth c ls hx hb hr hml hown hlk hts hK hsz hE hW hl htab hNc
  have hA := mA_A (M := M) hsz
  have hl : lv_has ls 5 [(0, .ref (Γ 0 0)), (1, .int (nI q)), (2, .int (nI d)), (3, .ref o)] := hl
  refine lv_aload_n hx hb dL_strike_0 rfl (lv_at hl 3 rfl) ?_
  refine lv_iconst (v := nI 0) hx hb dL_strike_1 (by decide) ?_
  refine lv_aload_n hx hb dL_strike_2 rfl (lv_at hl 0 rfl) ?_
  refine lv_iload_n hx hb dL_strike_3 rfl (lv_at hl 1 rfl) ?_
  refine lv_iload_n hx hb dL_strike_4 rfl (lv_at hl 2 rfl) ?_
  refine mx_w (vx_runV (As := [.int (nI q), .int (nI d)]) (nL := 5) ⟨hx, hb, hml, hown, hts⟩ (wStrike l hst G N Γ σ ρ q hq d hd hH _ _ hR) (cwV 2 hts gL_strike_X4_strike rfl rfl rfl (by decide +kernel) ⟨(Nat.le_of_ble_eq_true rfl), (Nat.le_of_ble_eq_true rfl)⟩) (mp_V hK hE hW hA (mW_recv hK hW.1 hR.o0 (by rfl))) rfl rfl hl.1 rfl (lv_room (Nat.le_of_ble_eq_true rfl)) dL_strike_5 ⟨(Nat.le_of_ble_eq_true rfl), (Nat.le_of_ble_eq_true rfl)⟩) hW hA (fun E9 ce9 q9 H locs hxp hW hcell hv9 hcl => ?_) (fun r9 M9 H locs hp hW => ?_)
  · skip
    rcases xcase2 hxp with ⟨hth, rfl⟩ | ⟨hth, rfl⟩
    · skip
      refine vx_catch (own := RL) (name := "java/lang/IndexOutOfBoundsException") (E := "java/lang/IndexOutOfBoundsException") hown (tableOf []) ⟨0, 10, 13, 19⟩ (tableOf [(0, 10, 17, 21)]) (htab.trans rfl) (fun z hz => absurd hz List.not_mem_nil) (by decide) (by decide) (hts (.classLink RL 19 "java/lang/IndexOutOfBoundsException") (by decide +kernel)) (va_Nw.use rfl (hE.2.2.2.2.2.2.2.2 _ (.head _))) hcell hv9 hcl ?_
      refine W.eq (g2 := F0 m 13 ls [.ref q9]) rfl ?_
      refine lv_astore (lv' := [(4, .ref q9), (0, .ref (Γ 0 0)), (1, .int (nI q)), (2, .int (nI d)), (3, .ref o)]) hx hb dL_strike_13 hl (by decide) rfl (fun ls hl => ?_)
      refine lv_iconst (v := nI 1) hx hb dL_strike_15 (by decide) ?_
      exact vx_ret (mr_iret hx hb hr hlk (Nat.le_of_ble_eq_true rfl) (Nat.le_of_ble_eq_true rfl) hW ⟨by rw [hth], Or.inr ⟨by omega, rfl⟩⟩ dL_strike_16)
    · skip
      refine vx_catch (own := RL) (name := "java/lang/IllegalArgumentException") (E := "java/lang/IllegalArgumentException") hown (tableOf [(0, 10, 13, 19)]) ⟨0, 10, 17, 21⟩ (tableOf []) (htab.trans rfl) (fun z hz => (List.mem_cons.mp hz).elim (fun h9 => by subst h9; exact Or.inr ⟨by decide, "java/lang/IndexOutOfBoundsException", hts (.classLink RL 19 "java/lang/IndexOutOfBoundsException") (by decide +kernel), hNc _ (.head _)⟩) (fun hz => absurd hz List.not_mem_nil)) (by decide) (by decide) (hts (.classLink RL 21 "java/lang/IllegalArgumentException") (by decide +kernel)) (va_Nw.use rfl (hE.2.2.2.2.2.2.2.2 _ (.tail _ (.head _)))) hcell hv9 hcl ?_
      refine W.eq (g2 := F0 m 17 ls [.ref q9]) rfl ?_
      refine lv_astore (lv' := [(4, .ref q9), (0, .ref (Γ 0 0)), (1, .int (nI q)), (2, .int (nI d)), (3, .ref o)]) hx hb dL_strike_17 hl (by decide) rfl (fun ls hl => ?_)
      refine lv_iconst (v := nI 2) hx hb dL_strike_19 (by decide) ?_
      exact vx_ret (mr_iret hx hb hr hlk (Nat.le_of_ble_eq_true rfl) (Nat.le_of_ble_eq_true rfl) hW ⟨by rw [hth], Or.inr ⟨by omega, rfl⟩⟩ dL_strike_20)
  · skip
    obtain ⟨hth, hr9, Γ1, ρ1, h00, hR1, hH1⟩ := hp
    subst hr9
    refine lv_i2l hx hb dL_strike_8 rfl ?_
    refine mr_jast (j := 0) hx hb hK hW 3 (hR1.nb hN) (by rfl) rfl (by decide) (by decide) dL_strike_9 (fun H locs hW => ?_)
    refine lv_goto (tgt := 21) hx hb dL_strike_10 (by decide) ?_
    refine lv_iconst (v := nI 0) hx hb dL_strike_21 (by decide) ?_
    exact vx_ret (mr_iret hx hb hr hlk (Nat.le_of_ble_eq_true rfl) (Nat.le_of_ble_eq_true rfl) hW ⟨by rw [hth], Or.inl ⟨hth, Γ1, ρ1, h00, hH1, hR1.putN hN⟩⟩ dL_strike_22)

set_option maxHeartbeats 4000000 in
set_option maxRecDepth 100000 in
theorem l_isClosed (l : Launch) (hst : l.stackTraces = false) (G : mG) (N : Mem) (Γ : Adr) (σ ρ : Sg) (q : Nat) (hq : q < 4294967296) (hH : HS σ ρ) (o : Nat) (f : Nat → Int64) (hN : N o = some (eJ (G.2.1 3) 1 f)) (M : Mem) (sz : Nat) (hR : Rp G N Γ (cs σ ρ) M) : cWi l yL_isClosed wsL_isClosed 8 5 30 G M sz [.ref (Γ 0 0), .int (nI q), .ref o] (wEnd G N Γ o f (thI σ q) (if shut σ q then 1 else 0) (σ) M) := by
  refine m_startW cL_isClosed 4 (some .int) [(0, 16, 19, 19)] (by decide) rfl (Nat.le_of_ble_eq_true rfl) ?_
  intro p e s m below meth c ls hx hb hr hml hown hlk hts hK hsz hE hW hl htab hNc
  have hA := mA_A (M := M) hsz
  have hl : lv_has ls 4 [(0, .ref (Γ 0 0)), (1, .int (nI q)), (2, .ref o)] := hl
  refine lv_aload_n hx hb dL_isClosed_0 rfl (lv_at hl 2 rfl) ?_
  refine lv_iconst (v := nI 0) hx hb dL_isClosed_1 (by decide) ?_
  refine lv_aload_n hx hb dL_isClosed_2 rfl (lv_at hl 0 rfl) ?_
  refine lv_iload_n hx hb dL_isClosed_3 rfl (lv_at hl 1 rfl) ?_
  refine mx_w (vx_runV (As := [.int (nI q)]) (nL := 4) ⟨hx, hb, hml, hown, hts⟩ (wIsClosed l hst G N Γ σ ρ q hq hH _ _ hR) (cwV 1 hts gL_isClosed_X4_isClosed rfl rfl rfl (by decide +kernel) ⟨(Nat.le_of_ble_eq_true rfl), (Nat.le_of_ble_eq_true rfl)⟩) (mp_V hK hE hW hA (mW_recv hK hW.1 hR.o0 (by rfl))) rfl rfl hl.1 rfl (lv_room (Nat.le_of_ble_eq_true rfl)) dL_isClosed_4 ⟨(Nat.le_of_ble_eq_true rfl), (Nat.le_of_ble_eq_true rfl)⟩) hW hA (fun E9 ce9 q9 H locs hxp hW hcell hv9 hcl => ?_) (fun r9 M9 H locs hp hW => ?_)
  · skip
    obtain ⟨hth, rfl⟩ := xcase1 hxp
    refine vx_catch (own := RL) (name := "java/lang/IndexOutOfBoundsException") (E := "java/lang/IndexOutOfBoundsException") hown (tableOf []) ⟨0, 16, 19, 19⟩ (tableOf []) (htab.trans rfl) (fun z hz => absurd hz List.not_mem_nil) (by decide) (by decide) (hts (.classLink RL 19 "java/lang/IndexOutOfBoundsException") (by decide +kernel)) (va_Nw.use rfl (hE.2.2.2.2.2.2.2.2 _ (.head _))) hcell hv9 hcl ?_
    refine W.eq (g2 := F0 m 19 ls [.ref q9]) rfl ?_
    refine lv_astore_n (lv' := [(3, .ref q9), (0, .ref (Γ 0 0)), (1, .int (nI q)), (2, .ref o)]) hx hb dL_isClosed_19 rfl hl (by decide) rfl (fun ls hl => ?_)
    refine lv_iconst (v := nI 1) hx hb dL_isClosed_20 (by decide) ?_
    exact vx_ret (mr_iret hx hb hr hlk (Nat.le_of_ble_eq_true rfl) (Nat.le_of_ble_eq_true rfl) hW ⟨by rw [hth], Or.inr ⟨by omega, rfl⟩⟩ dL_isClosed_21)
  · skip
    obtain ⟨hth, hr9, Γ1, ρ1, h00, hR1, hH1⟩ := hp
    subst hr9
    refine nb_if_eq (tgt := 14) hx hb dL_isClosed_7 (by decide) (fun c_1 => ?_) (fun c_1 => ?_)
    · skip
      refine lv_lconst (v := (nI (if shut σ q then 1 else 0)).toInt64) hx hb dL_isClosed_14 (by rw [if_neg (by assumption)]; decide) ?_
      refine mr_jast (j := 0) hx hb hK hW 3 (hR1.nb hN) (by rfl) rfl (by decide) (by decide) dL_isClosed_15 (fun H locs hW => ?_)
      refine lv_goto (tgt := 22) hx hb dL_isClosed_16 (by decide) ?_
      refine lv_iconst (v := nI 0) hx hb dL_isClosed_22 (by decide) ?_
      exact vx_ret (mr_iret hx hb hr hlk (Nat.le_of_ble_eq_true rfl) (Nat.le_of_ble_eq_true rfl) hW ⟨by rw [hth], Or.inl ⟨hth, Γ1, ρ1, h00, hH1, hR1.putN hN⟩⟩ dL_isClosed_23)
    · skip
      refine lv_lconst (v := (nI (if shut σ q then 1 else 0)).toInt64) hx hb dL_isClosed_10 (by rw [if_pos (by assumption)]; decide) ?_
      refine lv_goto (tgt := 15) hx hb dL_isClosed_11 (by decide) ?_
      refine mr_jast (j := 0) hx hb hK hW 3 (hR1.nb hN) (by rfl) rfl (by decide) (by decide) dL_isClosed_15 (fun H locs hW => ?_)
      refine lv_goto (tgt := 22) hx hb dL_isClosed_16 (by decide) ?_
      refine lv_iconst (v := nI 0) hx hb dL_isClosed_22 (by decide) ?_
      exact vx_ret (mr_iret hx hb hr hlk (Nat.le_of_ble_eq_true rfl) (Nat.le_of_ble_eq_true rfl) hW ⟨by rw [hth], Or.inl ⟨hth, Γ1, ρ1, h00, hH1, hR1.putN hN⟩⟩ dL_isClosed_23)

set_option maxHeartbeats 4000000 in
set_option maxRecDepth 100000 in
theorem l_pass (l : Launch) (hst : l.stackTraces = false) (G : mG) (N : Mem) (Γ : Adr) (σ ρ : Sg) (d : Nat) (hd : d < 4294967296) (hH : HS σ ρ) (o : Nat) (f : Nat → Int64) (hN : N o = some (eJ (G.2.1 3) 1 f)) (M : Mem) (sz : Nat) (hR : Rp G N Γ (cs σ ρ) M) : cWi l yL_pass wsL_pass 12 47 3000 G M sz [.ref (Γ 0 0), .int (nI d), .ref o] (wEnd G N Γ o f (thD σ d) (dyN σ d 22 0 + 4294967296 - σ 22 0) (dyN σ d) M) := by
  refine m_startW cL_pass 4 (some .int) [(0, 9, 12, 21), (0, 9, 15, 13)] (by decide) rfl (Nat.le_of_ble_eq_true rfl) ?_
  intro p e s m below meth c ls hx hb hr hml hown hlk hts hK hsz hE hW hl htab hNc
  have hA := mA_A (M := M) hsz
  have hl : lv_has ls 4 [(0, .ref (Γ 0 0)), (1, .int (nI d)), (2, .ref o)] := hl
  refine lv_aload_n hx hb dL_pass_0 rfl (lv_at hl 2 rfl) ?_
  refine lv_iconst (v := nI 0) hx hb dL_pass_1 (by decide) ?_
  refine lv_aload_n hx hb dL_pass_2 rfl (lv_at hl 0 rfl) ?_
  refine lv_iload_n hx hb dL_pass_3 rfl (lv_at hl 1 rfl) ?_
  refine mx_w (vx_runV (As := [.int (nI d)]) (nL := 4) ⟨hx, hb, hml, hown, hts⟩ (wPass l hst G N Γ σ ρ d hd hH _ _ hR) (cwV 1 hts gL_pass_X4_pass rfl rfl rfl (by decide +kernel) ⟨(Nat.le_of_ble_eq_true rfl), (Nat.le_of_ble_eq_true rfl)⟩) (mp_V hK hE hW hA (mW_recv hK hW.1 hR.o0 (by rfl))) rfl rfl hl.1 rfl (lv_room (Nat.le_of_ble_eq_true rfl)) dL_pass_4 ⟨(Nat.le_of_ble_eq_true rfl), (Nat.le_of_ble_eq_true rfl)⟩) hW hA (fun E9 ce9 q9 H locs hxp hW hcell hv9 hcl => ?_) (fun r9 M9 H locs hp hW => ?_)
  · skip
    rcases xcase2 hxp with ⟨hth, rfl⟩ | ⟨hth, rfl⟩
    · skip
      refine vx_catch (own := RL) (name := "java/lang/IllegalArgumentException") (E := "java/lang/IllegalArgumentException") hown (tableOf []) ⟨0, 9, 12, 21⟩ (tableOf [(0, 9, 15, 13)]) (htab.trans rfl) (fun z hz => absurd hz List.not_mem_nil) (by decide) (by decide) (hts (.classLink RL 21 "java/lang/IllegalArgumentException") (by decide +kernel)) (va_Nw.use rfl (hE.2.2.2.2.2.2.2.2 _ (.tail _ (.head _)))) hcell hv9 hcl ?_
      refine W.eq (g2 := F0 m 12 ls [.ref q9]) rfl ?_
      refine lv_astore_n (lv' := [(3, .ref q9), (0, .ref (Γ 0 0)), (1, .int (nI d)), (2, .ref o)]) hx hb dL_pass_12 rfl hl (by decide) rfl (fun ls hl => ?_)
      refine lv_iconst (v := nI 1) hx hb dL_pass_13 (by decide) ?_
      exact vx_ret (mr_iret hx hb hr hlk (Nat.le_of_ble_eq_true rfl) (Nat.le_of_ble_eq_true rfl) hW ⟨by rw [hth], Or.inr ⟨by omega, rfl⟩⟩ dL_pass_14)
    · skip
      refine vx_catch (own := RL) (name := "java/lang/IllegalStateException") (E := "java/lang/IllegalStateException") hown (tableOf [(0, 9, 12, 21)]) ⟨0, 9, 15, 13⟩ (tableOf []) (htab.trans rfl) (fun z hz => (List.mem_cons.mp hz).elim (fun h9 => by subst h9; exact Or.inr ⟨by decide, "java/lang/IllegalArgumentException", hts (.classLink RL 21 "java/lang/IllegalArgumentException") (by decide +kernel), hNc _ (.tail _ (.tail _ (.head _)))⟩) (fun hz => absurd hz List.not_mem_nil)) (by decide) (by decide) (hts (.classLink RL 13 "java/lang/IllegalStateException") (by decide +kernel)) (va_Nw.use rfl (hE.2.2.2.2.2.2.2.2 _ (.tail _ (.tail _ (.head _))))) hcell hv9 hcl ?_
      refine W.eq (g2 := F0 m 15 ls [.ref q9]) rfl ?_
      refine lv_astore_n (lv' := [(3, .ref q9), (0, .ref (Γ 0 0)), (1, .int (nI d)), (2, .ref o)]) hx hb dL_pass_15 rfl hl (by decide) rfl (fun ls hl => ?_)
      refine lv_iconst (v := nI 2) hx hb dL_pass_16 (by decide) ?_
      exact vx_ret (mr_iret hx hb hr hlk (Nat.le_of_ble_eq_true rfl) (Nat.le_of_ble_eq_true rfl) hW ⟨by rw [hth], Or.inr ⟨by omega, rfl⟩⟩ dL_pass_17)
  · skip
    obtain ⟨hth, hr9, Γ1, ρ1, h00, hR1, hH1⟩ := hp
    subst hr9
    refine lv_i2l hx hb dL_pass_7 rfl ?_
    refine mr_jast (j := 0) hx hb hK hW 3 (hR1.nb hN) (by rfl) rfl (by decide) (by decide) dL_pass_8 (fun H locs hW => ?_)
    refine lv_goto (tgt := 18) hx hb dL_pass_9 (by decide) ?_
    refine lv_iconst (v := nI 0) hx hb dL_pass_18 (by decide) ?_
    exact vx_ret (mr_iret hx hb hr hlk (Nat.le_of_ble_eq_true rfl) (Nat.le_of_ble_eq_true rfl) hW ⟨by rw [hth], Or.inl ⟨hth, Γ1, ρ1, h00, hH1, hR1.putN hN⟩⟩ dL_pass_19)

set_option maxHeartbeats 4000000 in
set_option maxRecDepth 100000 in
theorem l_state (l : Launch) (hst : l.stackTraces = false) (G : mG) (N : Mem) (Γ : Adr) (σ ρ : Sg) (i : Nat) (hi : i < 4294967296) (hH : HS σ ρ) (o : Nat) (f : Nat → Int64) (hN : N o = some (eJ (G.2.1 3) 1 f)) (M : Mem) (sz : Nat) (hR : Rp G N Γ (cs σ ρ) M) : cWi l yL_state wsL_state 8 5 30 G M sz [.ref (Γ 0 0), .int (nI i), .ref o] (wEnd G N Γ o f (thL σ i) (σ 12 i) (σ) M) := by
  refine m_startW cL_state 4 (some .int) [(0, 9, 12, 19)] (by decide) rfl (Nat.le_of_ble_eq_true rfl) ?_
  intro p e s m below meth c ls hx hb hr hml hown hlk hts hK hsz hE hW hl htab hNc
  have hA := mA_A (M := M) hsz
  have hl : lv_has ls 4 [(0, .ref (Γ 0 0)), (1, .int (nI i)), (2, .ref o)] := hl
  refine lv_aload_n hx hb dL_state_0 rfl (lv_at hl 2 rfl) ?_
  refine lv_iconst (v := nI 0) hx hb dL_state_1 (by decide) ?_
  refine lv_aload_n hx hb dL_state_2 rfl (lv_at hl 0 rfl) ?_
  refine lv_iload_n hx hb dL_state_3 rfl (lv_at hl 1 rfl) ?_
  refine mx_w (vx_runV (As := [.int (nI i)]) (nL := 4) ⟨hx, hb, hml, hown, hts⟩ (wState l hst G N Γ σ ρ i hi hH _ _ hR) (cwV 1 hts gL_state_X4_state rfl rfl rfl (by decide +kernel) ⟨(Nat.le_of_ble_eq_true rfl), (Nat.le_of_ble_eq_true rfl)⟩) (mp_V hK hE hW hA (mW_recv hK hW.1 hR.o0 (by rfl))) rfl rfl hl.1 rfl (lv_room (Nat.le_of_ble_eq_true rfl)) dL_state_4 ⟨(Nat.le_of_ble_eq_true rfl), (Nat.le_of_ble_eq_true rfl)⟩) hW hA (fun E9 ce9 q9 H locs hxp hW hcell hv9 hcl => ?_) (fun r9 M9 H locs hp hW => ?_)
  · skip
    obtain ⟨hth, rfl⟩ := xcase1 hxp
    refine vx_catch (own := RL) (name := "java/lang/IndexOutOfBoundsException") (E := "java/lang/IndexOutOfBoundsException") hown (tableOf []) ⟨0, 9, 12, 19⟩ (tableOf []) (htab.trans rfl) (fun z hz => absurd hz List.not_mem_nil) (by decide) (by decide) (hts (.classLink RL 19 "java/lang/IndexOutOfBoundsException") (by decide +kernel)) (va_Nw.use rfl (hE.2.2.2.2.2.2.2.2 _ (.head _))) hcell hv9 hcl ?_
    refine W.eq (g2 := F0 m 12 ls [.ref q9]) rfl ?_
    refine lv_astore_n (lv' := [(3, .ref q9), (0, .ref (Γ 0 0)), (1, .int (nI i)), (2, .ref o)]) hx hb dL_state_12 rfl hl (by decide) rfl (fun ls hl => ?_)
    refine lv_iconst (v := nI 1) hx hb dL_state_13 (by decide) ?_
    exact vx_ret (mr_iret hx hb hr hlk (Nat.le_of_ble_eq_true rfl) (Nat.le_of_ble_eq_true rfl) hW ⟨by rw [hth], Or.inr ⟨by omega, rfl⟩⟩ dL_state_14)
  · skip
    obtain ⟨hth, hr9, Γ1, ρ1, h00, hR1, hH1⟩ := hp
    subst hr9
    refine lv_i2l hx hb dL_state_7 rfl ?_
    refine mr_jast (j := 0) hx hb hK hW 3 (hR1.nb hN) (by rfl) rfl (by decide) (by decide) dL_state_8 (fun H locs hW => ?_)
    refine lv_goto (tgt := 15) hx hb dL_state_9 (by decide) ?_
    refine lv_iconst (v := nI 0) hx hb dL_state_15 (by decide) ?_
    exact vx_ret (mr_iret hx hb hr hlk (Nat.le_of_ble_eq_true rfl) (Nat.le_of_ble_eq_true rfl) hW ⟨by rw [hth], Or.inl ⟨hth, Γ1, ρ1, h00, hH1, hR1.putN hN⟩⟩ dL_state_16)

set_option maxHeartbeats 4000000 in
set_option maxRecDepth 100000 in
theorem l_where (l : Launch) (hst : l.stackTraces = false) (G : mG) (N : Mem) (Γ : Adr) (σ ρ : Sg) (i : Nat) (hi : i < 4294967296) (hH : HS σ ρ) (o : Nat) (f : Nat → Int64) (hN : N o = some (eJ (G.2.1 3) 1 f)) (M : Mem) (sz : Nat) (hR : Rp G N Γ (cs σ ρ) M) : cWi l yL_where wsL_where 8 5 30 G M sz [.ref (Γ 0 0), .int (nI i), .ref o] (wEnd G N Γ o f (thL σ i) (whS σ i) (σ) M) := by
  refine m_startW cL_where 4 (some .int) [(0, 9, 12, 19)] (by decide) rfl (Nat.le_of_ble_eq_true rfl) ?_
  intro p e s m below meth c ls hx hb hr hml hown hlk hts hK hsz hE hW hl htab hNc
  have hA := mA_A (M := M) hsz
  have hl : lv_has ls 4 [(0, .ref (Γ 0 0)), (1, .int (nI i)), (2, .ref o)] := hl
  refine lv_aload_n hx hb dL_where_0 rfl (lv_at hl 2 rfl) ?_
  refine lv_iconst (v := nI 0) hx hb dL_where_1 (by decide) ?_
  refine lv_aload_n hx hb dL_where_2 rfl (lv_at hl 0 rfl) ?_
  refine lv_iload_n hx hb dL_where_3 rfl (lv_at hl 1 rfl) ?_
  refine mx_w (vx_runV (As := [.int (nI i)]) (nL := 4) ⟨hx, hb, hml, hown, hts⟩ (wWhere l hst G N Γ σ ρ i hi hH _ _ hR) (cwV 1 hts gL_where_X4_where rfl rfl rfl (by decide +kernel) ⟨(Nat.le_of_ble_eq_true rfl), (Nat.le_of_ble_eq_true rfl)⟩) (mp_V hK hE hW hA (mW_recv hK hW.1 hR.o0 (by rfl))) rfl rfl hl.1 rfl (lv_room (Nat.le_of_ble_eq_true rfl)) dL_where_4 ⟨(Nat.le_of_ble_eq_true rfl), (Nat.le_of_ble_eq_true rfl)⟩) hW hA (fun E9 ce9 q9 H locs hxp hW hcell hv9 hcl => ?_) (fun r9 M9 H locs hp hW => ?_)
  · skip
    obtain ⟨hth, rfl⟩ := xcase1 hxp
    refine vx_catch (own := RL) (name := "java/lang/IndexOutOfBoundsException") (E := "java/lang/IndexOutOfBoundsException") hown (tableOf []) ⟨0, 9, 12, 19⟩ (tableOf []) (htab.trans rfl) (fun z hz => absurd hz List.not_mem_nil) (by decide) (by decide) (hts (.classLink RL 19 "java/lang/IndexOutOfBoundsException") (by decide +kernel)) (va_Nw.use rfl (hE.2.2.2.2.2.2.2.2 _ (.head _))) hcell hv9 hcl ?_
    refine W.eq (g2 := F0 m 12 ls [.ref q9]) rfl ?_
    refine lv_astore_n (lv' := [(3, .ref q9), (0, .ref (Γ 0 0)), (1, .int (nI i)), (2, .ref o)]) hx hb dL_where_12 rfl hl (by decide) rfl (fun ls hl => ?_)
    refine lv_iconst (v := nI 1) hx hb dL_where_13 (by decide) ?_
    exact vx_ret (mr_iret hx hb hr hlk (Nat.le_of_ble_eq_true rfl) (Nat.le_of_ble_eq_true rfl) hW ⟨by rw [hth], Or.inr ⟨by omega, rfl⟩⟩ dL_where_14)
  · skip
    obtain ⟨hth, hr9, Γ1, ρ1, h00, hR1, hH1⟩ := hp
    subst hr9
    refine lv_i2l hx hb dL_where_7 rfl ?_
    refine mr_jast (j := 0) hx hb hK hW 3 (hR1.nb hN) (by rfl) rfl (by decide) (by decide) dL_where_8 (fun H locs hW => ?_)
    refine lv_goto (tgt := 15) hx hb dL_where_9 (by decide) ?_
    refine lv_iconst (v := nI 0) hx hb dL_where_15 (by decide) ?_
    exact vx_ret (mr_iret hx hb hr hlk (Nat.le_of_ble_eq_true rfl) (Nat.le_of_ble_eq_true rfl) hW ⟨by rw [hth], Or.inl ⟨hth, Γ1, ρ1, h00, hH1, hR1.putN hN⟩⟩ dL_where_16)

set_option maxHeartbeats 4000000 in
set_option maxRecDepth 100000 in
theorem l_whereByMarks (l : Launch) (hst : l.stackTraces = false) (G : mG) (N : Mem) (Γ : Adr) (σ ρ : Sg) (i : Nat) (hi : i < 4294967296) (hH : HS σ ρ) (o : Nat) (f : Nat → Int64) (hN : N o = some (eJ (G.2.1 3) 1 f)) (M : Mem) (sz : Nat) (hR : Rp G N Γ (cs σ ρ) M) : cWi l yL_whereByMarks wsL_whereByMarks 8 5 30 G M sz [.ref (Γ 0 0), .int (nI i), .ref o] (wEnd G N Γ o f (thL σ i) (wmS σ i) (σ) M) := by
  refine m_startW cL_whereByMarks 4 (some .int) [(0, 9, 12, 19)] (by decide) rfl (Nat.le_of_ble_eq_true rfl) ?_
  intro p e s m below meth c ls hx hb hr hml hown hlk hts hK hsz hE hW hl htab hNc
  have hA := mA_A (M := M) hsz
  have hl : lv_has ls 4 [(0, .ref (Γ 0 0)), (1, .int (nI i)), (2, .ref o)] := hl
  refine lv_aload_n hx hb dL_whereByMarks_0 rfl (lv_at hl 2 rfl) ?_
  refine lv_iconst (v := nI 0) hx hb dL_whereByMarks_1 (by decide) ?_
  refine lv_aload_n hx hb dL_whereByMarks_2 rfl (lv_at hl 0 rfl) ?_
  refine lv_iload_n hx hb dL_whereByMarks_3 rfl (lv_at hl 1 rfl) ?_
  refine mx_w (vx_runV (As := [.int (nI i)]) (nL := 4) ⟨hx, hb, hml, hown, hts⟩ (wByMarks l hst G N Γ σ ρ i hi hH _ _ hR) (cwV 1 hts gL_whereByMarks_X4_whereByMarks rfl rfl rfl (by decide +kernel) ⟨(Nat.le_of_ble_eq_true rfl), (Nat.le_of_ble_eq_true rfl)⟩) (mp_V hK hE hW hA (mW_recv hK hW.1 hR.o0 (by rfl))) rfl rfl hl.1 rfl (lv_room (Nat.le_of_ble_eq_true rfl)) dL_whereByMarks_4 ⟨(Nat.le_of_ble_eq_true rfl), (Nat.le_of_ble_eq_true rfl)⟩) hW hA (fun E9 ce9 q9 H locs hxp hW hcell hv9 hcl => ?_) (fun r9 M9 H locs hp hW => ?_)
  · skip
    obtain ⟨hth, rfl⟩ := xcase1 hxp
    refine vx_catch (own := RL) (name := "java/lang/IndexOutOfBoundsException") (E := "java/lang/IndexOutOfBoundsException") hown (tableOf []) ⟨0, 9, 12, 19⟩ (tableOf []) (htab.trans rfl) (fun z hz => absurd hz List.not_mem_nil) (by decide) (by decide) (hts (.classLink RL 19 "java/lang/IndexOutOfBoundsException") (by decide +kernel)) (va_Nw.use rfl (hE.2.2.2.2.2.2.2.2 _ (.head _))) hcell hv9 hcl ?_
    refine W.eq (g2 := F0 m 12 ls [.ref q9]) rfl ?_
    refine lv_astore_n (lv' := [(3, .ref q9), (0, .ref (Γ 0 0)), (1, .int (nI i)), (2, .ref o)]) hx hb dL_whereByMarks_12 rfl hl (by decide) rfl (fun ls hl => ?_)
    refine lv_iconst (v := nI 1) hx hb dL_whereByMarks_13 (by decide) ?_
    exact vx_ret (mr_iret hx hb hr hlk (Nat.le_of_ble_eq_true rfl) (Nat.le_of_ble_eq_true rfl) hW ⟨by rw [hth], Or.inr ⟨by omega, rfl⟩⟩ dL_whereByMarks_14)
  · skip
    obtain ⟨hth, hr9, Γ1, ρ1, h00, hR1, hH1⟩ := hp
    subst hr9
    refine lv_i2l hx hb dL_whereByMarks_7 rfl ?_
    refine mr_jast (j := 0) hx hb hK hW 3 (hR1.nb hN) (by rfl) rfl (by decide) (by decide) dL_whereByMarks_8 (fun H locs hW => ?_)
    refine lv_goto (tgt := 15) hx hb dL_whereByMarks_9 (by decide) ?_
    refine lv_iconst (v := nI 0) hx hb dL_whereByMarks_15 (by decide) ?_
    exact vx_ret (mr_iret hx hb hr hlk (Nat.le_of_ble_eq_true rfl) (Nat.le_of_ble_eq_true rfl) hW ⟨by rw [hth], Or.inl ⟨hth, Γ1, ρ1, h00, hH1, hR1.putN hN⟩⟩ dL_whereByMarks_16)

set_option maxHeartbeats 4000000 in
set_option maxRecDepth 100000 in
theorem l_comesTo (l : Launch) (hst : l.stackTraces = false) (G : mG) (N : Mem) (Γ : Adr) (σ ρ : Sg) (i : Nat) (hi : i < 4294967296) (hH : HS σ ρ) (o : Nat) (f : Nat → Int64) (hN : N o = some (eJ (G.2.1 3) 1 f)) (M : Mem) (sz : Nat) (hR : Rp G N Γ (cs σ ρ) M) : cWi l yL_comesTo wsL_comesTo 8 5 30 G M sz [.ref (Γ 0 0), .int (nI i), .ref o] (wEnd G N Γ o f (thL σ i) (coS σ i) (σ) M) := by
  refine m_startW cL_comesTo 4 (some .int) [(0, 9, 12, 19)] (by decide) rfl (Nat.le_of_ble_eq_true rfl) ?_
  intro p e s m below meth c ls hx hb hr hml hown hlk hts hK hsz hE hW hl htab hNc
  have hA := mA_A (M := M) hsz
  have hl : lv_has ls 4 [(0, .ref (Γ 0 0)), (1, .int (nI i)), (2, .ref o)] := hl
  refine lv_aload_n hx hb dL_comesTo_0 rfl (lv_at hl 2 rfl) ?_
  refine lv_iconst (v := nI 0) hx hb dL_comesTo_1 (by decide) ?_
  refine lv_aload_n hx hb dL_comesTo_2 rfl (lv_at hl 0 rfl) ?_
  refine lv_iload_n hx hb dL_comesTo_3 rfl (lv_at hl 1 rfl) ?_
  refine mx_w (vx_runV (As := [.int (nI i)]) (nL := 4) ⟨hx, hb, hml, hown, hts⟩ (wComesTo l hst G N Γ σ ρ i hi hH _ _ hR) (cwV 1 hts gL_comesTo_X4_comesTo rfl rfl rfl (by decide +kernel) ⟨(Nat.le_of_ble_eq_true rfl), (Nat.le_of_ble_eq_true rfl)⟩) (mp_V hK hE hW hA (mW_recv hK hW.1 hR.o0 (by rfl))) rfl rfl hl.1 rfl (lv_room (Nat.le_of_ble_eq_true rfl)) dL_comesTo_4 ⟨(Nat.le_of_ble_eq_true rfl), (Nat.le_of_ble_eq_true rfl)⟩) hW hA (fun E9 ce9 q9 H locs hxp hW hcell hv9 hcl => ?_) (fun r9 M9 H locs hp hW => ?_)
  · skip
    obtain ⟨hth, rfl⟩ := xcase1 hxp
    refine vx_catch (own := RL) (name := "java/lang/IndexOutOfBoundsException") (E := "java/lang/IndexOutOfBoundsException") hown (tableOf []) ⟨0, 9, 12, 19⟩ (tableOf []) (htab.trans rfl) (fun z hz => absurd hz List.not_mem_nil) (by decide) (by decide) (hts (.classLink RL 19 "java/lang/IndexOutOfBoundsException") (by decide +kernel)) (va_Nw.use rfl (hE.2.2.2.2.2.2.2.2 _ (.head _))) hcell hv9 hcl ?_
    refine W.eq (g2 := F0 m 12 ls [.ref q9]) rfl ?_
    refine lv_astore_n (lv' := [(3, .ref q9), (0, .ref (Γ 0 0)), (1, .int (nI i)), (2, .ref o)]) hx hb dL_comesTo_12 rfl hl (by decide) rfl (fun ls hl => ?_)
    refine lv_iconst (v := nI 1) hx hb dL_comesTo_13 (by decide) ?_
    exact vx_ret (mr_iret hx hb hr hlk (Nat.le_of_ble_eq_true rfl) (Nat.le_of_ble_eq_true rfl) hW ⟨by rw [hth], Or.inr ⟨by omega, rfl⟩⟩ dL_comesTo_14)
  · skip
    obtain ⟨hth, hr9, Γ1, ρ1, h00, hR1, hH1⟩ := hp
    subst hr9
    refine lv_i2l hx hb dL_comesTo_7 rfl ?_
    refine mr_jast (j := 0) hx hb hK hW 3 (hR1.nb hN) (by rfl) rfl (by decide) (by decide) dL_comesTo_8 (fun H locs hW => ?_)
    refine lv_goto (tgt := 15) hx hb dL_comesTo_9 (by decide) ?_
    refine lv_iconst (v := nI 0) hx hb dL_comesTo_15 (by decide) ?_
    exact vx_ret (mr_iret hx hb hr hlk (Nat.le_of_ble_eq_true rfl) (Nat.le_of_ble_eq_true rfl) hW ⟨by rw [hth], Or.inl ⟨hth, Γ1, ρ1, h00, hH1, hR1.putN hN⟩⟩ dL_comesTo_16)

set_option maxHeartbeats 4000000 in
set_option maxRecDepth 100000 in
theorem l_sentOn (l : Launch) (hst : l.stackTraces = false) (G : mG) (N : Mem) (Γ : Adr) (σ ρ : Sg) (i : Nat) (hi : i < 4294967296) (hH : HS σ ρ) (o : Nat) (f : Nat → Int64) (hN : N o = some (eJ (G.2.1 3) 1 f)) (M : Mem) (sz : Nat) (hR : Rp G N Γ (cs σ ρ) M) : cWi l yL_sentOn wsL_sentOn 8 5 30 G M sz [.ref (Γ 0 0), .int (nI i), .ref o] (wEnd G N Γ o f (thL σ i) (σ 15 i) (σ) M) := by
  refine m_startW cL_sentOn 4 (some .int) [(0, 9, 12, 19)] (by decide) rfl (Nat.le_of_ble_eq_true rfl) ?_
  intro p e s m below meth c ls hx hb hr hml hown hlk hts hK hsz hE hW hl htab hNc
  have hA := mA_A (M := M) hsz
  have hl : lv_has ls 4 [(0, .ref (Γ 0 0)), (1, .int (nI i)), (2, .ref o)] := hl
  refine lv_aload_n hx hb dL_sentOn_0 rfl (lv_at hl 2 rfl) ?_
  refine lv_iconst (v := nI 0) hx hb dL_sentOn_1 (by decide) ?_
  refine lv_aload_n hx hb dL_sentOn_2 rfl (lv_at hl 0 rfl) ?_
  refine lv_iload_n hx hb dL_sentOn_3 rfl (lv_at hl 1 rfl) ?_
  refine mx_w (vx_runV (As := [.int (nI i)]) (nL := 4) ⟨hx, hb, hml, hown, hts⟩ (wSentOn l hst G N Γ σ ρ i hi hH _ _ hR) (cwV 1 hts gL_sentOn_X4_sentOn rfl rfl rfl (by decide +kernel) ⟨(Nat.le_of_ble_eq_true rfl), (Nat.le_of_ble_eq_true rfl)⟩) (mp_V hK hE hW hA (mW_recv hK hW.1 hR.o0 (by rfl))) rfl rfl hl.1 rfl (lv_room (Nat.le_of_ble_eq_true rfl)) dL_sentOn_4 ⟨(Nat.le_of_ble_eq_true rfl), (Nat.le_of_ble_eq_true rfl)⟩) hW hA (fun E9 ce9 q9 H locs hxp hW hcell hv9 hcl => ?_) (fun r9 M9 H locs hp hW => ?_)
  · skip
    obtain ⟨hth, rfl⟩ := xcase1 hxp
    refine vx_catch (own := RL) (name := "java/lang/IndexOutOfBoundsException") (E := "java/lang/IndexOutOfBoundsException") hown (tableOf []) ⟨0, 9, 12, 19⟩ (tableOf []) (htab.trans rfl) (fun z hz => absurd hz List.not_mem_nil) (by decide) (by decide) (hts (.classLink RL 19 "java/lang/IndexOutOfBoundsException") (by decide +kernel)) (va_Nw.use rfl (hE.2.2.2.2.2.2.2.2 _ (.head _))) hcell hv9 hcl ?_
    refine W.eq (g2 := F0 m 12 ls [.ref q9]) rfl ?_
    refine lv_astore_n (lv' := [(3, .ref q9), (0, .ref (Γ 0 0)), (1, .int (nI i)), (2, .ref o)]) hx hb dL_sentOn_12 rfl hl (by decide) rfl (fun ls hl => ?_)
    refine lv_iconst (v := nI 1) hx hb dL_sentOn_13 (by decide) ?_
    exact vx_ret (mr_iret hx hb hr hlk (Nat.le_of_ble_eq_true rfl) (Nat.le_of_ble_eq_true rfl) hW ⟨by rw [hth], Or.inr ⟨by omega, rfl⟩⟩ dL_sentOn_14)
  · skip
    obtain ⟨hth, hr9, Γ1, ρ1, h00, hR1, hH1⟩ := hp
    subst hr9
    refine lv_i2l hx hb dL_sentOn_7 rfl ?_
    refine mr_jast (j := 0) hx hb hK hW 3 (hR1.nb hN) (by rfl) rfl (by decide) (by decide) dL_sentOn_8 (fun H locs hW => ?_)
    refine lv_goto (tgt := 15) hx hb dL_sentOn_9 (by decide) ?_
    refine lv_iconst (v := nI 0) hx hb dL_sentOn_15 (by decide) ?_
    exact vx_ret (mr_iret hx hb hr hlk (Nat.le_of_ble_eq_true rfl) (Nat.le_of_ble_eq_true rfl) hW ⟨by rw [hth], Or.inl ⟨hth, Γ1, ρ1, h00, hH1, hR1.putN hN⟩⟩ dL_sentOn_16)

set_option maxHeartbeats 4000000 in
set_option maxRecDepth 100000 in
theorem l_overtaken (l : Launch) (hst : l.stackTraces = false) (G : mG) (N : Mem) (Γ : Adr) (σ ρ : Sg) (i : Nat) (hi : i < 4294967296) (hH : HS σ ρ) (o : Nat) (f : Nat → Int64) (hN : N o = some (eJ (G.2.1 3) 1 f)) (M : Mem) (sz : Nat) (hR : Rp G N Γ (cs σ ρ) M) : cWi l yL_overtaken wsL_overtaken 8 5 30 G M sz [.ref (Γ 0 0), .int (nI i), .ref o] (wEnd G N Γ o f (thL σ i) (ovS σ i) (σ) M) := by
  refine m_startW cL_overtaken 4 (some .int) [(0, 9, 12, 19)] (by decide) rfl (Nat.le_of_ble_eq_true rfl) ?_
  intro p e s m below meth c ls hx hb hr hml hown hlk hts hK hsz hE hW hl htab hNc
  have hA := mA_A (M := M) hsz
  have hl : lv_has ls 4 [(0, .ref (Γ 0 0)), (1, .int (nI i)), (2, .ref o)] := hl
  refine lv_aload_n hx hb dL_overtaken_0 rfl (lv_at hl 2 rfl) ?_
  refine lv_iconst (v := nI 0) hx hb dL_overtaken_1 (by decide) ?_
  refine lv_aload_n hx hb dL_overtaken_2 rfl (lv_at hl 0 rfl) ?_
  refine lv_iload_n hx hb dL_overtaken_3 rfl (lv_at hl 1 rfl) ?_
  refine mx_w (vx_runV (As := [.int (nI i)]) (nL := 4) ⟨hx, hb, hml, hown, hts⟩ (wOvertaken l hst G N Γ σ ρ i hi hH _ _ hR) (cwV 1 hts gL_overtaken_X4_overtaken rfl rfl rfl (by decide +kernel) ⟨(Nat.le_of_ble_eq_true rfl), (Nat.le_of_ble_eq_true rfl)⟩) (mp_V hK hE hW hA (mW_recv hK hW.1 hR.o0 (by rfl))) rfl rfl hl.1 rfl (lv_room (Nat.le_of_ble_eq_true rfl)) dL_overtaken_4 ⟨(Nat.le_of_ble_eq_true rfl), (Nat.le_of_ble_eq_true rfl)⟩) hW hA (fun E9 ce9 q9 H locs hxp hW hcell hv9 hcl => ?_) (fun r9 M9 H locs hp hW => ?_)
  · skip
    obtain ⟨hth, rfl⟩ := xcase1 hxp
    refine vx_catch (own := RL) (name := "java/lang/IndexOutOfBoundsException") (E := "java/lang/IndexOutOfBoundsException") hown (tableOf []) ⟨0, 9, 12, 19⟩ (tableOf []) (htab.trans rfl) (fun z hz => absurd hz List.not_mem_nil) (by decide) (by decide) (hts (.classLink RL 19 "java/lang/IndexOutOfBoundsException") (by decide +kernel)) (va_Nw.use rfl (hE.2.2.2.2.2.2.2.2 _ (.head _))) hcell hv9 hcl ?_
    refine W.eq (g2 := F0 m 12 ls [.ref q9]) rfl ?_
    refine lv_astore_n (lv' := [(3, .ref q9), (0, .ref (Γ 0 0)), (1, .int (nI i)), (2, .ref o)]) hx hb dL_overtaken_12 rfl hl (by decide) rfl (fun ls hl => ?_)
    refine lv_iconst (v := nI 1) hx hb dL_overtaken_13 (by decide) ?_
    exact vx_ret (mr_iret hx hb hr hlk (Nat.le_of_ble_eq_true rfl) (Nat.le_of_ble_eq_true rfl) hW ⟨by rw [hth], Or.inr ⟨by omega, rfl⟩⟩ dL_overtaken_14)
  · skip
    obtain ⟨hth, hr9, Γ1, ρ1, h00, hR1, hH1⟩ := hp
    subst hr9
    refine lv_i2l hx hb dL_overtaken_7 rfl ?_
    refine mr_jast (j := 0) hx hb hK hW 3 (hR1.nb hN) (by rfl) rfl (by decide) (by decide) dL_overtaken_8 (fun H locs hW => ?_)
    refine lv_goto (tgt := 15) hx hb dL_overtaken_9 (by decide) ?_
    refine lv_iconst (v := nI 0) hx hb dL_overtaken_15 (by decide) ?_
    exact vx_ret (mr_iret hx hb hr hlk (Nat.le_of_ble_eq_true rfl) (Nat.le_of_ble_eq_true rfl) hW ⟨by rw [hth], Or.inl ⟨hth, Γ1, ρ1, h00, hH1, hR1.putN hN⟩⟩ dL_overtaken_16)

set_option maxHeartbeats 4000000 in
set_option maxRecDepth 100000 in
theorem l_lying (l : Launch) (hst : l.stackTraces = false) (G : mG) (N : Mem) (Γ : Adr) (σ ρ : Sg) (q : Nat) (hq : q < 4294967296) (hH : HS σ ρ) (o : Nat) (f : Nat → Int64) (hN : N o = some (eJ (G.2.1 3) 1 f)) (M : Mem) (sz : Nat) (hR : Rp G N Γ (cs σ ρ) M) : cWi l yL_lying wsL_lying 8 5 30 G M sz [.ref (Γ 0 0), .int (nI q), .ref o] (wEnd G N Γ o f (thI σ q) (lyF σ q (σ 8 0)) (σ) M) := by
  refine m_startW cL_lying 4 (some .int) [(0, 9, 12, 19)] (by decide) rfl (Nat.le_of_ble_eq_true rfl) ?_
  intro p e s m below meth c ls hx hb hr hml hown hlk hts hK hsz hE hW hl htab hNc
  have hA := mA_A (M := M) hsz
  have hl : lv_has ls 4 [(0, .ref (Γ 0 0)), (1, .int (nI q)), (2, .ref o)] := hl
  refine lv_aload_n hx hb dL_lying_0 rfl (lv_at hl 2 rfl) ?_
  refine lv_iconst (v := nI 0) hx hb dL_lying_1 (by decide) ?_
  refine lv_aload_n hx hb dL_lying_2 rfl (lv_at hl 0 rfl) ?_
  refine lv_iload_n hx hb dL_lying_3 rfl (lv_at hl 1 rfl) ?_
  refine mx_w (vx_runV (As := [.int (nI q)]) (nL := 4) ⟨hx, hb, hml, hown, hts⟩ (wLying l hst G N Γ σ ρ q hq hH _ _ hR) (cwV 1 hts gL_lying_X4_lying rfl rfl rfl (by decide +kernel) ⟨(Nat.le_of_ble_eq_true rfl), (Nat.le_of_ble_eq_true rfl)⟩) (mp_V hK hE hW hA (mW_recv hK hW.1 hR.o0 (by rfl))) rfl rfl hl.1 rfl (lv_room (Nat.le_of_ble_eq_true rfl)) dL_lying_4 ⟨(Nat.le_of_ble_eq_true rfl), (Nat.le_of_ble_eq_true rfl)⟩) hW hA (fun E9 ce9 q9 H locs hxp hW hcell hv9 hcl => ?_) (fun r9 M9 H locs hp hW => ?_)
  · skip
    obtain ⟨hth, rfl⟩ := xcase1 hxp
    refine vx_catch (own := RL) (name := "java/lang/IndexOutOfBoundsException") (E := "java/lang/IndexOutOfBoundsException") hown (tableOf []) ⟨0, 9, 12, 19⟩ (tableOf []) (htab.trans rfl) (fun z hz => absurd hz List.not_mem_nil) (by decide) (by decide) (hts (.classLink RL 19 "java/lang/IndexOutOfBoundsException") (by decide +kernel)) (va_Nw.use rfl (hE.2.2.2.2.2.2.2.2 _ (.head _))) hcell hv9 hcl ?_
    refine W.eq (g2 := F0 m 12 ls [.ref q9]) rfl ?_
    refine lv_astore_n (lv' := [(3, .ref q9), (0, .ref (Γ 0 0)), (1, .int (nI q)), (2, .ref o)]) hx hb dL_lying_12 rfl hl (by decide) rfl (fun ls hl => ?_)
    refine lv_iconst (v := nI 1) hx hb dL_lying_13 (by decide) ?_
    exact vx_ret (mr_iret hx hb hr hlk (Nat.le_of_ble_eq_true rfl) (Nat.le_of_ble_eq_true rfl) hW ⟨by rw [hth], Or.inr ⟨by omega, rfl⟩⟩ dL_lying_14)
  · skip
    obtain ⟨hth, hr9, Γ1, ρ1, h00, hR1, hH1⟩ := hp
    subst hr9
    refine lv_i2l hx hb dL_lying_7 rfl ?_
    refine mr_jast (j := 0) hx hb hK hW 3 (hR1.nb hN) (by rfl) rfl (by decide) (by decide) dL_lying_8 (fun H locs hW => ?_)
    refine lv_goto (tgt := 15) hx hb dL_lying_9 (by decide) ?_
    refine lv_iconst (v := nI 0) hx hb dL_lying_15 (by decide) ?_
    exact vx_ret (mr_iret hx hb hr hlk (Nat.le_of_ble_eq_true rfl) (Nat.le_of_ble_eq_true rfl) hW ⟨by rw [hth], Or.inl ⟨hth, Γ1, ρ1, h00, hH1, hR1.putN hN⟩⟩ dL_lying_16)

set_option maxHeartbeats 4000000 in
set_option maxRecDepth 100000 in
theorem l_deadAt (l : Launch) (hst : l.stackTraces = false) (G : mG) (N : Mem) (Γ : Adr) (σ ρ : Sg) (k : Nat) (hk : k < 4294967296) (hH : HS σ ρ) (o : Nat) (f : Nat → Int64) (hN : N o = some (eJ (G.2.1 3) 1 f)) (M : Mem) (sz : Nat) (hR : Rp G N Γ (cs σ ρ) M) : cWi l yL_deadAt wsL_deadAt 8 5 30 G M sz [.ref (Γ 0 0), .int (nI k), .ref o] (wEnd G N Γ o f (thO σ k) (σ 19 k) (σ) M) := by
  refine m_startW cL_deadAt 4 (some .int) [(0, 9, 12, 19)] (by decide) rfl (Nat.le_of_ble_eq_true rfl) ?_
  intro p e s m below meth c ls hx hb hr hml hown hlk hts hK hsz hE hW hl htab hNc
  have hA := mA_A (M := M) hsz
  have hl : lv_has ls 4 [(0, .ref (Γ 0 0)), (1, .int (nI k)), (2, .ref o)] := hl
  refine lv_aload_n hx hb dL_deadAt_0 rfl (lv_at hl 2 rfl) ?_
  refine lv_iconst (v := nI 0) hx hb dL_deadAt_1 (by decide) ?_
  refine lv_aload_n hx hb dL_deadAt_2 rfl (lv_at hl 0 rfl) ?_
  refine lv_iload_n hx hb dL_deadAt_3 rfl (lv_at hl 1 rfl) ?_
  refine mx_w (vx_runV (As := [.int (nI k)]) (nL := 4) ⟨hx, hb, hml, hown, hts⟩ (wDeadAt l hst G N Γ σ ρ k hk hH _ _ hR) (cwV 1 hts gL_deadAt_X4_deadAt rfl rfl rfl (by decide +kernel) ⟨(Nat.le_of_ble_eq_true rfl), (Nat.le_of_ble_eq_true rfl)⟩) (mp_V hK hE hW hA (mW_recv hK hW.1 hR.o0 (by rfl))) rfl rfl hl.1 rfl (lv_room (Nat.le_of_ble_eq_true rfl)) dL_deadAt_4 ⟨(Nat.le_of_ble_eq_true rfl), (Nat.le_of_ble_eq_true rfl)⟩) hW hA (fun E9 ce9 q9 H locs hxp hW hcell hv9 hcl => ?_) (fun r9 M9 H locs hp hW => ?_)
  · skip
    obtain ⟨hth, rfl⟩ := xcase1 hxp
    refine vx_catch (own := RL) (name := "java/lang/IndexOutOfBoundsException") (E := "java/lang/IndexOutOfBoundsException") hown (tableOf []) ⟨0, 9, 12, 19⟩ (tableOf []) (htab.trans rfl) (fun z hz => absurd hz List.not_mem_nil) (by decide) (by decide) (hts (.classLink RL 19 "java/lang/IndexOutOfBoundsException") (by decide +kernel)) (va_Nw.use rfl (hE.2.2.2.2.2.2.2.2 _ (.head _))) hcell hv9 hcl ?_
    refine W.eq (g2 := F0 m 12 ls [.ref q9]) rfl ?_
    refine lv_astore_n (lv' := [(3, .ref q9), (0, .ref (Γ 0 0)), (1, .int (nI k)), (2, .ref o)]) hx hb dL_deadAt_12 rfl hl (by decide) rfl (fun ls hl => ?_)
    refine lv_iconst (v := nI 1) hx hb dL_deadAt_13 (by decide) ?_
    exact vx_ret (mr_iret hx hb hr hlk (Nat.le_of_ble_eq_true rfl) (Nat.le_of_ble_eq_true rfl) hW ⟨by rw [hth], Or.inr ⟨by omega, rfl⟩⟩ dL_deadAt_14)
  · skip
    obtain ⟨hth, hr9, Γ1, ρ1, h00, hR1, hH1⟩ := hp
    subst hr9
    refine lv_i2l hx hb dL_deadAt_7 rfl ?_
    refine mr_jast (j := 0) hx hb hK hW 3 (hR1.nb hN) (by rfl) rfl (by decide) (by decide) dL_deadAt_8 (fun H locs hW => ?_)
    refine lv_goto (tgt := 15) hx hb dL_deadAt_9 (by decide) ?_
    refine lv_iconst (v := nI 0) hx hb dL_deadAt_15 (by decide) ?_
    exact vx_ret (mr_iret hx hb hr hlk (Nat.le_of_ble_eq_true rfl) (Nat.le_of_ble_eq_true rfl) hW ⟨by rw [hth], Or.inl ⟨hth, Γ1, ρ1, h00, hH1, hR1.putN hN⟩⟩ dL_deadAt_16)

set_option maxHeartbeats 4000000 in
set_option maxRecDepth 100000 in
theorem l_deliveredAs (l : Launch) (hst : l.stackTraces = false) (G : mG) (N : Mem) (Γ : Adr) (σ ρ : Sg) (u : Nat) (hu : u < 4294967296) (k : Nat) (hk : k < 4294967296) (hH : HS σ ρ) (o : Nat) (f : Nat → Int64) (hN : N o = some (eJ (G.2.1 3) 1 f)) (M : Mem) (sz : Nat) (hR : Rp G N Γ (cs σ ρ) M) : cWi l yL_deliveredAs wsL_deliveredAs 8 5 30 G M sz [.ref (Γ 0 0), .int (nI u), .int (nI k), .ref o] (wEnd G N Γ o f (thV σ u k) (dvF σ u k (σ 22 0)) (σ) M) := by
  refine m_startW cL_deliveredAs 5 (some .int) [(0, 10, 13, 19), (0, 10, 17, 21)] (by decide) rfl (Nat.le_of_ble_eq_true rfl) ?_
  intro p e s m below meth c ls hx hb hr hml hown hlk hts hK hsz hE hW hl htab hNc
  have hA := mA_A (M := M) hsz
  have hl : lv_has ls 5 [(0, .ref (Γ 0 0)), (1, .int (nI u)), (2, .int (nI k)), (3, .ref o)] := hl
  refine lv_aload_n hx hb dL_deliveredAs_0 rfl (lv_at hl 3 rfl) ?_
  refine lv_iconst (v := nI 0) hx hb dL_deliveredAs_1 (by decide) ?_
  refine lv_aload_n hx hb dL_deliveredAs_2 rfl (lv_at hl 0 rfl) ?_
  refine lv_iload_n hx hb dL_deliveredAs_3 rfl (lv_at hl 1 rfl) ?_
  refine lv_iload_n hx hb dL_deliveredAs_4 rfl (lv_at hl 2 rfl) ?_
  refine mx_w (vx_runV (As := [.int (nI u), .int (nI k)]) (nL := 5) ⟨hx, hb, hml, hown, hts⟩ (wDeliveredAs l hst G N Γ σ ρ u hu k hk hH _ _ hR) (cwV 2 hts gL_deliveredAs_X4_deliveredAs rfl rfl rfl (by decide +kernel) ⟨(Nat.le_of_ble_eq_true rfl), (Nat.le_of_ble_eq_true rfl)⟩) (mp_V hK hE hW hA (mW_recv hK hW.1 hR.o0 (by rfl))) rfl rfl hl.1 rfl (lv_room (Nat.le_of_ble_eq_true rfl)) dL_deliveredAs_5 ⟨(Nat.le_of_ble_eq_true rfl), (Nat.le_of_ble_eq_true rfl)⟩) hW hA (fun E9 ce9 q9 H locs hxp hW hcell hv9 hcl => ?_) (fun r9 M9 H locs hp hW => ?_)
  · skip
    rcases xcase2 hxp with ⟨hth, rfl⟩ | ⟨hth, rfl⟩
    · skip
      refine vx_catch (own := RL) (name := "java/lang/IndexOutOfBoundsException") (E := "java/lang/IndexOutOfBoundsException") hown (tableOf []) ⟨0, 10, 13, 19⟩ (tableOf [(0, 10, 17, 21)]) (htab.trans rfl) (fun z hz => absurd hz List.not_mem_nil) (by decide) (by decide) (hts (.classLink RL 19 "java/lang/IndexOutOfBoundsException") (by decide +kernel)) (va_Nw.use rfl (hE.2.2.2.2.2.2.2.2 _ (.head _))) hcell hv9 hcl ?_
      refine W.eq (g2 := F0 m 13 ls [.ref q9]) rfl ?_
      refine lv_astore (lv' := [(4, .ref q9), (0, .ref (Γ 0 0)), (1, .int (nI u)), (2, .int (nI k)), (3, .ref o)]) hx hb dL_deliveredAs_13 hl (by decide) rfl (fun ls hl => ?_)
      refine lv_iconst (v := nI 1) hx hb dL_deliveredAs_15 (by decide) ?_
      exact vx_ret (mr_iret hx hb hr hlk (Nat.le_of_ble_eq_true rfl) (Nat.le_of_ble_eq_true rfl) hW ⟨by rw [hth], Or.inr ⟨by omega, rfl⟩⟩ dL_deliveredAs_16)
    · skip
      refine vx_catch (own := RL) (name := "java/lang/IllegalArgumentException") (E := "java/lang/IllegalArgumentException") hown (tableOf [(0, 10, 13, 19)]) ⟨0, 10, 17, 21⟩ (tableOf []) (htab.trans rfl) (fun z hz => (List.mem_cons.mp hz).elim (fun h9 => by subst h9; exact Or.inr ⟨by decide, "java/lang/IndexOutOfBoundsException", hts (.classLink RL 19 "java/lang/IndexOutOfBoundsException") (by decide +kernel), hNc _ (.head _)⟩) (fun hz => absurd hz List.not_mem_nil)) (by decide) (by decide) (hts (.classLink RL 21 "java/lang/IllegalArgumentException") (by decide +kernel)) (va_Nw.use rfl (hE.2.2.2.2.2.2.2.2 _ (.tail _ (.head _)))) hcell hv9 hcl ?_
      refine W.eq (g2 := F0 m 17 ls [.ref q9]) rfl ?_
      refine lv_astore (lv' := [(4, .ref q9), (0, .ref (Γ 0 0)), (1, .int (nI u)), (2, .int (nI k)), (3, .ref o)]) hx hb dL_deliveredAs_17 hl (by decide) rfl (fun ls hl => ?_)
      refine lv_iconst (v := nI 2) hx hb dL_deliveredAs_19 (by decide) ?_
      exact vx_ret (mr_iret hx hb hr hlk (Nat.le_of_ble_eq_true rfl) (Nat.le_of_ble_eq_true rfl) hW ⟨by rw [hth], Or.inr ⟨by omega, rfl⟩⟩ dL_deliveredAs_20)
  · skip
    obtain ⟨hth, hr9, Γ1, ρ1, h00, hR1, hH1⟩ := hp
    subst hr9
    refine lv_i2l hx hb dL_deliveredAs_8 rfl ?_
    refine mr_jast (j := 0) hx hb hK hW 3 (hR1.nb hN) (by rfl) rfl (by decide) (by decide) dL_deliveredAs_9 (fun H locs hW => ?_)
    refine lv_goto (tgt := 21) hx hb dL_deliveredAs_10 (by decide) ?_
    refine lv_iconst (v := nI 0) hx hb dL_deliveredAs_21 (by decide) ?_
    exact vx_ret (mr_iret hx hb hr hlk (Nat.le_of_ble_eq_true rfl) (Nat.le_of_ble_eq_true rfl) hW ⟨by rw [hth], Or.inl ⟨hth, Γ1, ρ1, h00, hH1, hR1.putN hN⟩⟩ dL_deliveredAs_22)

set_option maxHeartbeats 4000000 in
set_option maxRecDepth 100000 in
theorem l_marks (l : Launch) (hst : l.stackTraces = false) (G : mG) (N : Mem) (Γ : Adr) (σ ρ : Sg) (i : Nat) (hi : i < 4294967296) (hH : HS σ ρ) (o : Nat) (f : Nat → Int64) (hN : N o = some (eJ (G.2.1 3) 1 f)) (M : Mem) (sz : Nat) (hR : Rp G N Γ (cs σ ρ) M) : cWi l yL_marks wsL_marks 8 5 30 G M sz [.ref (Γ 0 0), .int (nI i), .ref o] (wEnd G N Γ o f (thL σ i) (σ 18 i) (σ) M) := by
  refine m_startW cL_marks 4 (some .int) [(0, 9, 12, 19)] (by decide) rfl (Nat.le_of_ble_eq_true rfl) ?_
  intro p e s m below meth c ls hx hb hr hml hown hlk hts hK hsz hE hW hl htab hNc
  have hA := mA_A (M := M) hsz
  have hl : lv_has ls 4 [(0, .ref (Γ 0 0)), (1, .int (nI i)), (2, .ref o)] := hl
  refine lv_aload_n hx hb dL_marks_0 rfl (lv_at hl 2 rfl) ?_
  refine lv_iconst (v := nI 0) hx hb dL_marks_1 (by decide) ?_
  refine lv_aload_n hx hb dL_marks_2 rfl (lv_at hl 0 rfl) ?_
  refine lv_iload_n hx hb dL_marks_3 rfl (lv_at hl 1 rfl) ?_
  refine mx_w (vx_runV (As := [.int (nI i)]) (nL := 4) ⟨hx, hb, hml, hown, hts⟩ (wMarks l hst G N Γ σ ρ i hi hH _ _ hR) (cwV 1 hts gL_marks_X4_marks rfl rfl rfl (by decide +kernel) ⟨(Nat.le_of_ble_eq_true rfl), (Nat.le_of_ble_eq_true rfl)⟩) (mp_V hK hE hW hA (mW_recv hK hW.1 hR.o0 (by rfl))) rfl rfl hl.1 rfl (lv_room (Nat.le_of_ble_eq_true rfl)) dL_marks_4 ⟨(Nat.le_of_ble_eq_true rfl), (Nat.le_of_ble_eq_true rfl)⟩) hW hA (fun E9 ce9 q9 H locs hxp hW hcell hv9 hcl => ?_) (fun r9 M9 H locs hp hW => ?_)
  · skip
    obtain ⟨hth, rfl⟩ := xcase1 hxp
    refine vx_catch (own := RL) (name := "java/lang/IndexOutOfBoundsException") (E := "java/lang/IndexOutOfBoundsException") hown (tableOf []) ⟨0, 9, 12, 19⟩ (tableOf []) (htab.trans rfl) (fun z hz => absurd hz List.not_mem_nil) (by decide) (by decide) (hts (.classLink RL 19 "java/lang/IndexOutOfBoundsException") (by decide +kernel)) (va_Nw.use rfl (hE.2.2.2.2.2.2.2.2 _ (.head _))) hcell hv9 hcl ?_
    refine W.eq (g2 := F0 m 12 ls [.ref q9]) rfl ?_
    refine lv_astore_n (lv' := [(3, .ref q9), (0, .ref (Γ 0 0)), (1, .int (nI i)), (2, .ref o)]) hx hb dL_marks_12 rfl hl (by decide) rfl (fun ls hl => ?_)
    refine lv_iconst (v := nI 1) hx hb dL_marks_13 (by decide) ?_
    exact vx_ret (mr_iret hx hb hr hlk (Nat.le_of_ble_eq_true rfl) (Nat.le_of_ble_eq_true rfl) hW ⟨by rw [hth], Or.inr ⟨by omega, rfl⟩⟩ dL_marks_14)
  · skip
    obtain ⟨hth, hr9, Γ1, ρ1, h00, hR1, hH1⟩ := hp
    subst hr9
    refine lv_i2l hx hb dL_marks_7 rfl ?_
    refine mr_jast (j := 0) hx hb hK hW 3 (hR1.nb hN) (by rfl) rfl (by decide) (by decide) dL_marks_8 (fun H locs hW => ?_)
    refine lv_goto (tgt := 15) hx hb dL_marks_9 (by decide) ?_
    refine lv_iconst (v := nI 0) hx hb dL_marks_15 (by decide) ?_
    exact vx_ret (mr_iret hx hb hr hlk (Nat.le_of_ble_eq_true rfl) (Nat.le_of_ble_eq_true rfl) hW ⟨by rw [hth], Or.inl ⟨hth, Γ1, ρ1, h00, hH1, hR1.putN hN⟩⟩ dL_marks_16)

set_option maxHeartbeats 4000000 in
set_option maxRecDepth 100000 in
theorem l_markAt (l : Launch) (hst : l.stackTraces = false) (G : mG) (N : Mem) (Γ : Adr) (σ ρ : Sg) (i : Nat) (hi : i < 4294967296) (k : Nat) (hk : k < 4294967296) (hH : HS σ ρ) (o : Nat) (f : Nat → Int64) (hN : N o = some (eJ (G.2.1 3) 1 f)) (M : Mem) (sz : Nat) (hR : Rp G N Γ (cs σ ρ) M) : cWi l yL_markAt wsL_markAt 8 5 30 G M sz [.ref (Γ 0 0), .int (nI i), .int (nI k), .ref o] (wEnd G N Γ o f (thM σ i k) (σ 17 (200 * i + k)) (σ) M) := by
  refine m_startW cL_markAt 5 (some .int) [(0, 10, 13, 19)] (by decide) rfl (Nat.le_of_ble_eq_true rfl) ?_
  intro p e s m below meth c ls hx hb hr hml hown hlk hts hK hsz hE hW hl htab hNc
  have hA := mA_A (M := M) hsz
  have hl : lv_has ls 5 [(0, .ref (Γ 0 0)), (1, .int (nI i)), (2, .int (nI k)), (3, .ref o)] := hl
  refine lv_aload_n hx hb dL_markAt_0 rfl (lv_at hl 3 rfl) ?_
  refine lv_iconst (v := nI 0) hx hb dL_markAt_1 (by decide) ?_
  refine lv_aload_n hx hb dL_markAt_2 rfl (lv_at hl 0 rfl) ?_
  refine lv_iload_n hx hb dL_markAt_3 rfl (lv_at hl 1 rfl) ?_
  refine lv_iload_n hx hb dL_markAt_4 rfl (lv_at hl 2 rfl) ?_
  refine mx_w (vx_runV (As := [.int (nI i), .int (nI k)]) (nL := 5) ⟨hx, hb, hml, hown, hts⟩ (wMarkAt l hst G N Γ σ ρ i hi k hk hH _ _ hR) (cwV 2 hts gL_markAt_X4_markAt rfl rfl rfl (by decide +kernel) ⟨(Nat.le_of_ble_eq_true rfl), (Nat.le_of_ble_eq_true rfl)⟩) (mp_V hK hE hW hA (mW_recv hK hW.1 hR.o0 (by rfl))) rfl rfl hl.1 rfl (lv_room (Nat.le_of_ble_eq_true rfl)) dL_markAt_5 ⟨(Nat.le_of_ble_eq_true rfl), (Nat.le_of_ble_eq_true rfl)⟩) hW hA (fun E9 ce9 q9 H locs hxp hW hcell hv9 hcl => ?_) (fun r9 M9 H locs hp hW => ?_)
  · skip
    obtain ⟨hth, rfl⟩ := xcase1 hxp
    refine vx_catch (own := RL) (name := "java/lang/IndexOutOfBoundsException") (E := "java/lang/IndexOutOfBoundsException") hown (tableOf []) ⟨0, 10, 13, 19⟩ (tableOf []) (htab.trans rfl) (fun z hz => absurd hz List.not_mem_nil) (by decide) (by decide) (hts (.classLink RL 19 "java/lang/IndexOutOfBoundsException") (by decide +kernel)) (va_Nw.use rfl (hE.2.2.2.2.2.2.2.2 _ (.head _))) hcell hv9 hcl ?_
    refine W.eq (g2 := F0 m 13 ls [.ref q9]) rfl ?_
    refine lv_astore (lv' := [(4, .ref q9), (0, .ref (Γ 0 0)), (1, .int (nI i)), (2, .int (nI k)), (3, .ref o)]) hx hb dL_markAt_13 hl (by decide) rfl (fun ls hl => ?_)
    refine lv_iconst (v := nI 1) hx hb dL_markAt_15 (by decide) ?_
    exact vx_ret (mr_iret hx hb hr hlk (Nat.le_of_ble_eq_true rfl) (Nat.le_of_ble_eq_true rfl) hW ⟨by rw [hth], Or.inr ⟨by omega, rfl⟩⟩ dL_markAt_16)
  · skip
    obtain ⟨hth, hr9, Γ1, ρ1, h00, hR1, hH1⟩ := hp
    subst hr9
    refine lv_i2l hx hb dL_markAt_8 rfl ?_
    refine mr_jast (j := 0) hx hb hK hW 3 (hR1.nb hN) (by rfl) rfl (by decide) (by decide) dL_markAt_9 (fun H locs hW => ?_)
    refine lv_goto (tgt := 17) hx hb dL_markAt_10 (by decide) ?_
    refine lv_iconst (v := nI 0) hx hb dL_markAt_17 (by decide) ?_
    exact vx_ret (mr_iret hx hb hr hlk (Nat.le_of_ble_eq_true rfl) (Nat.le_of_ble_eq_true rfl) hW ⟨by rw [hth], Or.inl ⟨hth, Γ1, ρ1, h00, hH1, hR1.putN hN⟩⟩ dL_markAt_18)

set_option maxHeartbeats 4000000 in
set_option maxRecDepth 100000 in
theorem l_written (l : Launch) (hst : l.stackTraces = false) (G : mG) (N : Mem) (Γ : Adr) (σ ρ : Sg) (i : Nat) (hi : i < 4294967296) (k : Nat) (hk : k < 4294967296) (hH : HS σ ρ) (o : Nat) (f : Nat → Int64) (hN : N o = some (eJ (G.2.1 3) 1 f)) (M : Mem) (sz : Nat) (hR : Rp G N Γ (cs σ ρ) M) : cWi l yL_written wsL_written 8 5 30 G M sz [.ref (Γ 0 0), .int (nI i), .int (nI k), .ref o] (wEnd G N Γ o f (thN σ i k) (wtS σ i k) (σ) M) := by
  refine m_startW cL_written 5 (some .int) [(0, 10, 13, 19)] (by decide) rfl (Nat.le_of_ble_eq_true rfl) ?_
  intro p e s m below meth c ls hx hb hr hml hown hlk hts hK hsz hE hW hl htab hNc
  have hA := mA_A (M := M) hsz
  have hl : lv_has ls 5 [(0, .ref (Γ 0 0)), (1, .int (nI i)), (2, .int (nI k)), (3, .ref o)] := hl
  refine lv_aload_n hx hb dL_written_0 rfl (lv_at hl 3 rfl) ?_
  refine lv_iconst (v := nI 0) hx hb dL_written_1 (by decide) ?_
  refine lv_aload_n hx hb dL_written_2 rfl (lv_at hl 0 rfl) ?_
  refine lv_iload_n hx hb dL_written_3 rfl (lv_at hl 1 rfl) ?_
  refine lv_iload_n hx hb dL_written_4 rfl (lv_at hl 2 rfl) ?_
  refine mx_w (vx_runV (As := [.int (nI i), .int (nI k)]) (nL := 5) ⟨hx, hb, hml, hown, hts⟩ (wWritten l hst G N Γ σ ρ i hi k hk hH _ _ hR) (cwV 2 hts gL_written_X4_written rfl rfl rfl (by decide +kernel) ⟨(Nat.le_of_ble_eq_true rfl), (Nat.le_of_ble_eq_true rfl)⟩) (mp_V hK hE hW hA (mW_recv hK hW.1 hR.o0 (by rfl))) rfl rfl hl.1 rfl (lv_room (Nat.le_of_ble_eq_true rfl)) dL_written_5 ⟨(Nat.le_of_ble_eq_true rfl), (Nat.le_of_ble_eq_true rfl)⟩) hW hA (fun E9 ce9 q9 H locs hxp hW hcell hv9 hcl => ?_) (fun r9 M9 H locs hp hW => ?_)
  · skip
    obtain ⟨hth, rfl⟩ := xcase1 hxp
    refine vx_catch (own := RL) (name := "java/lang/IndexOutOfBoundsException") (E := "java/lang/IndexOutOfBoundsException") hown (tableOf []) ⟨0, 10, 13, 19⟩ (tableOf []) (htab.trans rfl) (fun z hz => absurd hz List.not_mem_nil) (by decide) (by decide) (hts (.classLink RL 19 "java/lang/IndexOutOfBoundsException") (by decide +kernel)) (va_Nw.use rfl (hE.2.2.2.2.2.2.2.2 _ (.head _))) hcell hv9 hcl ?_
    refine W.eq (g2 := F0 m 13 ls [.ref q9]) rfl ?_
    refine lv_astore (lv' := [(4, .ref q9), (0, .ref (Γ 0 0)), (1, .int (nI i)), (2, .int (nI k)), (3, .ref o)]) hx hb dL_written_13 hl (by decide) rfl (fun ls hl => ?_)
    refine lv_iconst (v := nI 1) hx hb dL_written_15 (by decide) ?_
    exact vx_ret (mr_iret hx hb hr hlk (Nat.le_of_ble_eq_true rfl) (Nat.le_of_ble_eq_true rfl) hW ⟨by rw [hth], Or.inr ⟨by omega, rfl⟩⟩ dL_written_16)
  · skip
    obtain ⟨hth, hr9, Γ1, ρ1, h00, hR1, hH1⟩ := hp
    subst hr9
    refine lv_i2l hx hb dL_written_8 rfl ?_
    refine mr_jast (j := 0) hx hb hK hW 3 (hR1.nb hN) (by rfl) rfl (by decide) (by decide) dL_written_9 (fun H locs hW => ?_)
    refine lv_goto (tgt := 17) hx hb dL_written_10 (by decide) ?_
    refine lv_iconst (v := nI 0) hx hb dL_written_17 (by decide) ?_
    exact vx_ret (mr_iret hx hb hr hlk (Nat.le_of_ble_eq_true rfl) (Nat.le_of_ble_eq_true rfl) hW ⟨by rw [hth], Or.inl ⟨hth, Γ1, ρ1, h00, hH1, hR1.putN hN⟩⟩ dL_written_18)
