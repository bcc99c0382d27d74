/-! THE LAW: what stands between two calls, arguments, the end of a case (mine) -/
theorem HS.x25 {σ ρ : Sg} {v : Nat} (h : HS σ ρ) : HS (st σ 25 0 v) ρ :=
  ⟨h.1.x25, h.2.1.of (by rw [st_f (by decide)]; exact Nat.le_refl _) (fun i _ => ⟨st_f (by decide), st_f (by decide), fun j _ => st_f (by decide)⟩), h.2.2.of (fun g j hg => st_f (by omega))⟩
theorem wE25 {G : mG} {N : Mem} {Γ : Adr} {o : Nat} {f : Nat → Int64} {th rs : Nat} {σ : Sg} {M : Mem} {r : Int32} {M' : Mem} (h : wEnd G N Γ o f th rs σ M r M') : wEnd G N Γ o f th rs (st σ 25 0 0) M r M' := by
  obtain ⟨h1, ⟨h2, Γ', ρ', h3, h4, h5⟩ | h2⟩ := h
  · exact ⟨h1, Or.inl ⟨h2, Γ', ρ', h3, h4.x25, by rw [cs_25]; exact h5⟩⟩
  · exact ⟨h1, Or.inr h2⟩
/-- class and reference beside each other, and the row out[0] -/
def gI (G : mG) (N : Mem) (Γ : Adr) (σ ρ : Sg) (ad : Nat → Nat) (o : Nat) (f : Nat → Int64) (M : Mem) : Prop := HS σ ρ ∧ Rp G N Γ (cs σ ρ) M ∧ RefAt G ad σ N ∧ N o = some (eJ (G.2.1 3) 1 f) ∧ ∀ k, rDom k = true → o ≠ ad k
theorem gI.ref {G : mG} {N : Mem} {Γ : Adr} {σ ρ : Sg} {ad : Nat → Nat} {o : Nat} {f : Nat → Int64} {M : Mem} (h : gI G N Γ σ ρ ad o f M) : RefAt G ad σ M := ⟨fun k hk => Rp.nb h.2.1 (h.2.2.1.1 k hk), h.2.2.1.2⟩
theorem gI.moves {G : mG} {N : Mem} {Γ : Adr} {σ σ' ρ : Sg} {ad : Nat → Nat} {o : Nat} {f : Nat → Int64} {M M' : Mem} (h : gI G N Γ σ ρ ad o f M) (hs : HS σ' ρ) (hc : cs σ' ρ = cs σ ρ) (hR : RefAt G ad σ' M') (hf : mFr ad M M') : gI G (mBe N M') Γ σ' ρ ad o f M' := by
  obtain ⟨h1, h2, h3, h4, h5⟩ := h
  have hR2 : Rp G (mBe N M') Γ (cs σ ρ) M' := h2.beside (fun q hq => hf q (fun k hk z => by rw [z, h3.1 k hk] at hq; cases hq))
  refine ⟨hs, by rw [hc]; exact hR2, ⟨fun k hk => (mBe_s (h3.1 k hk)).trans (hR.1 k hk), hR.2⟩, ?_, h5⟩
  rw [mBe_s h4, hf o (fun k hk => h5 k hk)]
  exact Rp.nb h2 h4
theorem gI.step {G : mG} {N : Mem} {Γ : Adr} {σ ρ : Sg} {ad : Nat → Nat} {o : Nat} {f : Nat → Int64} {M : Mem} (h : gI G N Γ σ ρ ad o f M) {th rs : Nat} {nx : Sg} {r : Int32} {M1 : Mem} (hw : wEnd G N Γ o f th rs nx M r M1) (hn : th = 0 → nx 25 0 = 0) :
    r = nI th ∧ RefAt G ad σ M1 ∧ ∀ (r2 : Int32) (σ' : Sg) (M2 : Mem), rPost th rs nx σ r2 σ' → RefAt G ad σ' M2 → mFr ad M1 M2 → σ' 25 0 = th ∧ ∃ (N' : Mem) (Γ' : Adr) (ρ' : Sg) (f' : Nat → Int64), gI G N' Γ' σ' ρ' ad o f' M2 ∧ Γ' 0 0 = Γ 0 0 ∧ (th = 0 → r2 = nI rs ∧ f' 0 = (nI rs).toInt64) := by
  obtain ⟨hH, hR, hA, hN, ho⟩ := id h
  obtain ⟨h1, ⟨h2, Γ', ρ', h3, h4, h5⟩ | ⟨h2, h3⟩⟩ := hw
  · obtain ⟨f1, ef1⟩ : ∃ z, z = vp_updL f 0 (nI rs).toInt64 := ⟨_, rfl⟩
    rw [← ef1] at h5
    have hA1 : RefAt G ad σ (va_up N o (some (eJ (G.2.1 3) 1 f1))) := ⟨fun k hk => (if_neg (Ne.symm (ho k hk))).trans (hA.1 k hk), hA.2⟩
    have hN1 : (va_up N o (some (eJ (G.2.1 3) 1 f1))) o = some (eJ (G.2.1 3) 1 f1) := if_pos rfl
    refine ⟨h1, ⟨fun k hk => Rp.nb h5 (hA1.1 k hk), hA.2⟩, fun r2 σ' M2 hp hA2 hF => ?_⟩
    obtain ⟨e1, e2⟩ := hp.1 h2
    rw [e2] at hA2
    refine ⟨by rw [e2, hn h2, h2], mBe (va_up N o (some (eJ (G.2.1 3) 1 f1))) M2, Γ', ρ', f1, ?_, h3, fun _ => ⟨e1, by rw [ef1]; simp [vp_updL]⟩⟩
    rw [e2]
    refine ⟨h4, h5.beside (fun q hq => hF q (fun k hk z => ?_)), ⟨fun k hk => (mBe_s (hA1.1 k hk)).trans (hA2.1 k hk), hA2.2⟩, ?_, ho⟩
    · rw [z, hA1.1 k hk] at hq
      cases hq
    · rw [mBe_s hN1, hF o (fun k hk => ho k hk)]
      exact Rp.nb h5 hN1
  · subst h3
    refine ⟨h1, h.ref, fun r2 σ' M2 hp hA2 hF => ?_⟩
    have e2 := hp.2 h2
    subst e2
    exact ⟨st_s, _, Γ, ρ, f, h.moves hH.x25 cs_25 hA2 hF, rfl, fun z => absurd z h2⟩
abbrev gA (s : State) : Nat → Prop := fun q => s.heap.size ≤ q
/-- what stays from the law's entry on -/
def gB (p : Program) (l : Launch) (s : State) (m : MethodId) (c : Code) (b L : Nat) (xs : Nat → Int32) (G : mG) : Prop :=
  p.tables.exec = Jvm.exec ∧ c.code = cL_law ∧ c.maxLocals = 7 ∧ s.vm.findClass RL = some m.cls ∧ (∀ w ∈ wsL_law, w.before #[Value.ref b] s = true) ∧ va_X b L xs s s.heap ∧ b < s.heap.size ∧ va_K G.1 vwCl (kT G) s ∧ sE G (gA s) s s.heap ∧ (∀ q ∈ sXn, va_Nc q.1 q.2 s) ∧ L ≤ 2560 ∧ l.stackTraces = false
def gJ (G : mG) (s : State) (a1 : Nat) (ad : Nat → Nat) (o : Nat) (H : Heap) (locs : List Loc) : Prop := ∃ (M N : Mem) (Γ : Adr) (σ ρ : Sg) (f : Nat → Int64), gI G N Γ σ ρ ad o f M ∧ Γ 0 0 = a1 ∧ mW G.1 vwCl (gA s) s.heap M H locs
abbrev gLv (b a1 a2 o : Nat) (i : Int32) : List (Nat × Value) := [(0, .ref b), (1, .ref a1), (2, .ref a2), (3, .ref o), (4, .int i)]
section GW
variable {p : Program} {l : Launch} {e : Env} {s : State} {m : MethodId} {below : List Frame} {meth : Method} {c : Code} {H : Heap} {locs : List Loc} {cells slots : Nat} {Q : State → Prop} {b L : Nat} {xs : Nat → Int32} {pc : Nat} {ls : Array Slot} {rest : List Value} {G : mG}
theorem g_arg (hx : p.tables.exec = Jvm.exec) (hb : c.code = cL_law) (hX : va_X b L xs s s.heap) (hbl : b < s.heap.size) (hS : va_S (gA s) s.heap H locs) (hL : L ≤ 2560) {k : Nat} (hk : 5 * k + 5 ≤ L) {j u : Nat} {j0 : Int} (hj : j < 5) (hj0 : Int32.ofInt j0 = nI j) (eu : xs (5 * k + j) = nI u) (hl : lv_has ls 7 [(0, .ref b), (4, .int (nI (5 * k)))]) (d0 : decode cL_law pc = .ok (.aload_n 0, 1)) (d1 : decode cL_law (pc + 1) = .ok (.iload 4, 2)) (d3 : decode cL_law (pc + 3) = .ok (.iconst j0, 1)) (d4 : decode cL_law (pc + 4) = .ok (.iadd, 1)) (d5 : decode cL_law (pc + 5) = .ok (.iaload, 1))
    (kk : W p l e room_1 s m #[Value.ref b] below meth c H locs cells slots Q (F0 m (pc + 6) ls (.int (nI u) :: rest))) : W p l e room_1 s m #[Value.ref b] below meth c H locs cells slots Q (F0 m pc ls rest) := by
  refine lv_aload_n hx hb d0 rfl (lv_at hl 0 rfl) ?_
  refine lv_iload hx hb d1 (lv_at hl 1 rfl) ?_
  refine lv_iconst (v := nI j) hx hb d3 hj0 ?_
  refine lv_iadd hx hb d4 (lv_tope (nI_add (5 * k) j) ?_)
  refine va_sld hx hb hX hbl (Nat.not_le.mpr hbl) hS (vp_in_nI (show 5 * k + j < L by omega) (by omega)) d5 ?_
  rw [nI_clamp (by omega), eu]
  exact kk
/-- behind the reference's answer: what it threw is compared -/
theorem g_tail1 (B : gB p l s m c b L xs G) {M N : Mem} {Γ : Adr} {σ ρ : Sg} {ad : Nat → Nat} {a1 o th T : Nat} {r2 i4 : Int32} {off : Int} {f : Nat → Int64} (hW : mW G.1 vwCl (gA s) s.heap M H locs) (hI : gI G N Γ σ ρ ad o f M) (h25 : σ 25 0 = th) (h3 : th < 4294967296) (hl : lv_has ls 7 [(5, .int (nI th)), (0, .ref b), (1, .ref a1), (2, .ref (ad 0)), (3, .ref o), (4, .int i4)])
    (d0 : decode cL_law pc = .ok (.istore 6, 2)) (d2 : decode cL_law (pc + 2) = .ok (.aload_n 2, 1)) (d3 : decode cL_law (pc + 3) = .ok (.invokevirtual 101, 3)) (d6 : decode cL_law (pc + 6) = .ok (.iload 5, 2)) (d8 : decode cL_law (pc + 8) = .ok (.if_icmp .eq 5, 3)) (d13 : decode cL_law (pc + 13) = .ok (.iload 5, 2)) (d15 : decode cL_law (pc + 15) = .ok (.ifCond .ne off, 3)) (hT : ((pc + 15 : Nat) : Int) + off = (T : Int)) (hc : cells ≤ 601024) (hs : slots ≤ 7293034)
    (kt : ∀ (H : Heap) (locs : List Loc) (ls : Array Slot) (M N : Mem), ¬ th = 0 → mW G.1 vwCl (gA s) s.heap M H locs → gI G N Γ σ ρ ad o f M → lv_has ls 7 [(6, .int r2), (5, .int (nI th)), (0, .ref b), (1, .ref a1), (2, .ref (ad 0)), (3, .ref o), (4, .int i4)] → W p l e room_1 s m #[Value.ref b] below meth c H locs cells slots Q (F0 m T ls []))
    (kf : ∀ (H : Heap) (locs : List Loc) (ls : Array Slot) (M N : Mem), th = 0 → mW G.1 vwCl (gA s) s.heap M H locs → gI G N Γ σ ρ ad o f M → lv_has ls 7 [(6, .int r2), (5, .int (nI th)), (0, .ref b), (1, .ref a1), (2, .ref (ad 0)), (3, .ref o), (4, .int i4)] → W p l e room_1 s m #[Value.ref b] below meth c H locs cells slots Q (F0 m (pc + 18) ls [])) : W p l e room_1 s m #[Value.ref b] below meth c H locs cells slots Q (F0 m pc ls [.int r2]) := by
  obtain ⟨hx, hb, hml, hown, hts, hX, hbl, hK, hE, hN, hL, hst⟩ := B
  have hA : ∀ q, s.heap.size ≤ q → gA s q := fun _ h => h
  have hA2 := hI.ref
  refine lv_istore (lv' := [(6, .int r2), (5, .int (nI th)), (0, .ref b), (1, .ref a1), (2, .ref (ad 0)), (3, .ref o), (4, .int i4)]) hx hb d0 hl (by decide) rfl (fun ls hl => ?_)
  refine lv_aload_n hx hb d2 rfl (lv_at hl 4 rfl) ?_
  refine mk_i (va_runV (As := []) (rest := []) (nL := 7) ⟨hx, hb, hml, hown, hts⟩ (c5_thrown l G ad σ M H.size hA2) (cwV 0 hts gL_law_X5_thrown rfl rfl rfl (by decide +kernel) ⟨(Nat.le_of_ble_eq_true rfl), (Nat.le_of_ble_eq_true rfl)⟩) (mp_V hK hE hW hA (mW_recv hK hW.1 (hA2.1 0 (by decide)) (by rfl))) rfl rfl hl.1 rfl (lv_room (Nat.le_of_ble_eq_true rfl)) d3 ⟨hc, hs⟩) hW hA (fun r9 M9 H locs hp hW => ?_)
  obtain ⟨σ9, ⟨e1, e2⟩, hA9, hF9⟩ := hp
  rw [e2] at hA9
  have hI9 := hI.moves hI.1 rfl hA9 hF9
  refine lv_tope (e1.trans (congrArg nI h25)) ?_
  refine lv_iload hx hb d6 (lv_at hl 1 rfl) ?_
  refine lv_icmp_eq (tgt := pc + 13) hx hb d8 (by omega) (fun _ => ?_) (fun z => absurd rfl z)
  refine lv_iload hx hb d13 (lv_at hl 1 rfl) ?_
  refine nv_if_ne (u := th) (tgt := T) hx hb d15 hT h3 (fun z => ?_) (fun z => ?_)
  · exact kt _ _ _ _ _ z hW hI9 hl
  · exact kf _ _ _ _ _ z hW hI9 hl
theorem g_cmp {x y : Int64} (h : x = y) : lg_cmp x y = nI 0 := by
  subst h
  simp [lg_cmp]
  rfl
theorem g_tail (B : gB p l s m c b L xs G) {M N : Mem} {Γ : Adr} {σ ρ : Sg} {ad : Nat → Nat} {a1 o th rs : Nat} {r2 i4 : Int32} {off : Int} {f : Nat → Int64} (hW : mW G.1 vwCl (gA s) s.heap M H locs) (hI : gI G N Γ σ ρ ad o f M) (h25 : σ 25 0 = th) (h3 : th < 4294967296) (h0 : th = 0 → r2 = nI rs ∧ f 0 = (nI rs).toInt64) (hl : lv_has ls 7 [(5, .int (nI th)), (0, .ref b), (1, .ref a1), (2, .ref (ad 0)), (3, .ref o), (4, .int i4)])
    (d0 : decode cL_law pc = .ok (.istore 6, 2)) (d2 : decode cL_law (pc + 2) = .ok (.aload_n 2, 1)) (d3 : decode cL_law (pc + 3) = .ok (.invokevirtual 101, 3)) (d6 : decode cL_law (pc + 6) = .ok (.iload 5, 2)) (d8 : decode cL_law (pc + 8) = .ok (.if_icmp .eq 5, 3)) (d13 : decode cL_law (pc + 13) = .ok (.iload 5, 2)) (d15 : decode cL_law (pc + 15) = .ok (.ifCond .ne 15, 3)) (d18 : decode cL_law (pc + 18) = .ok (.aload_n 3, 1)) (d19 : decode cL_law (pc + 19) = .ok (.iconst 0, 1)) (d20 : decode cL_law (pc + 20) = .ok (.laload, 1)) (d21 : decode cL_law (pc + 21) = .ok (.iload 6, 2)) (d23 : decode cL_law (pc + 23) = .ok (.i2l, 1)) (d24 : decode cL_law (pc + 24) = .ok (.lcmp, 1)) (d25 : decode cL_law (pc + 25) = .ok (.ifCond .eq 5, 3)) (d30 : decode cL_law (pc + 30) = .ok (.goto off, 3)) (hT : ((pc + 30 : Nat) : Int) + off = ((1593 : Nat) : Int)) (hc : cells ≤ 601024) (hs : slots ≤ 7293034)
    (kk : ∀ (H : Heap) (locs : List Loc) (ls : Array Slot) (M N : Mem), mW G.1 vwCl (gA s) s.heap M H locs → gI G N Γ σ ρ ad o f M → lv_has ls 7 (gLv b a1 (ad 0) o i4) → W p l e room_1 s m #[Value.ref b] below meth c H locs cells slots Q (F0 m 1593 ls [])) : W p l e room_1 s m #[Value.ref b] below meth c H locs cells slots Q (F0 m pc ls [.int r2]) := by
  refine g_tail1 (T := pc + 30) B hW hI h25 h3 hl d0 d2 d3 d6 d8 d13 d15 (by omega) hc hs (fun H locs ls M N z hW hI hl => ?_) (fun H locs ls M N z hW hI hl => ?_)
  · obtain ⟨hx, hb, -⟩ := B
    refine lv_goto (tgt := 1593) hx hb d30 hT ?_
    exact kk _ _ _ _ _ hW hI (lv_sub hl [2, 3, 4, 5, 6] rfl)
  · obtain ⟨hx, hb, hml, hown, hts, hX, hbl, hK, -⟩ := B
    obtain ⟨e1, e2⟩ := h0 z
    refine lv_aload_n hx hb d18 rfl (lv_at hl 5 rfl) ?_
    refine lv_iconst (v := nI 0) hx hb d19 (by decide) ?_
    refine mr_jald hx hb hK hW 3 (Rp.nb hI.2.1 hI.2.2.2.1) (by rfl) (j := 0) rfl (by decide) (by decide) d20 ?_
    refine lv_iload hx hb d21 (lv_at hl 0 rfl) ?_
    refine lv_i2l hx hb d23 rfl ?_
    refine W.lcmp hx hb d24 (lv_tope (g_cmp (by rw [e1, e2])) ?_)
    refine lv_if_eq (tgt := pc + 30) hx hb d25 (by omega) (fun _ => ?_) (fun z => absurd rfl z)
    refine lv_goto (tgt := 1593) hx hb d30 hT ?_
    exact kk _ _ _ _ _ hW hI (lv_sub hl [2, 3, 4, 5, 6] rfl)
end GW
