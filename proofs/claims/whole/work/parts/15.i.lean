/-! THE LAW: what holds at the loop's first turn, the walk to it (mine) -/
theorem g_df26 : ∀ j, j < 26 → defaultValue (tyX5 j) = vp_V (rFN (fun _ => 0) 0) j := fun j hj => by
  rcases (show j = 0 ∨ j = 1 ∨ j = 2 ∨ j = 3 ∨ j = 4 ∨ j = 5 ∨ j = 6 ∨ j = 7 ∨ j = 8 ∨ j = 9 ∨ j = 10 ∨ j = 11 ∨ j = 12 ∨ j = 13 ∨ j = 14 ∨ j = 15 ∨ j = 16 ∨ j = 17 ∨ j = 18 ∨ j = 19 ∨ j = 20 ∨ j = 21 ∨ j = 22 ∨ j = 23 ∨ j = 24 ∨ j = 25 by omega) with rfl | rfl | rfl | rfl | rfl | rfl | rfl | rfl | rfl | rfl | rfl | rfl | rfl | rfl | rfl | rfl | rfl | rfl | rfl | rfl | rfl | rfl | rfl | rfl | rfl | rfl <;> rfl
theorem g_start {G : mG} {M1 M2 M3 : Mem} {b a v r q a0 o : Nat} {ad : Nat → Nat} {f : Nat → Int64} {e2 : va_E} (h1 : M1 b = some (.inr (5, [.ref a, .ref v, .ref r, .ref q, .int (nI 0), .int (nI 0)]))) (h2 : M1 a = some (.inr (0, [.int (nI 0), .ref (G.2.2 0), .int (nI 0)]))) (h3 : M1 v = some (.inr (0, [.int (nI 0), .ref (G.2.2 0), .int (nI 0)]))) (h4 : M1 r = some (.inr (0, [.int (nI 0), .ref (G.2.2 0), .int (nI 0)]))) (h5 : M1 q = some (eI (G.2.1 0) 10 (fun _ => 0))) (hd : a ≠ v ∧ a ≠ r ∧ v ≠ r) (h0 : M1 a0 = none) (e2d : M2 = va_up M1 a0 (some e2)) (had : ad 0 = a0) (hA : RefAt G ad σ0 M3) (hf : ∀ k, rDom k = true → k ≠ 0 → M2 (ad k) = none) (hk : ∀ x, M2 x ≠ none → x ≠ a0 → M3 x = M2 x) (ho : M3 o = none) :
    ∃ (N : Mem) (Γ : Adr), Γ 0 0 = b ∧ gI G N Γ σ0 σ0 ad o f (va_up M3 o (some (eJ (G.2.1 3) 1 f))) := by
  obtain ⟨M4, e4⟩ : ∃ z : Mem, z = va_up M3 o (some (eJ (G.2.1 3) 1 f)) := ⟨_, rfl⟩
  rw [← e4]
  have k3 : ∀ x e, M1 x = some e → M3 x = some e := fun x e h => by
    have n0 : x ≠ a0 := fun z => by rw [z, h0] at h; cases h
    have g2 : M2 x = some e := by rw [e2d]; exact (if_neg n0).trans h
    exact (hk x (fun z => by rw [z] at g2; cases g2) n0).trans g2
  have k4 : ∀ x e, M3 x = some e → M4 x = some e := fun x e h => by
    rw [e4]
    exact (if_neg (fun z => by rw [z, ho] at h; cases h)).trans h
  have f1 : ∀ k, rDom k = true → M1 (ad k) = none := fun k hr => by
    by_cases z : k = 0
    · rw [z, had]; exact h0
    · have g := hf k hr z
      rw [e2d] at g
      exact va_up_none g
  have fo : M1 o = none := by
    cases hz : M1 o with
    | none => rfl
    | some e => rw [k3 o e hz] at ho; cases ho
  have o4 : M4 o = some (eJ (G.2.1 3) 1 f) := by rw [e4]; exact if_pos rfl
  obtain ⟨N, eN⟩ : ∃ z : Mem, z = fun x => match M1 x with | none => M4 x | some _ => none := ⟨_, rfl⟩
  have n1 : ∀ x, M1 x = none → N x = M4 x := fun x h => by rw [eN]; show (match M1 x with | none => M4 x | some _ => none) = _; rw [h]
  have n2 : ∀ x e, N x = some e → M1 x = none := fun x e h => by
    rw [eN] at h
    cases hz : M1 x with
    | none => rfl
    | some e9 => have h : (match M1 x with | none => M4 x | some _ => none) = some e := h; rw [hz] at h; cases h
  obtain ⟨Γ, g1, g2⟩ := Rp.init (G := G) (N := N) (k4 _ _ (k3 _ _ h1)) (k4 _ _ (k3 _ _ h2)) (k4 _ _ (k3 _ _ h3)) (k4 _ _ (k3 _ _ h4)) (k4 _ _ (k3 _ _ h5)) hd (fun x e h => by
    have z := n2 x e h
    refine ⟨by rw [← n1 x z]; exact h, fun y => ?_, fun y => ?_, fun y => ?_, fun y => ?_, fun y => ?_⟩
    · rw [y, h1] at z; cases z
    · rw [y, h2] at z; cases z
    · rw [y, h3] at z; cases z
    · rw [y, h4] at z; cases z
    · rw [y, h5] at z; cases z)
  refine ⟨N, Γ, g1, HS.zero, g2, ⟨fun k hr => ?_, hA.2⟩, (n1 o fo).trans o4, fun k hr z => ?_⟩
  · rw [n1 _ (f1 k hr)]
    exact k4 _ _ (hA.1 k hr)
  · have g := hA.1 k hr
    rw [← z, ho] at g
    cases g
set_option maxHeartbeats 4000000 in
set_option maxRecDepth 100000 in
theorem whole_start {p : Program} {e : Env} {s : State} {m : MethodId} {below : List Frame} {meth : Method} {c : Code} (l : Launch) (hflags : l.flags = flags0) {b L : Nat} {xs : Nat → Int32} (hL : L ≤ 2560) (C0 : lw_At p s m meth c b L xs) : W p l e room_1 s m #[Value.ref b] below meth c s.heap [] 0 0 (lw_Z below #[Value.ref b] s) (entryFrame m ([Value.ref b] : List Value).toArray 7) := by
  obtain ⟨hx, hb, hr, hml, hown, hts0, hX, hbl, hlk, hgv⟩ := id C0
  obtain ⟨G, hK, hE, hN⟩ := law_env hts0 hgv
  have hts : ∀ w ∈ wsL_law, w.before #[Value.ref b] s = true := fun w h => hts0 w (wsL_law_in w h)
  have hb : c.code = cL_law := hb
  have hown : s.vm.findClass RL = some m.cls := hown
  have hst : l.stackTraces = false := flg hflags
  have B : gB p l s m c b L xs G := ⟨hx, hb, hml, hown, hts, hX, hbl, hK, hE, hN, hL, hst⟩
  have hl := lv_entry ([.ref b]) (n := 7) (Nat.le_of_ble_eq_true rfl)
  rw [lg_entry_eq]
  generalize (lg_sl ([.ref b]) ++ List.replicate (7 - (lg_sl ([.ref b])).length) Slot.unset).toArray = ls at hl ⊢
  have hl : lv_has ls 7 [(0, .ref b)] := hl
  have hA : ∀ q, s.heap.size ≤ q → gA s q := fun _ h => h
  have hW : mW G.1 vwCl (gA s) s.heap (fun _ => none) s.heap [] := ⟨⟨[], fun k q h => by simp at h, ⟨fun i j p q h => by simp at h, fun k q h => by simp at h⟩, fun a e => ⟨fun h => (by cases h), fun h => (by obtain ⟨k, h⟩ := h; simp at h)⟩⟩, va_S.rf, fun a e h => (by cases h)⟩
  refine mr_new (fs := [.null, .null, .null, .null, .int (nI 0), .int (nI 0)]) hx hb hts inlX4 tyX4 tyX4_ok hown (hts (.classLink RL 8 RX4) (by decide +kernel)) (hts (.instantiable RX4 6) (by decide +kernel)) (hts (.initialized RX4) (by decide +kernel)) hK hW hA (ci := 5) (by rfl) (fun j hj => by match j, hj with | 0, _ => rfl | 1, _ => rfl | 2, _ => rfl | 3, _ => rfl | 4, _ => rfl | 5, _ => rfl) (Nat.le_of_ble_eq_true rfl) (Nat.le_of_ble_eq_true rfl) dL_law_0 (fun q0 H f0 hW => ?_)
  obtain ⟨M0, e0⟩ : ∃ z : Mem, z = va_up (fun _ => none) q0 (some (.inr (5, [.null, .null, .null, .null, .int (nI 0), .int (nI 0)]))) := ⟨_, rfl⟩
  rw [← e0] at hW
  have m0 : M0 q0 = some (.inr (5, [.null, .null, .null, .null, .int (nI 0), .int (nI 0)])) := by rw [e0]; exact if_pos rfl
  refine lv_dup hx hb dL_law_3 rfl ?_
  refine mk_v (va_runI (As := []) (rest := [.ref q0]) (nL := 7) ⟨hx, hb, hml, hown, hts⟩ (nPost l G M0 H.size q0 m0) (cwI 0 hts gL_law_X4_init rfl rfl rfl (hts (.initialized RX4) (by decide +kernel)) (hts (.methodLink RL 91 yX4_init) (by decide +kernel)) (hts (.instanceMethod yX4_init) (by decide +kernel)) rfl (by decide +kernel) ⟨(Nat.le_of_ble_eq_true rfl), (Nat.le_of_ble_eq_true rfl)⟩) (mp_S hK hE hW hA) rfl rfl hl.1 rfl (lv_room (Nat.le_of_ble_eq_true rfl)) dL_law_4 ⟨(Nat.le_of_ble_eq_true rfl), (Nat.le_of_ble_eq_true rfl)⟩) hW hA (fun M1 H locs hp hW => ?_)
  obtain ⟨a, v, r, q, -, -, -, -, h1, h2, h3, h4, h5, hd, -, -⟩ := hp
  refine lv_astore_n (lv' := [(1, .ref q0), (0, .ref b)]) hx hb dL_law_7 rfl hl (by decide) rfl (fun ls hl => ?_)
  refine mr_new (fs := rFN (fun _ => 0) 0) hx hb hts inlX5 tyX5 tyX5_ok hown (hts (.classLink RL 92 RX5) (by decide +kernel)) (hts (.instantiable RX5 26) (by decide +kernel)) (hts (.initialized RX5) (by decide +kernel)) hK hW hA (ci := 6) (by rfl) (g_df26) (Nat.le_of_ble_eq_true rfl) (Nat.le_of_ble_eq_true rfl) dL_law_8 (fun a0 H f1 hW => ?_)
  obtain ⟨M2, e2⟩ : ∃ z : Mem, z = va_up M1 a0 (some (.inr (6, rFN (fun _ => 0) 0))) := ⟨_, rfl⟩
  rw [← e2] at hW
  have m2 : M2 a0 = some (.inr (6, rFN (fun _ => 0) 0)) := by rw [e2]; exact if_pos rfl
  refine lv_dup hx hb dL_law_11 rfl ?_
  refine mk_v (va_runI (As := []) (rest := [.ref a0]) (nL := 7) ⟨hx, hb, hml, hown, hts⟩ (c5_init l G a0 M2 H.size m2) (cwI 0 hts gL_law_X5_init rfl rfl rfl (hts (.initialized RX5) (by decide +kernel)) (hts (.methodLink RL 94 yX5_init) (by decide +kernel)) (hts (.instanceMethod yX5_init) (by decide +kernel)) rfl (by decide +kernel) ⟨(Nat.le_of_ble_eq_true rfl), (Nat.le_of_ble_eq_true rfl)⟩) (mp_S hK hE hW hA) rfl rfl hl.1 rfl (lv_room (Nat.le_of_ble_eq_true rfl)) dL_law_12 ⟨(Nat.le_of_ble_eq_true rfl), (Nat.le_of_ble_eq_true rfl)⟩) hW hA (fun M3 H locs hp hW => ?_)
  obtain ⟨ad, had, hA3, hf3, hk3⟩ := hp
  subst had
  refine lv_astore_n (lv' := [(2, .ref (ad 0)), (1, .ref q0), (0, .ref b)]) hx hb dL_law_15 rfl hl (by decide) rfl (fun ls hl => ?_)
  refine lv_iconst (v := nI 1) hx hb dL_law_16 (by decide) ?_
  refine mr_newJ hx hb (hts (.arrayClass .long) (by decide +kernel)) hK hW hA 3 (by rfl) (Nat.le_of_ble_eq_true rfl) (Nat.le_of_ble_eq_true rfl) dL_law_17 (fun o H ho hW => ?_)
  obtain ⟨N, Γ, g1, g2⟩ := g_start (f := fun _ => 0) h1 h2 h3 h4 h5 hd f1 e2 rfl hA3 hf3 hk3 ho
  refine lv_astore_n (lv' := [(3, .ref o), (2, .ref (ad 0)), (1, .ref q0), (0, .ref b)]) hx hb dL_law_19 rfl hl (by decide) rfl (fun ls hl => ?_)
  refine lv_iconst (v := nI 0) hx hb dL_law_20 (by decide) ?_
  refine lv_istore (lv' := [(4, .int (nI 0)), (3, .ref o), (2, .ref (ad 0)), (1, .ref q0), (0, .ref b)]) hx hb dL_law_21 hl (by decide) rfl (fun ls hl => ?_)
  exact g_loop B hr hlk (L + 1) 0 (Nat.zero_le L) (by omega) H locs ls _ _ (Nat.le_of_ble_eq_true rfl) (Nat.le_of_ble_eq_true rfl) ⟨_, N, Γ, σ0, σ0, _, g2, g1, hW⟩ (lv_sub hl [4, 3, 2, 1, 0] rfl)
