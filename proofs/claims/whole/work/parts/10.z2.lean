/-! THE LISTS of the library: how they grow (mine; the rows are laid by wip/whole/gen) -/
theorem m_max {x y : Nat} (hx : x < 2147483648) (hy : y < 2147483648) : (if nI x < nI y then nI y else nI x) = nI (if x < y then y else x) := by
  by_cases h : x < y
  · rw [if_pos h, if_pos ((nI_ltI hx hy).mpr h)]
  · rw [if_neg h, if_neg (fun z => h ((nI_ltI hx hy).mp z))]
theorem m_min {x y : Nat} (hx : x < 2147483648) (hy : y < 2147483648) (h : x ≤ y) : (if nI y < nI x then nI y else nI x) = nI x := by
  rw [if_neg (fun z => by have := (nI_ltI hy hx).mp z; omega)]
/-- an object that may lie in a list -/
def Obj (M : Mem) (y : Nat) : Prop := ∃ (ci : Nat) (fs : List Value) (r : vw_C), M y = some (.inr (ci, fs)) ∧ vwCl[ci]? = some r ∧ r.1 ∈ sCa
theorem Obj.up {M : Mem} {q y : Nat} {e : va_E} (h : Obj M y) (hq : M q = none) : Obj (va_up M q (some e)) y := by
  obtain ⟨ci, fs, r, h1, h2, h3⟩ := h
  exact ⟨ci, fs, r, (if_neg (fun z => by rw [z, hq] at h1; cases h1)).trans h1, h2, h3⟩
theorem Obj.put {M : Mem} {a y ci : Nat} {fs fs' : List Value} (h : Obj M y) (ha : M a = some (.inr (ci, fs))) : Obj (va_up M a (some (.inr (ci, fs')))) y := by
  obtain ⟨cj, gs, r, h1, h2, h3⟩ := h
  by_cases z : y = a
  · subst z
    rw [ha] at h1
    cases h1
    exact ⟨_, fs', r, if_pos rfl, h2, h3⟩
  · exact ⟨cj, gs, r, (if_neg z).trans h1, h2, h3⟩
theorem Obj.row {M : Mem} {a y : Nat} {x : ClassId × vp_A} {e : va_E} (h : Obj M y) (ha : M a = some (.inl x)) : Obj (va_up M a (some e)) y := by
  obtain ⟨cj, gs, r, h1, h2, h3⟩ := h
  exact ⟨cj, gs, r, (if_neg (fun z => by rw [z, ha] at h1; cases h1)).trans h1, h2, h3⟩
theorem Obj.any {s : State} {G : mG} {M : Mem} {H H1 : Heap} {A : Nat → Prop} {y : Nat} (h : Obj M y) (hK : va_K G.1 vwCl (kT G) s) (hE : sE G A s H1) (hW : mP G.1 vwCl M H) : va_Any "java/lang/Object" s H y := by
  obtain ⟨ci, fs, r, h1, h2, h3⟩ := h
  exact mW_any hK hW h1 h2 (hE.2.2.2.1 _ h3)
theorem mr_recvQ {s : State} {D : va_G} {cl : List vw_C} {tys : List (ClassId × FieldType)} {M : Mem} {H : Heap} {a t0 n : Nat} {cA : ClassId} {f : Nat → Option Nat} {E : String} (hK : va_K D cl tys s) (h : mP D cl M H) (ha : M a = some (eQ cA n f)) (ht : tys[t0]? = some (cA, .object E)) : ∃ cell : Cell, H[a]? = some cell ∧ cell.vm.isStatics = false ∧ s.vm.findClass ("[" ++ (FieldType.object E).toString) = some cell.cls := by
  obtain ⟨ws, hP, hD, hM⟩ := h
  obtain ⟨k, hk⟩ := (hM a _).mp ha
  obtain ⟨-, -, -, -, -, g⟩ := (hK.2 t0 _ ht).2
  exact ⟨_, hP k _ hk, rfl, g⟩
theorem mrow_name : "[" ++ (FieldType.object "java/lang/Object").toString = "[Ljava/lang/Object;" := by decide +kernel

set_option maxHeartbeats 200000 in
set_option maxRecDepth 100000 in
theorem jNewLen (l : Launch) (G : mG) (M : Mem) (sz : Nat) (o g : Nat) (ho : o ≤ 1000) (hg : g ≤ 1000) : cMi l yJ8_newLength_cabcc wsJ8_newLength_cabcc 1 0 0 G M sz [.int (nI o), .int (nI 1), .int (nI g)] (fun r M' => r = nI (o + (if 1 < g then g else 1)) ∧ M' = M) := by
  refine m_start cJ8_newLength_cabcc 4 (some .int) (by decide) rfl (Nat.le_of_ble_eq_true rfl) ?_
  intro p e s m below meth c ls hx hb hr hml hown hlk hnm hts hK hsz hE hW hl
  have hA := mA_A (M := M) hsz
  have hl : lv_has ls 4 [(0, .int (nI o)), (1, .int (nI 1)), (2, .int (nI g))] := hl
  obtain ⟨w, hw⟩ : ∃ w : Nat, w = (if 1 < g then g else 1) := ⟨_, rfl⟩
  have hw1 : 1 ≤ w ∧ w ≤ 1000 := by rw [hw]; split <;> omega
  refine lv_iload_n hx hb dJ8_newLength_cabcc_0 rfl (lv_at hl 0 rfl) ?_
  refine lv_iload_n hx hb dJ8_newLength_cabcc_1 rfl (lv_at hl 1 rfl) ?_
  refine lv_iload_n hx hb dJ8_newLength_cabcc_2 rfl (lv_at hl 2 rfl) ?_
  refine va_mmax hx hb (hml.trans hl.1.symm) hown (hts (.methodLink RJ8 194 Lib.Math.max.name) (by decide +kernel)) (hts (.static Lib.Math.max.name) (by decide +kernel)) (hts (.initialized "java/lang/Math") (by decide +kernel)) (hts (.code Lib.Math.max.name Lib.Math.max.code 2 (some .int)) (by decide +kernel)) (Nat.le_of_ble_eq_true rfl) (Nat.le_of_ble_eq_true rfl) (Nat.le_of_ble_eq_true rfl) (Nat.le_of_ble_eq_true rfl) dJ8_newLength_cabcc_3 (lv_tope ((m_max (by omega) (by omega)).trans (congrArg nI hw.symm)) ?_)
  refine lv_iadd hx hb dJ8_newLength_cabcc_6 (lv_tope (nI_add o w) ?_)
  refine lv_istore_n (lv' := [(3, .int (nI (o + w))), (0, .int (nI o)), (1, .int (nI 1)), (2, .int (nI g))]) hx hb dJ8_newLength_cabcc_7 rfl hl (by decide) rfl (fun ls hl => ?_)
  refine lv_iconst (v := nI 0) hx hb dJ8_newLength_cabcc_8 (by decide) ?_
  refine lv_iload_n hx hb dJ8_newLength_cabcc_9 rfl (lv_at hl 0 rfl) ?_
  refine nv_icmp_ge (u := 0) (v := o + w) (tgt := 21) hx hb dJ8_newLength_cabcc_10 (by decide) (by omega) (by omega) (fun z => (by omega : False).elim) (fun _ => ?_)
  refine lv_iload_n hx hb dJ8_newLength_cabcc_13 rfl (lv_at hl 0 rfl) ?_
  refine lv_ldc (v := nI 2147483639) hx hb hown (hts (.constant RJ8 200 (2147483639)) (by decide +kernel)) dJ8_newLength_cabcc_14 ?_
  refine nv_icmp_gt (u := o + w) (v := 2147483639) (tgt := 21) hx hb dJ8_newLength_cabcc_16 (by decide) (by omega) (by omega) (fun z => (by omega : False).elim) (fun _ => ?_)
  refine lv_iload_n hx hb dJ8_newLength_cabcc_19 rfl (lv_at hl 0 rfl) ?_
  exact mr_iret hx hb hr hlk (Nat.le_of_ble_eq_true rfl) (Nat.le_of_ble_eq_true rfl) hW ⟨by rw [hw], rfl⟩ dJ8_newLength_cabcc_20

theorem va_up_up {M : Mem} {q : Nat} {e1 e2 : Option va_E} : va_up (va_up M q e1) q e2 = va_up M q e2 := by
  funext x
  by_cases h : x = q
  · subst h; exact (if_pos rfl).trans (if_pos rfl).symm
  · exact (if_neg h).trans ((if_neg h).trans (if_neg h).symm)

set_option maxHeartbeats 200000 in
set_option maxRecDepth 100000 in
theorem jCopy3 (l : Launch) (G : mG) (M : Mem) (sz : Nat) (a N n0 : Nat) (f : Nat → Option Nat) (ha0 : M a = some (eQ (G.2.1 2) n0 f)) (hN : N ≤ 64) (hn0 : n0 ≤ N) (ho : ∀ i, i < n0 → ∀ y, f i = some y → Obj M y) : cMq l yJ7_copyOf_6403c wsJ7_copyOf_6403c 1 1 64 G M sz [.ref a, .int (nI N), .ref (G.2.2 1)] (fun r M' => ∃ (q : Nat) (g : Nat → Option Nat), r = some q ∧ M q = none ∧ M' = va_up M q (some (eQ (G.2.1 2) N g)) ∧ ∀ j, j < n0 → g j = f j) := by
  refine m_start cJ7_copyOf_6403c 4 (some (.array (.object "java/lang/Object"))) (by decide) rfl (Nat.le_of_ble_eq_true rfl) ?_
  intro p e s m below meth c ls hx hb hr hml hown hlk hnm hts hK hsz hE hW hl
  have hA := mA_A (M := M) hsz
  have hl : lv_has ls 4 [(0, .ref a), (1, .int (nI N)), (2, .ref (G.2.2 1))] := hl
  refine lv_aload_n hx hb dJ7_copyOf_6403c_0 rfl (lv_at hl 2 rfl) ?_
  refine va_ldcM hx hb hown (hts (.classLink RJ7 110 "[Ljava/lang/Object;") (by decide +kernel)) hE.2.2.2.2.2.2.1 dJ7_copyOf_6403c_1 ?_
  refine lv_acmp_ne (rx := some (G.2.2 1)) (ry := some (G.2.2 1)) (tgt := 13) hx hb dJ7_copyOf_6403c_3 (by decide) (fun z => absurd rfl z) (fun _ => ?_)
  refine lv_iload_n hx hb dJ7_copyOf_6403c_6 rfl (lv_at hl 1 rfl) ?_
  refine mr_newq (N := N) hx hb hown (hts (.classLink RJ7 2 "java/lang/Object") (by decide +kernel)) hE.2.2.2.2.1 hK hW hA 2 (by rfl) rfl (by omega) (by omega) (Nat.le_of_ble_eq_true rfl) (by show 0 + N ≤ 64; omega) dJ7_copyOf_6403c_7 (fun q H hq hW => ?_)
  obtain ⟨M_1, eM_1⟩ : ∃ z : Mem, z = va_up M q (some (eQ (G.2.1 2) N (fun _ => none))) := ⟨_, rfl⟩
  rw [← eM_1] at hW
  have hq_1 : M_1 q = some (eQ (G.2.1 2) N (fun _ => none)) := by rw [eM_1]; exact if_pos rfl
  have ha_1 : M_1 a = some (eQ (G.2.1 2) n0 f) := by rw [eM_1]; exact (if_neg (fun z => by have h1 := ha0; rw [z, hq] at h1; cases h1)).trans ha0
  refine lv_goto (tgt := 24) hx hb dJ7_copyOf_6403c_10 (by decide) ?_
  refine lv_astore_n (lv' := [(3, .ref q), (0, .ref a), (1, .int (nI N)), (2, .ref (G.2.2 1))]) hx hb dJ7_copyOf_6403c_24 rfl hl (by decide) rfl (fun ls hl => ?_)
  refine lv_aload_n hx hb dJ7_copyOf_6403c_25 rfl (lv_at hl 1 rfl) ?_
  refine lv_iconst (v := 0) hx hb dJ7_copyOf_6403c_26 (by decide) ?_
  refine lv_aload_n hx hb dJ7_copyOf_6403c_27 rfl (lv_at hl 0 rfl) ?_
  refine lv_iconst (v := 0) hx hb dJ7_copyOf_6403c_28 (by decide) ?_
  refine lv_aload_n hx hb dJ7_copyOf_6403c_29 rfl (lv_at hl 1 rfl) ?_
  refine mr_alen hx hb hK hW 2 ha_1 (by rfl) rfl dJ7_copyOf_6403c_30 ?_
  refine lv_iload_n hx hb dJ7_copyOf_6403c_31 rfl (lv_at hl 2 rfl) ?_
  refine va_mmin hx hb (hml.trans hl.1.symm) hown (hts (.methodLink RJ7 304 Lib.Math.min.name) (by decide +kernel)) (hts (.static Lib.Math.min.name) (by decide +kernel)) (hts (.initialized "java/lang/Math") (by decide +kernel)) (hts (.code Lib.Math.min.name Lib.Math.min.code 2 (some .int)) (by decide +kernel)) (Nat.le_of_ble_eq_true rfl) (Nat.le_of_ble_eq_true rfl) (Nat.le_of_ble_eq_true rfl) (by show 0 + N ≤ 64; omega) dJ7_copyOf_6403c_32 (lv_tope (m_min (by omega) (by omega) hn0) ?_)
  refine mr_copy (n := n0) hx hb (hml.trans hl.1.symm) hown (hts (.methodLink RJ7 150 arraycopyName) (by decide +kernel)) (hts (.native arraycopyName) (by decide +kernel)) (hts (.static arraycopyName) (by decide +kernel)) (hts (.initialized "java/lang/System") (by decide +kernel)) hK hW 2 2 ha_1 hq_1 (by rfl) (by rfl) (by omega) (Nat.le_refl _) hn0 (fun i hi y hy => Obj.any (by rw [eM_1]; exact (ho i hi y hy).up hq) hK hE hW.1) (Nat.le_of_ble_eq_true rfl) (Nat.le_of_ble_eq_true rfl) dJ7_copyOf_6403c_35 (fun H locs hW => ?_)
  refine lv_aload_n hx hb dJ7_copyOf_6403c_38 rfl (lv_at hl 0 rfl) ?_
  exact mr_aret (v := some q) hx hb hr (Or.inr ⟨_, rfl⟩) hlk (Nat.le_of_ble_eq_true rfl) (by show 0 + N ≤ 64; omega) hW ⟨q, _, rfl, hq, by rw [eM_1]; exact va_up_up .., fun j hj => by show (if 0 ≤ j ∧ j < 0 + n0 then f (0 + (j - 0)) else none) = f j; rw [if_pos (by omega), Nat.zero_add, Nat.sub_zero]⟩ dJ7_copyOf_6403c_39

set_option maxHeartbeats 200000 in
set_option maxRecDepth 100000 in
theorem jCopy2 (l : Launch) (G : mG) (M : Mem) (sz : Nat) (a N n0 : Nat) (f : Nat → Option Nat) (ha0 : M a = some (eQ (G.2.1 2) n0 f)) (hN : N ≤ 64) (hn0 : n0 ≤ N) (ho : ∀ i, i < n0 → ∀ y, f i = some y → Obj M y) : cMq l yJ7_copyOf_1904c wsJ7_copyOf_1904c 2 1 64 G M sz [.ref a, .int (nI N)] (fun r M' => ∃ (q : Nat) (g : Nat → Option Nat), r = some q ∧ M q = none ∧ M' = va_up M q (some (eQ (G.2.1 2) N g)) ∧ ∀ j, j < n0 → g j = f j) := by
  refine m_start cJ7_copyOf_1904c 2 (some (.array (.object "java/lang/Object"))) (by decide) rfl (Nat.le_of_ble_eq_true rfl) ?_
  intro p e s m below meth c ls hx hb hr hml hown hlk hnm hts hK hsz hE hW hl
  have hA := mA_A (M := M) hsz
  have hl : lv_has ls 2 [(0, .ref a), (1, .int (nI N))] := hl
  refine lv_aload_n hx hb dJ7_copyOf_1904c_0 rfl (lv_at hl 0 rfl) ?_
  refine lv_iload_n hx hb dJ7_copyOf_1904c_1 rfl (lv_at hl 1 rfl) ?_
  refine lv_aload_n hx hb dJ7_copyOf_1904c_2 rfl (lv_at hl 0 rfl) ?_
  refine va_getC (C := "[Ljava/lang/Object;") hx hb (hml.trans hl.1.symm) hown (hts (.methodLink RJ7 86 ⟨"java/lang/Object", "getClass", "()Ljava/lang/Class;"⟩) (by decide +kernel)) hE.2.2.2.2.2.1.use (hts (.selects "[Ljava/lang/Object;" ⟨"java/lang/Object", "getClass", "()Ljava/lang/Class;"⟩ ⟨"java/lang/Object", "getClass", "()Ljava/lang/Class;"⟩) (by decide +kernel)) (hts (.instanceMethod ⟨"java/lang/Object", "getClass", "()Ljava/lang/Class;"⟩) (by decide +kernel)) (hts (.native ⟨"java/lang/Object", "getClass", "()Ljava/lang/Class;"⟩) (by decide +kernel)) hE.2.2.2.2.2.2.1 (by have z := mr_recvQ hK hW.1 ha0 (t0 := 2) (by rfl); rw [mrow_name] at z; exact z) (Nat.le_of_ble_eq_true rfl) (Nat.le_of_ble_eq_true rfl) dJ7_copyOf_1904c_3 ?_
  refine mk_q (va_runS (As := [.ref a, .int (nI N), .ref (G.2.2 1)]) (nL := 2) ⟨hx, hb, hml, hown, hts⟩ (jCopy3 l G _ _ a N n0 f ha0 hN hn0 ho) (va_cwS 3 hts gJ7_copyOf_1904c_J7_copyOf_6403c rfl rfl rfl (by decide +kernel) ⟨(Nat.le_of_ble_eq_true rfl), (Nat.le_of_ble_eq_true rfl)⟩) (mp_S hK hE hW hA) rfl rfl hl.1 rfl (lv_room (Nat.le_of_ble_eq_true rfl)) dJ7_copyOf_1904c_6 ⟨(Nat.le_of_ble_eq_true rfl), (Nat.le_of_ble_eq_true rfl)⟩) hW hA (fun r_3 M_2 H locs hp_1 hW => ?_)
  obtain ⟨q, g, e1, hq, e2, hg⟩ := hp_1
  subst e1
  exact mr_aret (v := some q) hx hb hr (Or.inr ⟨_, rfl⟩) hlk (Nat.le_of_ble_eq_true rfl) (Nat.le_of_ble_eq_true rfl) hW ⟨q, g, rfl, hq, e2, hg⟩ dJ7_copyOf_1904c_9

theorem Obj.fr {M M' : Mem} {q b y : Nat} {fs fs' : List Value} (h : Obj M y) (hq : M q = none) (hb : M b = some (.inr (0, fs))) (hb' : M' b = some (.inr (0, fs'))) (hf : ∀ x, x ≠ q → x ≠ b → M' x = M x) : Obj M' y := by
  obtain ⟨ci, gs, r, h1, h2, h3⟩ := h
  by_cases z : y = b
  · subst z
    rw [hb] at h1
    cases h1
    exact ⟨0, fs', r, hb', h2, h3⟩
  · exact ⟨ci, gs, r, (hf y (fun w => by rw [w, hq] at h1; cases h1) z).trans h1, h2, h3⟩
/-- a list b of n elements has got v more; its row is a' now -/
def jPA (G : mG) (M : Mem) (b a n v : Nat) (f : Nat → Option Nat) (mc : Int32) (M' : Mem) : Prop := ∃ (a' cap' : Nat) (g : Nat → Option Nat), M' b = some (.inr (0, [.int mc, .ref a', .int (nI (n + 1))])) ∧ M' a' = some (eQ (G.2.1 2) cap' g) ∧ n + 1 ≤ cap' ∧ cap' ≤ 64 ∧ (∀ j, j < n → g j = f j) ∧ g n = some v ∧ (a' = a ∨ M a' = none) ∧ ∀ x, x ≠ b → x ≠ a' → M' x = M x

set_option maxHeartbeats 200000 in
set_option maxRecDepth 100000 in
theorem jGrowE (l : Launch) (G : mG) (M : Mem) (sz : Nat) (b n : Nat) (mc : Int32) (f : Nat → Option Nat) (hl0 : M b = some (.inr (0, [.int mc, .ref (G.2.2 0), .int (nI n)]))) (hn : n = 0) : cMq l yJx4a65c_grow_92f84 wsJx4a65c_grow_92f84 3 1 64 G M sz [.ref b, .int (nI (n + 1))] (fun r M' => ∃ (q N : Nat) (g : Nat → Option Nat), r = some q ∧ M q = none ∧ M' q = some (eQ (G.2.1 2) N g) ∧ M' b = some (.inr (0, [.int mc, .ref q, .int (nI n)])) ∧ n + 1 ≤ N ∧ N ≤ 64 ∧ (∀ j, j < n → g j = f j) ∧ ∀ x, x ≠ q → x ≠ b → M' x = M x) := by
  refine m_start cJx4a65c_grow_92f84 4 (some (.array (.object "java/lang/Object"))) (by decide) rfl (Nat.le_of_ble_eq_true rfl) ?_
  intro p e s m below meth c ls hx hb hr hml hown hlk hnm hts hK hsz hE hW hl
  have hA := mA_A (M := M) hsz
  have hl : lv_has ls 4 [(0, .ref b), (1, .int (nI (n + 1)))] := hl
  have hinJx4a65c : ∀ w ∈ u_ws RJx4a65c TJx4a65c 3, w ∈ wsJx4a65c_grow_92f84 := (fun _ h => List.mem_cons_of_mem _ (List.mem_append_right _ h))
  refine lv_aload_n hx hb dJx4a65c_grow_92f84_0 rfl (lv_at hl 0 rfl) ?_
  refine mr_get hx hb hts hinJx4a65c hown hK hW hl0 (by rfl) 1 (by decide) (hts (.fieldLink RJx4a65c 9 "java/util/ArrayList" "elementData" "[Ljava/lang/Object;") (by decide +kernel)) (fun _ h => h) rfl dJx4a65c_grow_92f84_1 ?_
  refine va_tlen (v := nI 0) hx hb hE.1.2.2.2 hW.2.1 rfl dJx4a65c_grow_92f84_4 ?_
  refine lv_istore_n (lv' := [(2, .int (nI 0)), (0, .ref b), (1, .int (nI (n + 1)))]) hx hb dJx4a65c_grow_92f84_5 rfl hl (by decide) rfl (fun ls hl => ?_)
  refine lv_iload_n hx hb dJx4a65c_grow_92f84_6 rfl (lv_at hl 0 rfl) ?_
  refine lv_if_gt (tgt := 20) hx hb dJx4a65c_grow_92f84_7 (by decide) (fun z => absurd z (by decide)) (fun _ => ?_)
  refine lv_aload_n hx hb dJx4a65c_grow_92f84_10 rfl (lv_at hl 1 rfl) ?_
  refine mr_get hx hb hts hinJx4a65c hown hK hW hl0 (by rfl) 1 (by decide) (hts (.fieldLink RJx4a65c 9 "java/util/ArrayList" "elementData" "[Ljava/lang/Object;") (by decide +kernel)) (fun _ h => h) rfl dJx4a65c_grow_92f84_11 ?_
  refine va_gets hx hb hE.1.2.2.1 hW.2.1 hown (hts (.fieldLink RJx4a65c 39 "java/util/ArrayList" "DEFAULTCAPACITY_EMPTY_ELEMENTDATA" "[Ljava/lang/Object;") (by decide +kernel)) (fun _ h => h) dJx4a65c_grow_92f84_14 ?_
  refine lv_acmp_eq (rx := some (G.2.2 0)) (ry := some (G.2.2 0)) (tgt := 45) hx hb dJx4a65c_grow_92f84_17 (by decide) (fun _ => ?_) (fun z => absurd rfl z)
  refine lv_aload_n hx hb dJx4a65c_grow_92f84_45 rfl (lv_at hl 1 rfl) ?_
  refine lv_bipush (v := nI 10) hx hb dJx4a65c_grow_92f84_46 (by decide) ?_
  refine lv_iload_n hx hb dJx4a65c_grow_92f84_48 rfl (lv_at hl 2 rfl) ?_
  refine va_mmax hx hb (hml.trans hl.1.symm) hown (hts (.methodLink RJx4a65c 79 Lib.Math.max.name) (by decide +kernel)) (hts (.static Lib.Math.max.name) (by decide +kernel)) (hts (.initialized "java/lang/Math") (by decide +kernel)) (hts (.code Lib.Math.max.name Lib.Math.max.code 2 (some .int)) (by decide +kernel)) (Nat.le_of_ble_eq_true rfl) (Nat.le_of_ble_eq_true rfl) (Nat.le_of_ble_eq_true rfl) (Nat.le_of_ble_eq_true rfl) dJx4a65c_grow_92f84_49 (lv_tope ((m_max (by omega) (by omega)).trans (congrArg nI (show (if 10 < n + 1 then n + 1 else 10) = 10 from if_neg (by omega)))) ?_)
  refine mr_newq (N := 10) hx hb hown (hts (.classLink RJx4a65c 7 "java/lang/Object") (by decide +kernel)) hE.2.2.2.2.1 hK hW hA 2 (by rfl) rfl (by omega) (by omega) (Nat.le_of_ble_eq_true rfl) (Nat.le_of_ble_eq_true rfl) dJx4a65c_grow_92f84_52 (fun q H hq hW => ?_)
  obtain ⟨M_1, eM_1⟩ : ∃ z : Mem, z = va_up M q (some (eQ (G.2.1 2) 10 (fun _ => none))) := ⟨_, rfl⟩
  rw [← eM_1] at hW
  have hq_1 : M_1 q = some (eQ (G.2.1 2) 10 (fun _ => none)) := by rw [eM_1]; exact if_pos rfl
  have hb_1 : M_1 b = some (.inr (0, [.int (mc), .ref (G.2.2 0), .int (nI n)])) := by rw [eM_1]; exact (if_neg (fun z => by have h1 := hl0; rw [z, hq] at h1; cases h1)).trans hl0
  refine lv_dup_x1 hx hb dJx4a65c_grow_92f84_55 rfl rfl ?_
  refine mr_put (ty := .array (.object "java/lang/Object")) (fs' := [.int (mc), .ref q, .int (nI n)]) hx hb hts hinJx4a65c tyJx4a65c tyJx4a65c_ok nmJx4a65c hown hK hW hb_1 (by rfl) 1 (by decide) (hts (.fieldLink RJx4a65c 9 "java/util/ArrayList" "elementData" "[Ljava/lang/Object;") (by decide +kernel)) (fun _ h => h) rfl (by decide +kernel) rfl rfl (Nat.le_of_ble_eq_true rfl) rfl dJx4a65c_grow_92f84_56 (fun H locs hW => ?_)
  obtain ⟨M_2, eM_2⟩ : ∃ z : Mem, z = va_up M_1 b (some (.inr (0, [.int (mc), .ref q, .int (nI n)]))) := ⟨_, rfl⟩
  rw [← eM_2] at hW
  have hb_2 : M_2 b = some (.inr (0, [.int (mc), .ref q, .int (nI n)])) := by rw [eM_2]; exact if_pos rfl
  have hq_2 : M_2 q = some (eQ (G.2.1 2) 10 (fun _ => none)) := by rw [eM_2]; exact (if_neg (fun z => by have h1 := hq_1; rw [z, hb_1] at h1; cases h1)).trans hq_1
  exact mr_aret (v := some q) hx hb hr (Or.inr ⟨_, rfl⟩) hlk (Nat.le_of_ble_eq_true rfl) (Nat.le_of_ble_eq_true rfl) hW ⟨q, 10, _, rfl, hq, hq_2, hb_2, by omega, by omega, fun j hj => (by omega : False).elim, fun x h1 h2 => by rw [eM_2, eM_1]; exact (if_neg h2).trans (if_neg h1)⟩ dJx4a65c_grow_92f84_59

set_option maxHeartbeats 200000 in
set_option maxRecDepth 100000 in
theorem jGrowQ (l : Launch) (G : mG) (M : Mem) (sz : Nat) (b a n cap : Nat) (mc : Int32) (f : Nat → Option Nat) (hl0 : M b = some (.inr (0, [.int mc, .ref a, .int (nI n)]))) (ha0 : M a = some (eQ (G.2.1 2) cap f)) (hn : n = cap) (hc0 : 0 < cap) (hc4 : cap ≤ 40) (ho : ∀ i, i < cap → ∀ y, f i = some y → Obj M y) : cMq l yJx4a65c_grow_92f84 wsJx4a65c_grow_92f84 3 1 64 G M sz [.ref b, .int (nI (n + 1))] (fun r M' => ∃ (q N : Nat) (g : Nat → Option Nat), r = some q ∧ M q = none ∧ M' q = some (eQ (G.2.1 2) N g) ∧ M' b = some (.inr (0, [.int mc, .ref q, .int (nI n)])) ∧ n + 1 ≤ N ∧ N ≤ 64 ∧ (∀ j, j < n → g j = f j) ∧ ∀ x, x ≠ q → x ≠ b → M' x = M x) := by
  refine m_start cJx4a65c_grow_92f84 4 (some (.array (.object "java/lang/Object"))) (by decide) rfl (Nat.le_of_ble_eq_true rfl) ?_
  intro p e s m below meth c ls hx hb hr hml hown hlk hnm hts hK hsz hE hW hl
  have hA := mA_A (M := M) hsz
  have hl : lv_has ls 4 [(0, .ref b), (1, .int (nI (n + 1)))] := hl
  have hinJx4a65c : ∀ w ∈ u_ws RJx4a65c TJx4a65c 3, w ∈ wsJx4a65c_grow_92f84 := (fun _ h => List.mem_cons_of_mem _ (List.mem_append_right _ h))
  obtain ⟨N, hN⟩ : ∃ N : Nat, N = cap + (if 1 < cap / 2 then cap / 2 else 1) := ⟨_, rfl⟩
  have hN1 : cap + 1 ≤ N ∧ N ≤ 64 := by rw [hN]; split <;> omega
  refine lv_aload_n hx hb dJx4a65c_grow_92f84_0 rfl (lv_at hl 0 rfl) ?_
  refine mr_get hx hb hts hinJx4a65c hown hK hW hl0 (by rfl) 1 (by decide) (hts (.fieldLink RJx4a65c 9 "java/util/ArrayList" "elementData" "[Ljava/lang/Object;") (by decide +kernel)) (fun _ h => h) rfl dJx4a65c_grow_92f84_1 ?_
  refine mr_alen hx hb hK hW 2 ha0 (by rfl) rfl dJx4a65c_grow_92f84_4 ?_
  refine lv_istore_n (lv' := [(2, .int (nI cap)), (0, .ref b), (1, .int (nI (n + 1)))]) hx hb dJx4a65c_grow_92f84_5 rfl hl (by decide) rfl (fun ls hl => ?_)
  refine lv_iload_n hx hb dJx4a65c_grow_92f84_6 rfl (lv_at hl 0 rfl) ?_
  refine nv_if_gt (tgt := 20) hx hb dJx4a65c_grow_92f84_7 (by decide) (by omega) (fun _ => ?_) (fun z => (by omega : False).elim)
  refine lv_iload_n hx hb dJx4a65c_grow_92f84_20 rfl (lv_at hl 0 rfl) ?_
  refine lv_iload_n hx hb dJx4a65c_grow_92f84_21 rfl (lv_at hl 2 rfl) ?_
  refine lv_iload_n hx hb dJx4a65c_grow_92f84_22 rfl (lv_at hl 0 rfl) ?_
  refine lv_isub hx hb dJx4a65c_grow_92f84_23 (lv_tope (pk_sub (a := n + 1) (b := cap) (by omega)) (lv_tope (congrArg nI (show n + 1 - cap = 1 by omega)) ?_))
  refine lv_iload_n hx hb dJx4a65c_grow_92f84_24 rfl (lv_at hl 0 rfl) ?_
  refine lv_iconst (v := nI 1) hx hb dJx4a65c_grow_92f84_25 (by decide) ?_
  refine lv_ishr hx hb dJx4a65c_grow_92f84_26 (lv_tope (y := nI (cap / 2)) (pk_shrN (by omega) _ 1 (by decide)) ?_)
  refine mk_i (va_runS (As := [.int (nI cap), .int (nI 1), .int (nI (cap / 2))]) (nL := 4) ⟨hx, hb, hml, hown, hts⟩ (jNewLen l G _ _ cap (cap / 2) (by omega) (by omega)) (va_cwS 3 hts gJx4a65c_grow_92f84_J8_newLength_cabcc rfl rfl rfl (by decide +kernel) ⟨(Nat.le_of_ble_eq_true rfl), (Nat.le_of_ble_eq_true rfl)⟩) (mp_S hK hE hW hA) rfl rfl hl.1 rfl (lv_room (Nat.le_of_ble_eq_true rfl)) dJx4a65c_grow_92f84_27 ⟨(Nat.le_of_ble_eq_true rfl), (Nat.le_of_ble_eq_true rfl)⟩) hW hA (fun r_3 M_2 H locs hp_1 hW => ?_)
  obtain ⟨e91, e92⟩ := hp_1
  rw [← hN] at e91
  subst e91
  rw [e92] at hW
  clear e92
  refine lv_istore_n (lv' := [(3, .int (nI N)), (2, .int (nI cap)), (0, .ref b), (1, .int (nI (n + 1)))]) hx hb dJx4a65c_grow_92f84_30 rfl hl (by decide) rfl (fun ls hl => ?_)
  refine lv_aload_n hx hb dJx4a65c_grow_92f84_31 rfl (lv_at hl 2 rfl) ?_
  refine lv_aload_n hx hb dJx4a65c_grow_92f84_32 rfl (lv_at hl 2 rfl) ?_
  refine mr_get hx hb hts hinJx4a65c hown hK hW hl0 (by rfl) 1 (by decide) (hts (.fieldLink RJx4a65c 9 "java/util/ArrayList" "elementData" "[Ljava/lang/Object;") (by decide +kernel)) (fun _ h => h) rfl dJx4a65c_grow_92f84_33 ?_
  refine lv_iload_n hx hb dJx4a65c_grow_92f84_36 rfl (lv_at hl 0 rfl) ?_
  refine mk_q (va_runS (As := [.ref a, .int (nI N)]) (nL := 4) ⟨hx, hb, hml, hown, hts⟩ (jCopy2 l G _ _ a N cap f ha0 hN1.2 (by omega) ho) (va_cwS 2 hts gJx4a65c_grow_92f84_J7_copyOf_1904c rfl rfl rfl (by decide +kernel) ⟨(Nat.le_of_ble_eq_true rfl), (Nat.le_of_ble_eq_true rfl)⟩) (mp_S hK hE hW hA) rfl rfl hl.1 rfl (lv_room (Nat.le_of_ble_eq_true rfl)) dJx4a65c_grow_92f84_37 ⟨(Nat.le_of_ble_eq_true rfl), (Nat.le_of_ble_eq_true rfl)⟩) hW hA (fun r_6 M_5 H locs hp_4 hW => ?_)
  obtain ⟨q, g, e1, hq, e2, hg⟩ := hp_4
  subst e1
  have hq_7 : M_5 q = some (eQ (G.2.1 2) N g) := by rw [e2]; exact if_pos rfl
  have hb_8 : M_5 b = some (.inr (0, [.int (mc), .ref a, .int (nI n)])) := by rw [e2]; exact (if_neg (fun z => by rw [z, hq] at hl0; cases hl0)).trans hl0
  refine lv_dup_x1 hx hb dJx4a65c_grow_92f84_40 rfl rfl ?_
  refine mr_put (ty := .array (.object "java/lang/Object")) (fs' := [.int (mc), .ref q, .int (nI n)]) hx hb hts hinJx4a65c tyJx4a65c tyJx4a65c_ok nmJx4a65c hown hK hW hb_8 (by rfl) 1 (by decide) (hts (.fieldLink RJx4a65c 9 "java/util/ArrayList" "elementData" "[Ljava/lang/Object;") (by decide +kernel)) (fun _ h => h) rfl (by decide +kernel) rfl rfl (Nat.le_of_ble_eq_true rfl) rfl dJx4a65c_grow_92f84_41 (fun H locs hW => ?_)
  obtain ⟨M_9, eM_9⟩ : ∃ z : Mem, z = va_up M_5 b (some (.inr (0, [.int (mc), .ref q, .int (nI n)]))) := ⟨_, rfl⟩
  rw [← eM_9] at hW
  have hb_9 : M_9 b = some (.inr (0, [.int (mc), .ref q, .int (nI n)])) := by rw [eM_9]; exact if_pos rfl
  have hq_9 : M_9 q = some (eQ (G.2.1 2) N g) := by rw [eM_9]; exact (if_neg (fun z => by have h1 := hq_7; rw [z, hb_8] at h1; cases h1)).trans hq_7
  exact mr_aret (v := some q) hx hb hr (Or.inr ⟨_, rfl⟩) hlk (Nat.le_of_ble_eq_true rfl) (Nat.le_of_ble_eq_true rfl) hW ⟨q, N, g, rfl, hq, hq_9, hb_9, by omega, by omega, fun j hj => hg j (by omega), fun x h1 h2 => by rw [eM_9, e2]; exact (if_neg h2).trans (if_neg h1)⟩ dJx4a65c_grow_92f84_44

set_option maxHeartbeats 200000 in
set_option maxRecDepth 100000 in
theorem jGrow0E (l : Launch) (G : mG) (M : Mem) (sz : Nat) (b n : Nat) (mc : Int32) (f : Nat → Option Nat) (hl0 : M b = some (.inr (0, [.int mc, .ref (G.2.2 0), .int (nI n)]))) (hn : n = 0) : cMq l yJx4a65c_grow_d5877 wsJx4a65c_grow_d5877 4 1 64 G M sz [.ref b] (fun r M' => ∃ (q N : Nat) (g : Nat → Option Nat), r = some q ∧ M q = none ∧ M' q = some (eQ (G.2.1 2) N g) ∧ M' b = some (.inr (0, [.int mc, .ref q, .int (nI n)])) ∧ n + 1 ≤ N ∧ N ≤ 64 ∧ (∀ j, j < n → g j = f j) ∧ ∀ x, x ≠ q → x ≠ b → M' x = M x) := by
  refine m_start cJx4a65c_grow_d5877 1 (some (.array (.object "java/lang/Object"))) (by decide) rfl (Nat.le_of_ble_eq_true rfl) ?_
  intro p e s m below meth c ls hx hb hr hml hown hlk hnm hts hK hsz hE hW hl
  have hA := mA_A (M := M) hsz
  have hl : lv_has ls 1 [(0, .ref b)] := hl
  have hinJx4a65c : ∀ w ∈ u_ws RJx4a65c TJx4a65c 3, w ∈ wsJx4a65c_grow_d5877 := (fun _ h => List.mem_cons_of_mem _ (List.mem_append_right _ h))
  refine lv_aload_n hx hb dJx4a65c_grow_d5877_0 rfl (lv_at hl 0 rfl) ?_
  refine lv_aload_n hx hb dJx4a65c_grow_d5877_1 rfl (lv_at hl 0 rfl) ?_
  refine mr_get hx hb hts hinJx4a65c hown hK hW hl0 (by rfl) 2 (by decide) (hts (.fieldLink RJx4a65c 48 "java/util/ArrayList" "size" "I") (by decide +kernel)) (fun _ h => h) rfl dJx4a65c_grow_d5877_2 ?_
  refine lv_iconst (v := nI 1) hx hb dJx4a65c_grow_d5877_5 (by decide) ?_
  refine lv_iadd hx hb dJx4a65c_grow_d5877_6 (lv_tope (nI_add n 1) ?_)
  refine mk_q (va_runV (As := [.int (nI (n + 1))]) (nL := 1) ⟨hx, hb, hml, hown, hts⟩ (jGrowE l G _ _ b n mc f hl0 hn) (cwV 1 hts gJx4a65c_grow_d5877_Jx4a65c_grow_92f84 rfl rfl rfl (by decide +kernel) ⟨(Nat.le_of_ble_eq_true rfl), (Nat.le_of_ble_eq_true rfl)⟩) (mp_V hK hE hW hA (mW_recv hK hW.1 hl0 (by rfl))) rfl rfl hl.1 rfl (lv_room (Nat.le_of_ble_eq_true rfl)) dJx4a65c_grow_d5877_7 ⟨(Nat.le_of_ble_eq_true rfl), (Nat.le_of_ble_eq_true rfl)⟩) hW hA (fun r_3 M_2 H locs hp_1 hW => ?_)
  obtain ⟨q, N, g, e1, h2⟩ := hp_1
  subst e1
  exact mr_aret (v := some q) hx hb hr (Or.inr ⟨_, rfl⟩) hlk (Nat.le_of_ble_eq_true rfl) (Nat.le_of_ble_eq_true rfl) hW ⟨q, N, g, rfl, h2⟩ dJx4a65c_grow_d5877_10

set_option maxHeartbeats 200000 in
set_option maxRecDepth 100000 in
theorem jGrow0Q (l : Launch) (G : mG) (M : Mem) (sz : Nat) (b a n cap : Nat) (mc : Int32) (f : Nat → Option Nat) (hl0 : M b = some (.inr (0, [.int mc, .ref a, .int (nI n)]))) (ha0 : M a = some (eQ (G.2.1 2) cap f)) (hn : n = cap) (hc0 : 0 < cap) (hc4 : cap ≤ 40) (ho : ∀ i, i < cap → ∀ y, f i = some y → Obj M y) : cMq l yJx4a65c_grow_d5877 wsJx4a65c_grow_d5877 4 1 64 G M sz [.ref b] (fun r M' => ∃ (q N : Nat) (g : Nat → Option Nat), r = some q ∧ M q = none ∧ M' q = some (eQ (G.2.1 2) N g) ∧ M' b = some (.inr (0, [.int mc, .ref q, .int (nI n)])) ∧ n + 1 ≤ N ∧ N ≤ 64 ∧ (∀ j, j < n → g j = f j) ∧ ∀ x, x ≠ q → x ≠ b → M' x = M x) := by
  refine m_start cJx4a65c_grow_d5877 1 (some (.array (.object "java/lang/Object"))) (by decide) rfl (Nat.le_of_ble_eq_true rfl) ?_
  intro p e s m below meth c ls hx hb hr hml hown hlk hnm hts hK hsz hE hW hl
  have hA := mA_A (M := M) hsz
  have hl : lv_has ls 1 [(0, .ref b)] := hl
  have hinJx4a65c : ∀ w ∈ u_ws RJx4a65c TJx4a65c 3, w ∈ wsJx4a65c_grow_d5877 := (fun _ h => List.mem_cons_of_mem _ (List.mem_append_right _ h))
  refine lv_aload_n hx hb dJx4a65c_grow_d5877_0 rfl (lv_at hl 0 rfl) ?_
  refine lv_aload_n hx hb dJx4a65c_grow_d5877_1 rfl (lv_at hl 0 rfl) ?_
  refine mr_get hx hb hts hinJx4a65c hown hK hW hl0 (by rfl) 2 (by decide) (hts (.fieldLink RJx4a65c 48 "java/util/ArrayList" "size" "I") (by decide +kernel)) (fun _ h => h) rfl dJx4a65c_grow_d5877_2 ?_
  refine lv_iconst (v := nI 1) hx hb dJx4a65c_grow_d5877_5 (by decide) ?_
  refine lv_iadd hx hb dJx4a65c_grow_d5877_6 (lv_tope (nI_add n 1) ?_)
  refine mk_q (va_runV (As := [.int (nI (n + 1))]) (nL := 1) ⟨hx, hb, hml, hown, hts⟩ (jGrowQ l G _ _ b a n cap mc f hl0 ha0 hn hc0 hc4 ho) (cwV 1 hts gJx4a65c_grow_d5877_Jx4a65c_grow_92f84 rfl rfl rfl (by decide +kernel) ⟨(Nat.le_of_ble_eq_true rfl), (Nat.le_of_ble_eq_true rfl)⟩) (mp_V hK hE hW hA (mW_recv hK hW.1 hl0 (by rfl))) rfl rfl hl.1 rfl (lv_room (Nat.le_of_ble_eq_true rfl)) dJx4a65c_grow_d5877_7 ⟨(Nat.le_of_ble_eq_true rfl), (Nat.le_of_ble_eq_true rfl)⟩) hW hA (fun r_3 M_2 H locs hp_1 hW => ?_)
  obtain ⟨q, N, g, e1, h2⟩ := hp_1
  subst e1
  exact mr_aret (v := some q) hx hb hr (Or.inr ⟨_, rfl⟩) hlk (Nat.le_of_ble_eq_true rfl) (Nat.le_of_ble_eq_true rfl) hW ⟨q, N, g, rfl, h2⟩ dJx4a65c_grow_d5877_10

set_option maxHeartbeats 200000 in
set_option maxRecDepth 100000 in
theorem jAdd3E (l : Launch) (G : mG) (M : Mem) (sz : Nat) (b n v : Nat) (mc : Int32) (f : Nat → Option Nat) (hl0 : M b = some (.inr (0, [.int mc, .ref (G.2.2 0), .int (nI n)]))) (hn : n = 0) (hv : Obj M v) : cMv l yJx4a65c_add_72be8 wsJx4a65c_add_72be8 5 1 64 G M sz [.ref b, .ref v, .ref (G.2.2 0), .int (nI n)] (fun M' => jPA G M b (G.2.2 0) n v f mc M') := by
  refine m_start cJx4a65c_add_72be8 4 none (by decide) rfl (Nat.le_of_ble_eq_true rfl) ?_
  intro p e s m below meth c ls hx hb hr hml hown hlk hnm hts hK hsz hE hW hl
  have hA := mA_A (M := M) hsz
  have hl : lv_has ls 4 [(0, .ref b), (1, .ref v), (2, .ref (G.2.2 0)), (3, .int (nI n))] := hl
  have hinJx4a65c : ∀ w ∈ u_ws RJx4a65c TJx4a65c 3, w ∈ wsJx4a65c_add_72be8 := (fun _ h => List.mem_cons_of_mem _ (List.mem_append_right _ h))
  refine lv_iload_n hx hb dJx4a65c_add_72be8_0 rfl (lv_at hl 3 rfl) ?_
  refine lv_aload_n hx hb dJx4a65c_add_72be8_1 rfl (lv_at hl 2 rfl) ?_
  refine va_tlen (v := nI 0) hx hb hE.1.2.2.2 hW.2.1 rfl dJx4a65c_add_72be8_2 ?_
  refine nv_icmp_ne (u := n) (v := 0) (tgt := 11) hx hb dJx4a65c_add_72be8_3 (by decide) (by omega) (by omega) (fun z => (by omega : False).elim) (fun _ => ?_)
  refine lv_aload_n hx hb dJx4a65c_add_72be8_6 rfl (lv_at hl 0 rfl) ?_
  refine mk_q (va_runV (As := []) (nL := 4) ⟨hx, hb, hml, hown, hts⟩ (jGrow0E l G _ _ b n mc f hl0 hn) (cwV 0 hts gJx4a65c_add_72be8_Jx4a65c_grow_d5877 rfl rfl rfl (by decide +kernel) ⟨(Nat.le_of_ble_eq_true rfl), (Nat.le_of_ble_eq_true rfl)⟩) (mp_V hK hE hW hA (mW_recv hK hW.1 hl0 (by rfl))) rfl rfl hl.1 rfl (lv_room (Nat.le_of_ble_eq_true rfl)) dJx4a65c_add_72be8_7 ⟨(Nat.le_of_ble_eq_true rfl), (Nat.le_of_ble_eq_true rfl)⟩) hW hA (fun r_3 M_2 H locs hp_1 hW => ?_)
  obtain ⟨q, N, g, e1, hq, hQ, hB, hN1, hN2, hg, hf⟩ := hp_1
  subst e1
  have hq_4 : M_2 q = some (eQ (G.2.1 2) N g) := hQ
  have hb_5 : M_2 b = some (.inr (0, [.int (mc), .ref q, .int (nI n)])) := hB
  have hv := hv.fr hq hl0 hB hf
  refine lv_astore_n (lv' := [(2, .ref q), (0, .ref b), (1, .ref v), (3, .int (nI n))]) hx hb dJx4a65c_add_72be8_10 rfl hl (by decide) rfl (fun ls hl => ?_)
  refine lv_aload_n hx hb dJx4a65c_add_72be8_11 rfl (lv_at hl 0 rfl) ?_
  refine lv_iload_n hx hb dJx4a65c_add_72be8_12 rfl (lv_at hl 3 rfl) ?_
  refine lv_aload_n hx hb dJx4a65c_add_72be8_13 rfl (lv_at hl 2 rfl) ?_
  refine mr_aast (j := n) hx hb hK hW 2 hq_4 (by rfl) (Obj.any hv hK hE hW.1) rfl (by omega) (by omega) dJx4a65c_add_72be8_14 (fun H locs hW => ?_)
  obtain ⟨M_6, eM_6⟩ : ∃ z : Mem, z = va_up M_2 q (some (eQ (G.2.1 2) N (va_up g n (some v)))) := ⟨_, rfl⟩
  rw [← eM_6] at hW
  have hq_6 : M_6 q = some (eQ (G.2.1 2) N (va_up g n (some v))) := by rw [eM_6]; exact if_pos rfl
  have hb_6 : M_6 b = some (.inr (0, [.int (mc), .ref q, .int (nI n)])) := by rw [eM_6]; exact (if_neg (fun z => by have h1 := hb_5; rw [z, hq_4] at h1; cases h1)).trans hb_5
  refine lv_aload_n hx hb dJx4a65c_add_72be8_15 rfl (lv_at hl 1 rfl) ?_
  refine lv_iload_n hx hb dJx4a65c_add_72be8_16 rfl (lv_at hl 3 rfl) ?_
  refine lv_iconst (v := nI 1) hx hb dJx4a65c_add_72be8_17 (by decide) ?_
  refine lv_iadd hx hb dJx4a65c_add_72be8_18 (lv_tope (nI_add n 1) ?_)
  refine mr_put (ty := .int) (fs' := [.int (mc), .ref q, .int (nI (n + 1))]) hx hb hts hinJx4a65c tyJx4a65c tyJx4a65c_ok nmJx4a65c hown hK hW hb_6 (by rfl) 2 (by decide) (hts (.fieldLink RJx4a65c 48 "java/util/ArrayList" "size" "I") (by decide +kernel)) (fun _ h => h) rfl (by decide +kernel) rfl rfl (Nat.le_of_ble_eq_true rfl) rfl dJx4a65c_add_72be8_19 (fun H locs hW => ?_)
  obtain ⟨M_7, eM_7⟩ : ∃ z : Mem, z = va_up M_6 b (some (.inr (0, [.int (mc), .ref q, .int (nI (n + 1))]))) := ⟨_, rfl⟩
  rw [← eM_7] at hW
  have hb_7 : M_7 b = some (.inr (0, [.int (mc), .ref q, .int (nI (n + 1))])) := by rw [eM_7]; exact if_pos rfl
  have hq_7 : M_7 q = some (eQ (G.2.1 2) N (va_up g n (some v))) := by rw [eM_7]; exact (if_neg (fun z => by have h1 := hq_6; rw [z, hb_6] at h1; cases h1)).trans hq_6
  exact mr_vret hx hb hr hlk (Nat.le_of_ble_eq_true rfl) (Nat.le_of_ble_eq_true rfl) hW ⟨q, N, _, hb_7, hq_7, by omega, by omega, fun j hj => (if_neg (by omega)).trans (hg j hj), if_pos rfl, Or.inr hq, fun x h1 h2 => by rw [eM_7, eM_6]; exact (if_neg h1).trans ((if_neg h2).trans (hf x h2 h1))⟩ dJx4a65c_add_72be8_22

set_option maxHeartbeats 200000 in
set_option maxRecDepth 100000 in
theorem jAdd3Q (l : Launch) (G : mG) (M : Mem) (sz : Nat) (b a n cap v : Nat) (mc : Int32) (f : Nat → Option Nat) (hl0 : M b = some (.inr (0, [.int mc, .ref a, .int (nI n)]))) (ha0 : M a = some (eQ (G.2.1 2) cap f)) (hn : n = cap) (hc0 : 0 < cap) (hc4 : cap ≤ 40) (ho : ∀ i, i < cap → ∀ y, f i = some y → Obj M y) (hv : Obj M v) : cMv l yJx4a65c_add_72be8 wsJx4a65c_add_72be8 5 1 64 G M sz [.ref b, .ref v, .ref a, .int (nI n)] (fun M' => jPA G M b a n v f mc M') := by
  refine m_start cJx4a65c_add_72be8 4 none (by decide) rfl (Nat.le_of_ble_eq_true rfl) ?_
  intro p e s m below meth c ls hx hb hr hml hown hlk hnm hts hK hsz hE hW hl
  have hA := mA_A (M := M) hsz
  have hl : lv_has ls 4 [(0, .ref b), (1, .ref v), (2, .ref a), (3, .int (nI n))] := hl
  have hinJx4a65c : ∀ w ∈ u_ws RJx4a65c TJx4a65c 3, w ∈ wsJx4a65c_add_72be8 := (fun _ h => List.mem_cons_of_mem _ (List.mem_append_right _ h))
  refine lv_iload_n hx hb dJx4a65c_add_72be8_0 rfl (lv_at hl 3 rfl) ?_
  refine lv_aload_n hx hb dJx4a65c_add_72be8_1 rfl (lv_at hl 2 rfl) ?_
  refine mr_alen hx hb hK hW 2 ha0 (by rfl) rfl dJx4a65c_add_72be8_2 ?_
  refine nv_icmp_ne (u := n) (v := cap) (tgt := 11) hx hb dJx4a65c_add_72be8_3 (by decide) (by omega) (by omega) (fun z => (by omega : False).elim) (fun _ => ?_)
  refine lv_aload_n hx hb dJx4a65c_add_72be8_6 rfl (lv_at hl 0 rfl) ?_
  refine mk_q (va_runV (As := []) (nL := 4) ⟨hx, hb, hml, hown, hts⟩ (jGrow0Q l G _ _ b a n cap mc f hl0 ha0 hn hc0 hc4 ho) (cwV 0 hts gJx4a65c_add_72be8_Jx4a65c_grow_d5877 rfl rfl rfl (by decide +kernel) ⟨(Nat.le_of_ble_eq_true rfl), (Nat.le_of_ble_eq_true rfl)⟩) (mp_V hK hE hW hA (mW_recv hK hW.1 hl0 (by rfl))) rfl rfl hl.1 rfl (lv_room (Nat.le_of_ble_eq_true rfl)) dJx4a65c_add_72be8_7 ⟨(Nat.le_of_ble_eq_true rfl), (Nat.le_of_ble_eq_true rfl)⟩) hW hA (fun r_3 M_2 H locs hp_1 hW => ?_)
  obtain ⟨q, N, g, e1, hq, hQ, hB, hN1, hN2, hg, hf⟩ := hp_1
  subst e1
  have hq_4 : M_2 q = some (eQ (G.2.1 2) N g) := hQ
  have hb_5 : M_2 b = some (.inr (0, [.int (mc), .ref q, .int (nI n)])) := hB
  have hv := hv.fr hq hl0 hB hf
  refine lv_astore_n (lv' := [(2, .ref q), (0, .ref b), (1, .ref v), (3, .int (nI n))]) hx hb dJx4a65c_add_72be8_10 rfl hl (by decide) rfl (fun ls hl => ?_)
  refine lv_aload_n hx hb dJx4a65c_add_72be8_11 rfl (lv_at hl 0 rfl) ?_
  refine lv_iload_n hx hb dJx4a65c_add_72be8_12 rfl (lv_at hl 3 rfl) ?_
  refine lv_aload_n hx hb dJx4a65c_add_72be8_13 rfl (lv_at hl 2 rfl) ?_
  refine mr_aast (j := n) hx hb hK hW 2 hq_4 (by rfl) (Obj.any hv hK hE hW.1) rfl (by omega) (by omega) dJx4a65c_add_72be8_14 (fun H locs hW => ?_)
  obtain ⟨M_6, eM_6⟩ : ∃ z : Mem, z = va_up M_2 q (some (eQ (G.2.1 2) N (va_up g n (some v)))) := ⟨_, rfl⟩
  rw [← eM_6] at hW
  have hq_6 : M_6 q = some (eQ (G.2.1 2) N (va_up g n (some v))) := by rw [eM_6]; exact if_pos rfl
  have hb_6 : M_6 b = some (.inr (0, [.int (mc), .ref q, .int (nI n)])) := by rw [eM_6]; exact (if_neg (fun z => by have h1 := hb_5; rw [z, hq_4] at h1; cases h1)).trans hb_5
  refine lv_aload_n hx hb dJx4a65c_add_72be8_15 rfl (lv_at hl 1 rfl) ?_
  refine lv_iload_n hx hb dJx4a65c_add_72be8_16 rfl (lv_at hl 3 rfl) ?_
  refine lv_iconst (v := nI 1) hx hb dJx4a65c_add_72be8_17 (by decide) ?_
  refine lv_iadd hx hb dJx4a65c_add_72be8_18 (lv_tope (nI_add n 1) ?_)
  refine mr_put (ty := .int) (fs' := [.int (mc), .ref q, .int (nI (n + 1))]) hx hb hts hinJx4a65c tyJx4a65c tyJx4a65c_ok nmJx4a65c hown hK hW hb_6 (by rfl) 2 (by decide) (hts (.fieldLink RJx4a65c 48 "java/util/ArrayList" "size" "I") (by decide +kernel)) (fun _ h => h) rfl (by decide +kernel) rfl rfl (Nat.le_of_ble_eq_true rfl) rfl dJx4a65c_add_72be8_19 (fun H locs hW => ?_)
  obtain ⟨M_7, eM_7⟩ : ∃ z : Mem, z = va_up M_6 b (some (.inr (0, [.int (mc), .ref q, .int (nI (n + 1))]))) := ⟨_, rfl⟩
  rw [← eM_7] at hW
  have hb_7 : M_7 b = some (.inr (0, [.int (mc), .ref q, .int (nI (n + 1))])) := by rw [eM_7]; exact if_pos rfl
  have hq_7 : M_7 q = some (eQ (G.2.1 2) N (va_up g n (some v))) := by rw [eM_7]; exact (if_neg (fun z => by have h1 := hq_6; rw [z, hb_6] at h1; cases h1)).trans hq_6
  exact mr_vret hx hb hr hlk (Nat.le_of_ble_eq_true rfl) (Nat.le_of_ble_eq_true rfl) hW ⟨q, N, _, hb_7, hq_7, by omega, by omega, fun j hj => (if_neg (by omega)).trans (hg j hj), if_pos rfl, Or.inr hq, fun x h1 h2 => by rw [eM_7, eM_6]; exact (if_neg h1).trans ((if_neg h2).trans (hf x h2 h1))⟩ dJx4a65c_add_72be8_22

set_option maxHeartbeats 200000 in
set_option maxRecDepth 100000 in
theorem jAdd3N (l : Launch) (G : mG) (M : Mem) (sz : Nat) (b a n cap v : Nat) (mc : Int32) (f : Nat → Option Nat) (hl0 : M b = some (.inr (0, [.int mc, .ref a, .int (nI n)]))) (ha0 : M a = some (eQ (G.2.1 2) cap f)) (hn : n < cap) (hc : cap ≤ 64) (hv : Obj M v) : cMv l yJx4a65c_add_72be8 wsJx4a65c_add_72be8 5 1 64 G M sz [.ref b, .ref v, .ref a, .int (nI n)] (fun M' => jPA G M b a n v f mc M') := by
  refine m_start cJx4a65c_add_72be8 4 none (by decide) rfl (Nat.le_of_ble_eq_true rfl) ?_
  intro p e s m below meth c ls hx hb hr hml hown hlk hnm hts hK hsz hE hW hl
  have hA := mA_A (M := M) hsz
  have hl : lv_has ls 4 [(0, .ref b), (1, .ref v), (2, .ref a), (3, .int (nI n))] := hl
  have hinJx4a65c : ∀ w ∈ u_ws RJx4a65c TJx4a65c 3, w ∈ wsJx4a65c_add_72be8 := (fun _ h => List.mem_cons_of_mem _ (List.mem_append_right _ h))
  refine lv_iload_n hx hb dJx4a65c_add_72be8_0 rfl (lv_at hl 3 rfl) ?_
  refine lv_aload_n hx hb dJx4a65c_add_72be8_1 rfl (lv_at hl 2 rfl) ?_
  refine mr_alen hx hb hK hW 2 ha0 (by rfl) rfl dJx4a65c_add_72be8_2 ?_
  refine nv_icmp_ne (u := n) (v := cap) (tgt := 11) hx hb dJx4a65c_add_72be8_3 (by decide) (by omega) (by omega) (fun _ => ?_) (fun z => (by omega : False).elim)
  refine lv_aload_n hx hb dJx4a65c_add_72be8_11 rfl (lv_at hl 2 rfl) ?_
  refine lv_iload_n hx hb dJx4a65c_add_72be8_12 rfl (lv_at hl 3 rfl) ?_
  refine lv_aload_n hx hb dJx4a65c_add_72be8_13 rfl (lv_at hl 1 rfl) ?_
  refine mr_aast (j := n) hx hb hK hW 2 ha0 (by rfl) (Obj.any hv hK hE hW.1) rfl (by omega) (by omega) dJx4a65c_add_72be8_14 (fun H locs hW => ?_)
  obtain ⟨M_1, eM_1⟩ : ∃ z : Mem, z = va_up M a (some (eQ (G.2.1 2) cap (va_up f n (some v)))) := ⟨_, rfl⟩
  rw [← eM_1] at hW
  have ha_1 : M_1 a = some (eQ (G.2.1 2) cap (va_up f n (some v))) := by rw [eM_1]; exact if_pos rfl
  have hb_1 : M_1 b = some (.inr (0, [.int (mc), .ref a, .int (nI n)])) := by rw [eM_1]; exact (if_neg (fun z => by have h1 := hl0; rw [z, ha0] at h1; cases h1)).trans hl0
  refine lv_aload_n hx hb dJx4a65c_add_72be8_15 rfl (lv_at hl 0 rfl) ?_
  refine lv_iload_n hx hb dJx4a65c_add_72be8_16 rfl (lv_at hl 3 rfl) ?_
  refine lv_iconst (v := nI 1) hx hb dJx4a65c_add_72be8_17 (by decide) ?_
  refine lv_iadd hx hb dJx4a65c_add_72be8_18 (lv_tope (nI_add n 1) ?_)
  refine mr_put (ty := .int) (fs' := [.int (mc), .ref a, .int (nI (n + 1))]) hx hb hts hinJx4a65c tyJx4a65c tyJx4a65c_ok nmJx4a65c hown hK hW hb_1 (by rfl) 2 (by decide) (hts (.fieldLink RJx4a65c 48 "java/util/ArrayList" "size" "I") (by decide +kernel)) (fun _ h => h) rfl (by decide +kernel) rfl rfl (Nat.le_of_ble_eq_true rfl) rfl dJx4a65c_add_72be8_19 (fun H locs hW => ?_)
  obtain ⟨M_2, eM_2⟩ : ∃ z : Mem, z = va_up M_1 b (some (.inr (0, [.int (mc), .ref a, .int (nI (n + 1))]))) := ⟨_, rfl⟩
  rw [← eM_2] at hW
  have hb_2 : M_2 b = some (.inr (0, [.int (mc), .ref a, .int (nI (n + 1))])) := by rw [eM_2]; exact if_pos rfl
  have ha_2 : M_2 a = some (eQ (G.2.1 2) cap (va_up f n (some v))) := by rw [eM_2]; exact (if_neg (fun z => by have h1 := ha_1; rw [z, hb_1] at h1; cases h1)).trans ha_1
  exact mr_vret hx hb hr hlk (Nat.le_of_ble_eq_true rfl) (Nat.le_of_ble_eq_true rfl) hW ⟨a, cap, _, hb_2, ha_2, by omega, by omega, fun j hj => if_neg (by omega), if_pos rfl, Or.inl rfl, fun x h1 h2 => by rw [eM_2, eM_1]; exact (if_neg h1).trans (if_neg h2)⟩ dJx4a65c_add_72be8_22
