/-! THE REFERENCE'S CONSTRUCTOR (mine; the steps laid by my program gen/ref10.py) -/
abbrev σ0 : Sg := fun _ _ => 0
def rFN (ad : Nat → Nat) (n : Nat) : List Value := (List.range 26).map (fun k => if rI k = true then .int 0 else if k < n then .ref (ad k) else .null)
theorem rFN_get {ad : Nat → Nat} {n k : Nat} (h : k < 26) : (rFN ad n)[k]? = some (if rI k = true then .int 0 else if k < n then .ref (ad k) else .null) := by
  unfold rFN
  rw [List.getElem?_map, List.getElem?_range h]
  rfl
theorem rFN_len {ad : Nat → Nat} {n : Nat} : (rFN ad n).length = 26 := by simp [rFN]
theorem rFN_set {ad : Nat → Nat} {n k q : Nat} (h : k < 26) (hk : rI k = false) (hn : n ≤ k) (hb : ∀ j, n ≤ j → j < k → rI j = true) : (rFN ad n).set k (.ref q) = rFN (va_up ad k q) (k + 1) := by
  apply List.ext_getElem?
  intro j
  by_cases hj : j < 26
  · rw [rFN_get hj]
    by_cases hjk : j = k
    · subst hjk
      rw [List.getElem?_set_self (by rw [rFN_len]; exact h), if_neg (by rw [hk]; decide), if_pos (Nat.lt_succ_self j)]
      rw [show va_up ad j q j = q from if_pos rfl]
    · rw [List.getElem?_set_ne (Ne.symm hjk), rFN_get hj]
      by_cases hI : rI j = true
      · rw [if_pos hI, if_pos hI]
      · rw [if_neg hI, if_neg hI]
        rw [show va_up ad k q j = ad j from if_neg hjk]
        by_cases hjn : j < n
        · rw [if_pos hjn, if_pos (by omega)]
        · rw [if_neg hjn, if_neg (fun z => by
            have := hb j (by omega) (by omega)
            exact hI this)]
  · rw [List.getElem?_eq_none (by rw [List.length_set, rFN_len]; omega), List.getElem?_eq_none (by rw [rFN_len]; omega)]
/-- the constructor has made the rows of the fields below n -/
def RC (G : mG) (ad : Nat → Nat) (n : Nat) (M0 M : Mem) : Prop := M (ad 0) = some (.inr (6, rFN ad n)) ∧ (∀ k, rI k = false → k < n → M (ad k) = some (eI (G.2.1 0) (rLen k) (fun _ => 0)) ∧ M0 (ad k) = none ∧ ad k ≠ ad 0 ∧ ∀ j, rI j = false → j < k → ad j ≠ ad k) ∧ M0 (ad 0) ≠ none ∧ ∀ q, M0 q ≠ none → q ≠ ad 0 → M q = M0 q
theorem RC.step {G : mG} {ad : Nat → Nat} {n k q : Nat} {M0 M : Mem} (h : RC G ad n M0 M) (h26 : k < 26) (hk0 : 0 < k) (hk : rI k = false) (hn : n ≤ k) (hb : ∀ j, n ≤ j → j < k → rI j = true) (hq : M q = none) : RC G (va_up ad k q) (k + 1) M0 (va_up (va_up M q (some (eI (G.2.1 0) (rLen k) (fun _ => 0)))) (ad 0) (some (.inr (6, rFN (va_up ad k q) (k + 1))))) := by
  obtain ⟨h1, h2, h3, h4⟩ := h
  have hq0 : q ≠ ad 0 := fun z => by rw [z, h1] at hq; cases hq
  have e0 : va_up ad k q 0 = ad 0 := if_neg (by omega)
  have ek : va_up ad k q k = q := if_pos rfl
  refine ⟨by rw [e0]; exact if_pos rfl, fun j hj hjk => ?_, by rw [e0]; exact h3, fun x hx hx0 => ?_⟩
  · by_cases e : j = k
    · subst e
      rw [ek, e0]
      refine ⟨?_, ?_, hq0, fun i hi hij => ?_⟩
      · rw [show va_up (va_up M q (some (eI (G.2.1 0) (rLen j) (fun _ => 0)))) (ad 0) (some (.inr (6, rFN (va_up ad j q) (j + 1)))) q = _ from if_neg hq0]
        exact if_pos rfl
      · cases hz : M0 q with
        | none => rfl
        | some v => rw [h4 q (by rw [hz]; exact fun w => by cases w) hq0, hz] at hq; cases hq
      · rw [show va_up ad j q i = ad i from if_neg (by omega)]
        intro z
        have hin : i < n := by
          rcases Nat.lt_or_ge i n with w | w
          · exact w
          · have := hb i w hij; rw [hi] at this; cases this
        rw [← z, (h2 i hi hin).1] at hq
        cases hq
    · have hjn : j < n := by
        rcases Nat.lt_or_ge j n with w | w
        · exact w
        · have := hb j w (by omega); rw [hj] at this; cases this
      obtain ⟨a1, a2, a3, a4⟩ := h2 j hj hjn
      have ej : va_up ad k q j = ad j := if_neg e
      rw [ej, e0]
      refine ⟨?_, a2, a3, fun i hi hij => ?_⟩
      · rw [show va_up (va_up M q (some (eI (G.2.1 0) (rLen k) (fun _ => 0)))) (ad 0) (some (.inr (6, rFN (va_up ad k q) (k + 1)))) (ad j) = _ from if_neg a3]
        rw [show va_up M q (some (eI (G.2.1 0) (rLen k) (fun _ => 0))) (ad j) = M (ad j) from if_neg (fun z => by rw [← z, a1] at hq; cases hq)]
        exact a1
      · rw [show va_up ad k q i = ad i from if_neg (by omega)]
        exact a4 i hi hij
  · rw [e0] at hx0
    rw [show va_up (va_up M q (some (eI (G.2.1 0) (rLen k) (fun _ => 0)))) (ad 0) (some (.inr (6, rFN (va_up ad k q) (k + 1)))) x = _ from if_neg hx0]
    have hxq : x ≠ q := fun z => by rw [← z, h4 x hx hx0] at hq; exact hx hq
    rw [show va_up M q (some (eI (G.2.1 0) (rLen k) (fun _ => 0))) x = M x from if_neg hxq]
    exact h4 x hx hx0
theorem RC.fin {G : mG} {ad : Nat → Nat} {M0 M : Mem} (h : RC G ad 26 M0 M) : RefAt G ad σ0 M ∧ (∀ k, rDom k = true → k ≠ 0 → M0 (ad k) = none) ∧ ∀ q, M0 q ≠ none → q ≠ ad 0 → M q = M0 q := by
  obtain ⟨h1, h2, h3, h4⟩ := h
  have hdI : ∀ k, rDom k = true → k ≠ 0 → rI k = false ∧ k < 26 := by
    intro k hk h0
    unfold rDom at hk
    simp [h0] at hk
    exact ⟨hk.2, hk.1⟩
  refine ⟨⟨fun k hk => ?_, fun i j hi hj hij => ?_⟩, fun k hk h0 => (h2 k (hdI k hk h0).1 (hdI k hk h0).2).2.1, h4⟩
  · by_cases h0 : k = 0
    · subst h0
      rw [h1]
      have : rFN ad 26 = rFs ad σ0 := by
        unfold rFN rFs
        apply List.map_congr_left
        intro x hx
        unfold rVal
        rw [if_pos (List.mem_range.mp hx)]
        rfl
      rw [this]
      rfl
    · obtain ⟨a, b⟩ := hdI k hk h0
      rw [(h2 k a b).1, rCell_row hk a]
      rfl
  · rcases Nat.lt_trichotomy i j with z | z | z
    · exfalso
      obtain ⟨a, b⟩ := hdI j hj (by omega)
      by_cases i0 : i = 0
      · subst i0; exact (h2 j a b).2.2.1 hij.symm
      · exact (h2 j a b).2.2.2 i (hdI i hi i0).1 z hij
    · exact z
    · exfalso
      obtain ⟨a, b⟩ := hdI i hi (by omega)
      by_cases j0 : j = 0
      · subst j0; exact (h2 i a b).2.2.1 hij
      · exact (h2 i a b).2.2.2 j (hdI j hj j0).1 z hij.symm
section RCW
variable {p : Program} {l : Launch} {e : Env} {R : Room} {s : State} {m : MethodId} {args : Array Value} {below : List Frame} {meth : Method} {c : Code} {H : Heap} {locs : List Loc} {cells slots : Nat} {Q : State → Prop}
variable {cc : ByteArray} {pc : Nat} {ls : Array Slot} {G : mG} {A : Nat → Prop} {ad : Nat → Nat} {M0 : Mem} {H0 : Heap} {own : String} {index : Nat} {Ts : List Cond}
set_option maxHeartbeats 4000000 in
/-- aload_0, a length, newarray int, putfield: one row more -/
theorem rc_row {n k pc2 : Nat} (hexec : p.tables.exec = Jvm.exec) (hb : c.code = cc) (hts : ∀ w ∈ Ts, w.before args s = true) (hin : ∀ w ∈ u_ws RX5 TX5 26, w ∈ Ts) (hown : s.vm.findClass RX5 = some m.cls) (hnm : meth.name = "<init>") (hK : va_K G.1 vwCl (kT G) s) (hA : ∀ q, H0.size ≤ q → A q) (hl : lv_has ls 1 [(0, .ref (ad 0))]) (harr : (Cond.arrayClass .int).before args s = true)
    (h26 : k < 26) (hk0 : 0 < k) (hI : rI k = false) (hn : n ≤ k) (hbt : ∀ j, n ≤ j → j < k → rI j = true) (hW : ∃ M, mW G.1 vwCl A H0 M H locs ∧ RC G ad n M0 M)
    (d0 : decode cc pc = .ok (.aload_n 0, 1)) (hpush : ∀ (st : List Value), W p l e R s m args below meth c H locs cells slots Q (F0 m pc2 ls (.int (nI (rLen k)) :: st)) → W p l e R s m args below meth c H locs cells slots Q (F0 m (pc + 1) ls st)) (d2 : decode cc pc2 = .ok (.newarray .int, 2)) (d4 : decode cc (pc2 + 2) = .ok (.putfield index, 3))
    (hc : (TX5 k).1 = RX5) (hlink : (Cond.fieldLink RX5 index RX5 (TX5 k).2.1 (TX5 k).2.2.1).before args s = true) (hfin : (TX5 k).2.2.2 = true) (hd : parseFieldDescriptor (TX5 k).2.2.1 = some (.array .int)) (hcells : cells + 1 ≤ R.cells) (hslots : slots + rLen k ≤ R.slots)
    (kk : ∀ (ad' : Nat → Nat) (H1 : Heap) (locs1 : List Loc), ad' 0 = ad 0 → (∃ M, mW G.1 vwCl A H0 M H1 locs1 ∧ RC G ad' (k + 1) M0 M) → W p l e R s m args below meth c H1 locs1 (cells + 1) (slots + rLen k) Q (F0 m (pc2 + 2 + 3) ls [])) : W p l e R s m args below meth c H locs cells slots Q (F0 m pc ls []) := by
  obtain ⟨M, h1, h2⟩ := hW
  have hle : rLen k ≤ 8000 := by unfold rLen; repeat' split <;> try omega
  refine lv_aload_n hexec hb d0 rfl (lv_at hl 0 rfl) (hpush _ ?_)
  refine mr_newI (N := rLen k) hexec hb harr hK h1 hA 0 (by rfl) (by omega) hcells hslots d2 (fun q H1 hq hW1 => ?_)
  have hq0 : ad 0 ≠ q := fun z => by rw [← z, h2.1] at hq; cases hq
  have hob : va_up M q (some (eI (G.2.1 0) (rLen k) (fun _ => 0))) (ad 0) = some (.inr (6, rFN ad n)) := by
    rw [show va_up M q (some (eI (G.2.1 0) (rLen k) (fun _ => 0))) (ad 0) = M (ad 0) from if_neg hq0]
    exact h2.1
  refine mr_putF (ty := .array .int) (fs' := rFN (va_up ad k q) (k + 1)) hexec hb hts hin tyX5 tyX5_ok nmX5 hown hK hW1 hob (by rfl) k h26 hlink (by rw [hc]; exact fun _ h => h) hfin hnm hc hd rfl rfl (by rw [rFN_len]; exact h26) (rFN_set h26 hI hn hbt) d4 (fun H2 locs2 hW2 => ?_)
  exact kk (va_up ad k q) H2 locs2 (if_neg (by omega)) ⟨_, hW2, h2.step h26 hk0 hI hn hbt hq⟩
end RCW

set_option maxHeartbeats 4000000 in
set_option maxRecDepth 100000 in
/-- the reference's start -/
theorem c5_init (l : Launch) (G : mG) (a0 : Nat) (M : Mem) (sz : Nat) (hM : M a0 = some (.inr (6, rFN (fun _ => 0) 0))) : cMv l yX5_init wsX5_init 2 20 11986 G M sz [.ref a0] (fun M' => ∃ ad : Nat → Nat, ad 0 = a0 ∧ RefAt G ad σ0 M' ∧ (∀ k, rDom k = true → k ≠ 0 → M (ad k) = none) ∧ ∀ q, M q ≠ none → q ≠ a0 → M' q = M q) := by
  refine m_start cX5_init 1 none (by decide) rfl (Nat.le_of_ble_eq_true rfl) ?_
  intro p e s m below meth c ls hx hb hr hml hown hlk hnm hts hK hsz hE hW hl
  have hA := mA_A (M := M) hsz
  have hl : lv_has ls 1 [(0, .ref a0)] := hl
  have hinX5 : ∀ w ∈ u_ws RX5 TX5 26, w ∈ wsX5_init := (fun _ h => List.mem_cons_of_mem _ (List.mem_append_right _ h))
  have hS : ∃ M', mW G.1 vwCl (mA M sz) s.heap M' s.heap [] ∧ RC G (fun _ => a0) 0 M M' := ⟨M, hW, by
    refine ⟨by rw [hM]; rfl, fun k _ hk => absurd hk (Nat.not_lt_zero k), by rw [hM]; exact fun z => (by cases z), fun _ _ _ => rfl⟩⟩
  obtain ⟨ad, had, hS⟩ : ∃ ad : Nat → Nat, ad 0 = a0 ∧ ∃ M', mW G.1 vwCl (mA M sz) s.heap M' s.heap [] ∧ RC G ad 0 M M' := ⟨fun _ => a0, rfl, hS⟩
  rw [← had] at hl
  refine lv_aload_n hx hb dX5_init_0 rfl (lv_at hl 0 rfl) ?_
  refine W.objInit hx hb hown (hts (.methodLink RX5 1 objectInit) (by decide +kernel)) (hts (.instanceMethod objectInit) (by decide +kernel)) (hts (.code objectInit ⟨#[0xb1]⟩ 1 none) (by decide +kernel)) rfl (by rw [hml]; exact hl.1) rfl dX5_init_1 (Nat.le_of_ble_eq_true rfl) (Nat.le_of_ble_eq_true rfl) ?_
  refine W.eq (g2 := F0 m 4 ls []) rfl ?_
  have harr : (Cond.arrayClass .int).before [Value.ref a0].toArray s = true := hts _ (by decide +kernel)
  refine rc_row (n := 0) (k := 1) hx hb hts hinX5 hown hnm hK hA hl harr (by decide) (by decide) rfl (by decide) (fun j h1 h2 => (by have hj : j = 0 := (by omega); subst hj; rfl)) hS dX5_init_4 (fun st kk => lv_sipush (v := nI 168) hx hb dX5_init_5 (by decide) kk) dX5_init_8 dX5_init_10 rfl (hts (.fieldLink RX5 7 "SeaPostModel" "toldAt" "[I") (by decide +kernel)) rfl (by decide +kernel) (Nat.le_of_ble_eq_true rfl) (Nat.le_of_ble_eq_true rfl) (fun ad2 H locs had2 hS => ?_)
  rw [← had2] at hl had
  obtain ⟨ad, rfl⟩ : ∃ z, z = ad2 := ⟨_, rfl⟩
  refine rc_row (n := 2) (k := 2) hx hb hts hinX5 hown hnm hK hA hl harr (by decide) (by decide) rfl (by decide) (fun j h1 h2 => absurd h2 (by omega)) hS dX5_init_13 (fun st kk => lv_sipush (v := nI 168) hx hb dX5_init_14 (by decide) kk) dX5_init_17 dX5_init_19 rfl (hts (.fieldLink RX5 13 "SeaPostModel" "toldOn" "[I") (by decide +kernel)) rfl (by decide +kernel) (Nat.le_of_ble_eq_true rfl) (Nat.le_of_ble_eq_true rfl) (fun ad2 H locs had2 hS => ?_)
  rw [← had2] at hl had
  obtain ⟨ad, rfl⟩ : ∃ z, z = ad2 := ⟨_, rfl⟩
  refine rc_row (n := 3) (k := 3) hx hb hts hinX5 hown hnm hK hA hl harr (by decide) (by decide) rfl (by decide) (fun j h1 h2 => absurd h2 (by omega)) hS dX5_init_22 (fun st kk => lv_sipush (v := nI 168) hx hb dX5_init_23 (by decide) kk) dX5_init_26 dX5_init_28 rfl (hts (.fieldLink RX5 16 "SeaPostModel" "callMany" "[I") (by decide +kernel)) rfl (by decide +kernel) (Nat.le_of_ble_eq_true rfl) (Nat.le_of_ble_eq_true rfl) (fun ad2 H locs had2 hS => ?_)
  rw [← had2] at hl had
  obtain ⟨ad, rfl⟩ : ∃ z, z = ad2 := ⟨_, rfl⟩
  refine rc_row (n := 4) (k := 4) hx hb hts hinX5 hown hnm hK hA hl harr (by decide) (by decide) rfl (by decide) (fun j h1 h2 => absurd h2 (by omega)) hS dX5_init_31 (fun st kk => lv_sipush (v := nI 1008) hx hb dX5_init_32 (by decide) kk) dX5_init_35 dX5_init_37 rfl (hts (.fieldLink RX5 19 "SeaPostModel" "callPort" "[I") (by decide +kernel)) rfl (by decide +kernel) (Nat.le_of_ble_eq_true rfl) (Nat.le_of_ble_eq_true rfl) (fun ad2 H locs had2 hS => ?_)
  rw [← had2] at hl had
  obtain ⟨ad, rfl⟩ : ∃ z, z = ad2 := ⟨_, rfl⟩
  refine rc_row (n := 5) (k := 5) hx hb hts hinX5 hown hnm hK hA hl harr (by decide) (by decide) rfl (by decide) (fun j h1 h2 => absurd h2 (by omega)) hS dX5_init_40 (fun st kk => lv_sipush (v := nI 1008) hx hb dX5_init_41 (by decide) kk) dX5_init_44 dX5_init_46 rfl (hts (.fieldLink RX5 22 "SeaPostModel" "arrival" "[I") (by decide +kernel)) rfl (by decide +kernel) (Nat.le_of_ble_eq_true rfl) (Nat.le_of_ble_eq_true rfl) (fun ad2 H locs had2 hS => ?_)
  rw [← had2] at hl had
  obtain ⟨ad, rfl⟩ : ∃ z, z = ad2 := ⟨_, rfl⟩
  refine rc_row (n := 6) (k := 6) hx hb hts hinX5 hown hnm hK hA hl harr (by decide) (by decide) rfl (by decide) (fun j h1 h2 => absurd h2 (by omega)) hS dX5_init_49 (fun st kk => lv_sipush (v := nI 1008) hx hb dX5_init_50 (by decide) kk) dX5_init_53 dX5_init_55 rfl (hts (.fieldLink RX5 25 "SeaPostModel" "leaving" "[I") (by decide +kernel)) rfl (by decide +kernel) (Nat.le_of_ble_eq_true rfl) (Nat.le_of_ble_eq_true rfl) (fun ad2 H locs had2 hS => ?_)
  rw [← had2] at hl had
  obtain ⟨ad, rfl⟩ : ∃ z, z = ad2 := ⟨_, rfl⟩
  refine rc_row (n := 7) (k := 7) hx hb hts hinX5 hown hnm hK hA hl harr (by decide) (by decide) rfl (by decide) (fun j h1 h2 => absurd h2 (by omega)) hS dX5_init_58 (fun st kk => lv_bipush (v := nI 8) hx hb dX5_init_59 (by decide) kk) dX5_init_61 dX5_init_63 rfl (hts (.fieldLink RX5 28 "SeaPostModel" "routeMany" "[I") (by decide +kernel)) rfl (by decide +kernel) (Nat.le_of_ble_eq_true rfl) (Nat.le_of_ble_eq_true rfl) (fun ad2 H locs had2 hS => ?_)
  rw [← had2] at hl had
  obtain ⟨ad, rfl⟩ : ∃ z, z = ad2 := ⟨_, rfl⟩
  refine rc_row (n := 8) (k := 9) hx hb hts hinX5 hown hnm hK hA hl harr (by decide) (by decide) rfl (by decide) (fun j h1 h2 => (by have hj : j = 8 := (by omega); subst hj; rfl)) hS dX5_init_66 (fun st kk => lv_bipush (v := nI 40) hx hb dX5_init_67 (by decide) kk) dX5_init_69 dX5_init_71 rfl (hts (.fieldLink RX5 31 "SeaPostModel" "its" "[I") (by decide +kernel)) rfl (by decide +kernel) (Nat.le_of_ble_eq_true rfl) (Nat.le_of_ble_eq_true rfl) (fun ad2 H locs had2 hS => ?_)
  rw [← had2] at hl had
  obtain ⟨ad, rfl⟩ : ∃ z, z = ad2 := ⟨_, rfl⟩
  refine rc_row (n := 10) (k := 10) hx hb hts hinX5 hown hnm hK hA hl harr (by decide) (by decide) rfl (by decide) (fun j h1 h2 => absurd h2 (by omega)) hS dX5_init_74 (fun st kk => lv_bipush (v := nI 40) hx hb dX5_init_75 (by decide) kk) dX5_init_77 dX5_init_79 rfl (hts (.fieldLink RX5 34 "SeaPostModel" "homeOf" "[I") (by decide +kernel)) rfl (by decide +kernel) (Nat.le_of_ble_eq_true rfl) (Nat.le_of_ble_eq_true rfl) (fun ad2 H locs had2 hS => ?_)
  rw [← had2] at hl had
  obtain ⟨ad, rfl⟩ : ∃ z, z = ad2 := ⟨_, rfl⟩
  refine rc_row (n := 11) (k := 11) hx hb hts hinX5 hown hnm hK hA hl harr (by decide) (by decide) rfl (by decide) (fun j h1 h2 => absurd h2 (by omega)) hS dX5_init_82 (fun st kk => lv_bipush (v := nI 40) hx hb dX5_init_83 (by decide) kk) dX5_init_85 dX5_init_87 rfl (hts (.fieldLink RX5 37 "SeaPostModel" "postedOn" "[I") (by decide +kernel)) rfl (by decide +kernel) (Nat.le_of_ble_eq_true rfl) (Nat.le_of_ble_eq_true rfl) (fun ad2 H locs had2 hS => ?_)
  rw [← had2] at hl had
  obtain ⟨ad, rfl⟩ : ∃ z, z = ad2 := ⟨_, rfl⟩
  refine rc_row (n := 12) (k := 12) hx hb hts hinX5 hown hnm hK hA hl harr (by decide) (by decide) rfl (by decide) (fun j h1 h2 => absurd h2 (by omega)) hS dX5_init_90 (fun st kk => lv_bipush (v := nI 40) hx hb dX5_init_91 (by decide) kk) dX5_init_93 dX5_init_95 rfl (hts (.fieldLink RX5 40 "SeaPostModel" "stateOf" "[I") (by decide +kernel)) rfl (by decide +kernel) (Nat.le_of_ble_eq_true rfl) (Nat.le_of_ble_eq_true rfl) (fun ad2 H locs had2 hS => ?_)
  rw [← had2] at hl had
  obtain ⟨ad, rfl⟩ : ∃ z, z = ad2 := ⟨_, rfl⟩
  refine rc_row (n := 13) (k := 13) hx hb hts hinX5 hown hnm hK hA hl harr (by decide) (by decide) rfl (by decide) (fun j h1 h2 => absurd h2 (by omega)) hS dX5_init_98 (fun st kk => lv_bipush (v := nI 40) hx hb dX5_init_99 (by decide) kk) dX5_init_101 dX5_init_103 rfl (hts (.fieldLink RX5 43 "SeaPostModel" "portOf" "[I") (by decide +kernel)) rfl (by decide +kernel) (Nat.le_of_ble_eq_true rfl) (Nat.le_of_ble_eq_true rfl) (fun ad2 H locs had2 hS => ?_)
  rw [← had2] at hl had
  obtain ⟨ad, rfl⟩ : ∃ z, z = ad2 := ⟨_, rfl⟩
  refine rc_row (n := 14) (k := 14) hx hb hts hinX5 hown hnm hK hA hl harr (by decide) (by decide) rfl (by decide) (fun j h1 h2 => absurd h2 (by omega)) hS dX5_init_106 (fun st kk => lv_bipush (v := nI 40) hx hb dX5_init_107 (by decide) kk) dX5_init_109 dX5_init_111 rfl (hts (.fieldLink RX5 46 "SeaPostModel" "comesOn" "[I") (by decide +kernel)) rfl (by decide +kernel) (Nat.le_of_ble_eq_true rfl) (Nat.le_of_ble_eq_true rfl) (fun ad2 H locs had2 hS => ?_)
  rw [← had2] at hl had
  obtain ⟨ad, rfl⟩ : ∃ z, z = ad2 := ⟨_, rfl⟩
  refine rc_row (n := 15) (k := 15) hx hb hts hinX5 hown hnm hK hA hl harr (by decide) (by decide) rfl (by decide) (fun j h1 h2 => absurd h2 (by omega)) hS dX5_init_114 (fun st kk => lv_bipush (v := nI 40) hx hb dX5_init_115 (by decide) kk) dX5_init_117 dX5_init_119 rfl (hts (.fieldLink RX5 49 "SeaPostModel" "sent" "[I") (by decide +kernel)) rfl (by decide +kernel) (Nat.le_of_ble_eq_true rfl) (Nat.le_of_ble_eq_true rfl) (fun ad2 H locs had2 hS => ?_)
  rw [← had2] at hl had
  obtain ⟨ad, rfl⟩ : ∃ z, z = ad2 := ⟨_, rfl⟩
  refine rc_row (n := 16) (k := 16) hx hb hts hinX5 hown hnm hK hA hl harr (by decide) (by decide) rfl (by decide) (fun j h1 h2 => absurd h2 (by omega)) hS dX5_init_122 (fun st kk => lv_bipush (v := nI 40) hx hb dX5_init_123 (by decide) kk) dX5_init_125 dX5_init_127 rfl (hts (.fieldLink RX5 52 "SeaPostModel" "deliveredOn" "[I") (by decide +kernel)) rfl (by decide +kernel) (Nat.le_of_ble_eq_true rfl) (Nat.le_of_ble_eq_true rfl) (fun ad2 H locs had2 hS => ?_)
  rw [← had2] at hl had
  obtain ⟨ad, rfl⟩ : ∃ z, z = ad2 := ⟨_, rfl⟩
  refine rc_row (n := 17) (k := 17) hx hb hts hinX5 hown hnm hK hA hl harr (by decide) (by decide) rfl (by decide) (fun j h1 h2 => absurd h2 (by omega)) hS dX5_init_130 (fun st kk => lv_sipush (v := nI 8000) hx hb dX5_init_131 (by decide) kk) dX5_init_134 dX5_init_136 rfl (hts (.fieldLink RX5 55 "SeaPostModel" "markOf" "[I") (by decide +kernel)) rfl (by decide +kernel) (Nat.le_of_ble_eq_true rfl) (Nat.le_of_ble_eq_true rfl) (fun ad2 H locs had2 hS => ?_)
  rw [← had2] at hl had
  obtain ⟨ad, rfl⟩ : ∃ z, z = ad2 := ⟨_, rfl⟩
  refine rc_row (n := 18) (k := 18) hx hb hts hinX5 hown hnm hK hA hl harr (by decide) (by decide) rfl (by decide) (fun j h1 h2 => absurd h2 (by omega)) hS dX5_init_139 (fun st kk => lv_bipush (v := nI 40) hx hb dX5_init_140 (by decide) kk) dX5_init_142 dX5_init_144 rfl (hts (.fieldLink RX5 58 "SeaPostModel" "markMany" "[I") (by decide +kernel)) rfl (by decide +kernel) (Nat.le_of_ble_eq_true rfl) (Nat.le_of_ble_eq_true rfl) (fun ad2 H locs had2 hS => ?_)
  rw [← had2] at hl had
  obtain ⟨ad, rfl⟩ : ∃ z, z = ad2 := ⟨_, rfl⟩
  refine rc_row (n := 19) (k := 19) hx hb hts hinX5 hown hnm hK hA hl harr (by decide) (by decide) rfl (by decide) (fun j h1 h2 => absurd h2 (by omega)) hS dX5_init_147 (fun st kk => lv_bipush (v := nI 40) hx hb dX5_init_148 (by decide) kk) dX5_init_150 dX5_init_152 rfl (hts (.fieldLink RX5 61 "SeaPostModel" "died" "[I") (by decide +kernel)) rfl (by decide +kernel) (Nat.le_of_ble_eq_true rfl) (Nat.le_of_ble_eq_true rfl) (fun ad2 H locs had2 hS => ?_)
  rw [← had2] at hl had
  obtain ⟨ad, rfl⟩ : ∃ z, z = ad2 := ⟨_, rfl⟩
  refine rc_row (n := 20) (k := 21) hx hb hts hinX5 hown hnm hK hA hl harr (by decide) (by decide) rfl (by decide) (fun j h1 h2 => (by have hj : j = 20 := (by omega); subst hj; rfl)) hS dX5_init_155 (fun st kk => lv_bipush (v := nI 40) hx hb dX5_init_156 (by decide) kk) dX5_init_158 dX5_init_160 rfl (hts (.fieldLink RX5 64 "SeaPostModel" "handed" "[I") (by decide +kernel)) rfl (by decide +kernel) (Nat.le_of_ble_eq_true rfl) (Nat.le_of_ble_eq_true rfl) (fun ad2 H locs had2 hS => ?_)
  rw [← had2] at hl had
  obtain ⟨ad, rfl⟩ : ∃ z, z = ad2 := ⟨_, rfl⟩
  refine rc_row (n := 22) (k := 23) hx hb hts hinX5 hown hnm hK hA hl harr (by decide) (by decide) rfl (by decide) (fun j h1 h2 => (by have hj : j = 22 := (by omega); subst hj; rfl)) hS dX5_init_163 (fun st kk => lv_bipush (v := nI 10) hx hb dX5_init_164 (by decide) kk) dX5_init_166 dX5_init_168 rfl (hts (.fieldLink RX5 67 "SeaPostModel" "opens" "[I") (by decide +kernel)) rfl (by decide +kernel) (Nat.le_of_ble_eq_true rfl) (Nat.le_of_ble_eq_true rfl) (fun ad2 H locs had2 hS => ?_)
  rw [← had2] at hl had
  obtain ⟨ad, rfl⟩ : ∃ z, z = ad2 := ⟨_, rfl⟩
  obtain ⟨M', hW', hC⟩ := hS
  obtain ⟨f1, f2, f3⟩ := RC.fin (show RC G ad 26 M M' from ⟨by
      have h1 := hC.1
      rw [h1]
      have : rFN ad 24 = rFN ad 26 := by
        unfold rFN
        apply List.map_congr_left
        intro x hx
        have hx26 := List.mem_range.mp hx
        by_cases hI : rI x = true
        · rw [if_pos hI, if_pos hI]
        · rw [if_neg hI, if_neg hI, if_pos hx26, if_pos (by
            rcases Nat.lt_or_ge x 24 with w | w
            · exact w
            · have : x = 24 ∨ x = 25 := by omega
              rcases this with e | e <;> subst e <;> exact absurd rfl hI)]
      rw [this], fun k hk hk26 => hC.2.1 k hk (by
        rcases Nat.lt_or_ge k 24 with w | w
        · exact w
        · have : k = 24 ∨ k = 25 := by omega
          rcases this with e | e <;> subst e <;> cases hk), hC.2.2.1, hC.2.2.2⟩)
  exact mr_vret hx hb hr hlk (Nat.le_of_ble_eq_true rfl) (Nat.le_of_ble_eq_true rfl) hW' ⟨ad, had, f1, f2, by rw [← had]; exact f3⟩ dX5_init_171
