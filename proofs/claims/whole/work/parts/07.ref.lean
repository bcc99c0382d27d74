/-! THE REFERENCE'S CELLS (mine): ad 0 is the object, ad k the row of field k -/
def rI (k : Nat) : Bool := k == 0 || k == 8 || k == 20 || k == 22 || k == 24 || k == 25
def rLen : Nat → Nat := fun k => if k ≤ 3 then 168 else if k ≤ 6 then 1008 else if k = 7 then 8 else if k = 17 then 8000 else if k = 23 then 10 else 40
def rVal (ad : Nat → Nat) (σ : Sg) (k : Nat) : Value := if rI k = true then .int (nI (σ k 0)) else .ref (ad k)
def rFs (ad : Nat → Nat) (σ : Sg) : List Value := (List.range 26).map (rVal ad σ)
def rDom (k : Nat) : Bool := decide (k < 26) && (k == 0 || !rI k)
def rCell (G : mG) (ad : Nat → Nat) (σ : Sg) (k : Nat) : va_E := if k = 0 then .inr (6, rFs ad σ) else eI (G.2.1 0) (rLen k) (fun j => nI (σ k j))
def RefAt (G : mG) (ad : Nat → Nat) (σ : Sg) (M : Mem) : Prop := (∀ k, rDom k = true → M (ad k) = some (rCell G ad σ k)) ∧ ∀ i j, rDom i = true → rDom j = true → ad i = ad j → i = j
/-- all but the reference's cells is as it was -/
def mFr (ad : Nat → Nat) (M M' : Mem) : Prop := ∀ q : Nat, (∀ k, rDom k = true → q ≠ ad k) → M' q = M q
theorem mFr.tr {ad : Nat → Nat} {M M1 M2 : Mem} (h1 : mFr ad M M1) (h2 : mFr ad M1 M2) : mFr ad M M2 := fun q h => (h2 q h).trans (h1 q h)
theorem rFs_get {ad : Nat → Nat} {σ : Sg} {k : Nat} (h : k < 26) : (rFs ad σ)[k]? = some (rVal ad σ k) := by
  unfold rFs
  rw [List.getElem?_map, List.getElem?_range h]
  rfl
theorem rFs_len {ad : Nat → Nat} {σ : Sg} : (rFs ad σ).length = 26 := by simp [rFs]
theorem rFs_set {ad : Nat → Nat} {σ : Sg} {k v : Nat} (h : k < 26) (hk : rI k = true) : (rFs ad σ).set k (.int (nI v)) = rFs ad (st σ k 0 v) := by
  apply List.ext_getElem?
  intro j
  by_cases hj : j < 26
  · rw [rFs_get hj]
    by_cases hjk : j = k
    · subst hjk
      rw [List.getElem?_set_self (by rw [rFs_len]; exact h)]
      unfold rVal
      rw [if_pos hk, st_s]
    · rw [List.getElem?_set_ne (Ne.symm hjk), rFs_get hj]
      unfold rVal
      rw [st_f hjk]
  · rw [List.getElem?_eq_none (by rw [List.length_set, rFs_len]; omega), List.getElem?_eq_none (by rw [rFs_len]; omega)]
theorem rCell_row {G : mG} {ad : Nat → Nat} {σ : Sg} {k : Nat} (h : rDom k = true) (hk : rI k = false) : rCell G ad σ k = eI (G.2.1 0) (rLen k) (fun j => nI (σ k j)) := by
  unfold rCell
  rw [if_neg]
  intro z
  subst z
  cases hk
/-- the reference in a state σ; the rest as in M0 -/
def rW (G : mG) (ad : Nat → Nat) (A : Nat → Prop) (H0 : Heap) (M0 : Mem) (σ : Sg) (H : Heap) (locs : List Loc) : Prop := ∃ M : Mem, mW G.1 vwCl A H0 M H locs ∧ RefAt G ad σ M ∧ mFr ad M0 M
theorem RefAt.puti {G : mG} {ad : Nat → Nat} {σ : Sg} {M : Mem} {k v : Nat} (h : RefAt G ad σ M) (hk : k < 26) (hI : rI k = true) : RefAt G ad (st σ k 0 v) (va_up M (ad 0) (some (.inr (6, rFs ad (st σ k 0 v))))) := by
  refine ⟨fun j hj => ?_, h.2⟩
  by_cases h0 : j = 0
  · subst h0
    rw [show va_up M (ad 0) (some (.inr (6, rFs ad (st σ k 0 v)))) (ad 0) = some (.inr (6, rFs ad (st σ k 0 v))) from if_pos rfl]
    rfl
  · have hne : ad j ≠ ad 0 := fun z => h0 (h.2 j 0 hj (by decide) z)
    rw [show va_up M (ad 0) (some (.inr (6, rFs ad (st σ k 0 v)))) (ad j) = M (ad j) from if_neg hne, h.1 j hj]
    have hjI : rI j = false := by
      unfold rDom at hj
      simp [h0] at hj
      exact hj.2
    rw [rCell_row hj hjI, rCell_row hj hjI]
    have hjk : j ≠ k := fun z => by subst z; rw [hI] at hjI; cases hjI
    simp only [st_f hjk]
theorem RefAt.puta {G : mG} {ad : Nat → Nat} {σ : Sg} {M : Mem} {k i v : Nat} (h : RefAt G ad σ M) (hk : rDom k = true) (hI : rI k = false) : RefAt G ad (st σ k i v) (va_up M (ad k) (some (eI (G.2.1 0) (rLen k) (upd (fun j => nI (σ k j)) i (nI v))))) := by
  refine ⟨fun j hj => ?_, h.2⟩
  by_cases h0 : j = k
  · subst h0
    rw [show va_up M (ad j) (some (eI (G.2.1 0) (rLen j) (upd (fun j' => nI (σ j j')) i (nI v)))) (ad j) = _ from if_pos rfl, rCell_row hj hI]
    congr 4
    funext x
    by_cases hx : x = i
    · subst hx
      simp [upd, st_s]
    · simp [upd, hx, st_i hx]
  · have hne : ad j ≠ ad k := fun z => h0 (h.2 j k hj hk z)
    rw [show va_up M (ad k) (some (eI (G.2.1 0) (rLen k) (upd (fun j => nI (σ k j)) i (nI v)))) (ad j) = M (ad j) from if_neg hne, h.1 j hj]
    unfold rCell
    by_cases hj0 : j = 0
    · subst hj0
      rw [if_pos rfl, if_pos rfl]
      have : rFs ad σ = rFs ad (st σ k i v) := by
        unfold rFs
        apply List.map_congr_left
        intro x hx
        unfold rVal
        by_cases hxk : x = k
        · subst hxk
          rw [hI]
          rfl
        · rw [st_f hxk]
      rw [this]
    · rw [if_neg hj0, if_neg hj0]
      simp only [st_f h0]
section RRW
variable {p : Program} {l : Launch} {e : Env} {R : Room} {s : State} {m : MethodId} {args : Array Value} {below : List Frame} {meth : Method} {c : Code} {H : Heap} {locs : List Loc} {cells slots : Nat} {Q : State → Prop}
variable {cc : ByteArray} {pc : Nat} {ls : Array Slot} {rest : List Value} {G : mG} {A : Nat → Prop} {ad : Nat → Nat} {M0 : Mem} {σ : Sg} {H0 : Heap} {own : String} {index : Nat} {Ts : List Cond}
theorem rr_geti (hexec : p.tables.exec = Jvm.exec) (hb : c.code = cc) (hts : ∀ w ∈ Ts, w.before args s = true) (hin : ∀ w ∈ u_ws RX5 TX5 26, w ∈ Ts) (hown : s.vm.findClass own = some m.cls) (hK : va_K G.1 vwCl (kT G) s) (hW : rW G ad A H0 M0 σ H locs) (k : Nat) (hk : k < 26) (hI : rI k = true) (hc : (TX5 k).1 = RX5) (hlink : (Cond.fieldLink own index RX5 (TX5 k).2.1 (TX5 k).2.2.1).before args s = true) (hdg : decode cc pc = .ok (.getfield index, 3))
    (kk : W p l e R s m args below meth c H locs cells slots Q (F0 m (pc + 3) ls (.int (nI (σ k 0)) :: rest))) : W p l e R s m args below meth c H locs cells slots Q (F0 m pc ls (.ref (ad 0) :: rest)) := by
  obtain ⟨M, h1, h2, h3⟩ := hW
  exact mr_get hexec hb hts hin hown hK h1 (h2.1 0 (by decide)) (by rfl) k hk hlink (by rw [hc]; exact fun _ h => h) (by show (rFs ad σ)[k]? = _; rw [rFs_get hk]; unfold rVal; rw [if_pos hI]) hdg kk
theorem rr_geta (hexec : p.tables.exec = Jvm.exec) (hb : c.code = cc) (hts : ∀ w ∈ Ts, w.before args s = true) (hin : ∀ w ∈ u_ws RX5 TX5 26, w ∈ Ts) (hown : s.vm.findClass own = some m.cls) (hK : va_K G.1 vwCl (kT G) s) (hW : rW G ad A H0 M0 σ H locs) (k : Nat) (hk : k < 26) (hI : rI k = false) (hc : (TX5 k).1 = RX5) (hlink : (Cond.fieldLink own index RX5 (TX5 k).2.1 (TX5 k).2.2.1).before args s = true) (hdg : decode cc pc = .ok (.getfield index, 3))
    (kk : W p l e R s m args below meth c H locs cells slots Q (F0 m (pc + 3) ls (.ref (ad k) :: rest))) : W p l e R s m args below meth c H locs cells slots Q (F0 m pc ls (.ref (ad 0) :: rest)) := by
  obtain ⟨M, h1, h2, h3⟩ := hW
  exact mr_get hexec hb hts hin hown hK h1 (h2.1 0 (by decide)) (by rfl) k hk hlink (by rw [hc]; exact fun _ h => h) (by show (rFs ad σ)[k]? = _; rw [rFs_get hk]; unfold rVal; rw [if_neg (by rw [hI]; decide)]) hdg kk
theorem rr_puti (hexec : p.tables.exec = Jvm.exec) (hb : c.code = cc) (hts : ∀ w ∈ Ts, w.before args s = true) (hin : ∀ w ∈ u_ws RX5 TX5 26, w ∈ Ts) (hown : s.vm.findClass own = some m.cls) (hK : va_K G.1 vwCl (kT G) s) (hW : rW G ad A H0 M0 σ H locs) (k : Nat) (hk : k < 26) (hI : rI k = true) (hc : (TX5 k).1 = RX5) (hlink : (Cond.fieldLink own index RX5 (TX5 k).2.1 (TX5 k).2.2.1).before args s = true) (hfin : (TX5 k).2.2.2 = false) (hd : parseFieldDescriptor (TX5 k).2.2.1 = some .int) {v : Nat} (hdg : decode cc pc = .ok (.putfield index, 3))
    (kk : ∀ (H1 : Heap) (locs1 : List Loc), rW G ad A H0 M0 (st σ k 0 v) H1 locs1 → W p l e R s m args below meth c H1 locs1 cells slots Q (F0 m (pc + 3) ls rest)) : W p l e R s m args below meth c H locs cells slots Q (F0 m pc ls (.int (nI v) :: .ref (ad 0) :: rest)) := by
  obtain ⟨M, h1, h2, h3⟩ := hW
  refine mr_put hexec hb hts hin tyX5 tyX5_ok nmX5 hown hK h1 (h2.1 0 (by decide)) (by rfl) k hk hlink (by rw [hc]; exact fun _ h => h) hfin hd rfl rfl (by show k < (rFs ad σ).length; rw [rFs_len]; exact hk) (rFs_set hk hI) hdg (fun H1 locs1 hW1 => kk H1 locs1 ⟨_, hW1, h2.puti hk hI, fun q hq => ?_⟩)
  rw [show va_up M (ad 0) (some (.inr (6, rFs ad (st σ k 0 v)))) q = M q from if_neg (hq 0 (by decide))]
  exact h3 q hq
theorem rr_ald (hexec : p.tables.exec = Jvm.exec) (hb : c.code = cc) (hK : va_K G.1 vwCl (kT G) s) (hW : rW G ad A H0 M0 σ H locs) (k : Nat) (hk : rDom k = true) (hI : rI k = false) {j : Nat} (hj : j < rLen k) (hdg : decode cc pc = .ok (.iaload, 1))
    (kk : W p l e R s m args below meth c H locs cells slots Q (F0 m (pc + 1) ls (.int (nI (σ k j)) :: rest))) : W p l e R s m args below meth c H locs cells slots Q (F0 m pc ls (.int (nI j) :: .ref (ad k) :: rest)) := by
  obtain ⟨M, h1, h2, h3⟩ := hW
  have hn : rLen k < 2 ^ 31 := by unfold rLen; repeat' split <;> try omega
  exact mr_iald hexec hb hK h1 0 (by rw [h2.1 k hk, rCell_row hk hI]) (by rfl) rfl hj hn hdg kk
theorem rr_ast (hexec : p.tables.exec = Jvm.exec) (hb : c.code = cc) (hK : va_K G.1 vwCl (kT G) s) (hW : rW G ad A H0 M0 σ H locs) (k : Nat) (hk : rDom k = true) (hI : rI k = false) {j v : Nat} (hj : j < rLen k) (hdg : decode cc pc = .ok (.iastore, 1))
    (kk : ∀ (H1 : Heap) (locs1 : List Loc), rW G ad A H0 M0 (st σ k j v) H1 locs1 → W p l e R s m args below meth c H1 locs1 cells slots Q (F0 m (pc + 1) ls rest)) : W p l e R s m args below meth c H locs cells slots Q (F0 m pc ls (.int (nI v) :: .int (nI j) :: .ref (ad k) :: rest)) := by
  obtain ⟨M, h1, h2, h3⟩ := hW
  have hn : rLen k < 2 ^ 31 := by unfold rLen; repeat' split <;> try omega
  refine mr_iast hexec hb hK h1 0 (by rw [h2.1 k hk, rCell_row hk hI]) (by rfl) rfl hj hn hdg (fun H1 locs1 hW1 => kk H1 locs1 ⟨_, hW1, h2.puta hk hI, fun q hq => ?_⟩)
  rw [show va_up M (ad k) (some (eI (G.2.1 0) (rLen k) (upd (fun j => nI (σ k j)) j (nI v)))) q = M q from if_neg (hq k hk)]
  exact h3 q hq
end RRW
/-- a contract of the reference: over every memory that holds it in the state σ -/
def cRi (l : Launch) (y : MethodName) (ws : List Cond) (L : Nat) (G : mG) (ad : Nat → Nat) (σ : Sg) (as : List Value) (post : Int32 → Sg → Prop) : Prop := ∀ (M : Mem) (sz : Nat), RefAt G ad σ M → cMi l y ws L 0 0 G M sz (.ref (ad 0) :: as) (fun r M' => ∃ σ' : Sg, post r σ' ∧ RefAt G ad σ' M' ∧ mFr ad M M')
def cRv (l : Launch) (y : MethodName) (ws : List Cond) (L : Nat) (G : mG) (ad : Nat → Nat) (σ : Sg) (as : List Value) (post : Sg → Prop) : Prop := ∀ (M : Mem) (sz : Nat), RefAt G ad σ M → cMv l y ws L 0 0 G M sz (.ref (ad 0) :: as) (fun M' => ∃ σ' : Sg, post σ' ∧ RefAt G ad σ' M' ∧ mFr ad M M')
/-- a static method: no cell is touched -/
def cSi (l : Launch) (y : MethodName) (ws : List Cond) (L : Nat) (as : List Value) (v : Nat) : Prop := ∀ (G : mG) (M : Mem) (sz : Nat), cMi l y ws L 0 0 G M sz as (fun r M' => r = nI v ∧ M' = M)
section RRC
variable {p : Program} {l : Launch} {e : Env} {R : Room} {s : State} {m : MethodId} {args : Array Value} {below : List Frame} {meth : Method} {c : Code} {H : Heap} {locs : List Loc} {cells slots mc ms : Nat} {Q : State → Prop}
variable {cc : ByteArray} {pc : Nat} {ls : Array Slot} {rest st0 : List Value} {G : mG} {A : Nat → Prop} {ad : Nat → Nat} {M0 : Mem} {σ : Sg} {sz : Nat}
/-- the reference's start: the memory is put away -/
theorem rW_start {M : Mem} (h : RefAt G ad σ M) (hW : mW G.1 vwCl A s.heap M H locs) : rW G ad A s.heap M σ H locs := ⟨M, hW, h, fun _ _ => rfl⟩
theorem rr_iret {post : Int32 → Sg → Prop} {v : Int32} (hexec : p.tables.exec = Jvm.exec) (hb : c.code = cc) (hr : meth.sig.returnType = some .int) (hlocks : meth.locks = false) (hc : cells ≤ mc) (hs : slots ≤ ms) (hW : rW G ad (mA M0 sz) s.heap M0 σ H locs) (hp : post v σ) (hdg : decode cc pc = .ok (.ireturn, 1)) :
    W p l e R s m args below meth c H locs cells slots (MQ below (va_Qi (fun r M' => ∃ σ' : Sg, post r σ' ∧ RefAt G ad σ' M' ∧ mFr ad M0 M') (mPo G M0 sz) (mA M0 sz)) args s mc ms (mA M0 sz)) (F0 m pc ls [.int v]) := by
  obtain ⟨M, h1, h2, h3⟩ := hW
  exact mr_iret hexec hb hr hlocks hc hs h1 ⟨σ, hp, h2, h3⟩ hdg
theorem rr_zret {post : Int32 → Sg → Prop} {v : Int32} {ty : FieldType} (hexec : p.tables.exec = Jvm.exec) (hb : c.code = cc) (hr : meth.sig.returnType = some ty) (hlocks : meth.locks = false) (hn : narrow ty (.int v) = .int v) (hc : cells ≤ mc) (hs : slots ≤ ms) (hW : rW G ad (mA M0 sz) s.heap M0 σ H locs) (hp : post v σ) (hdg : decode cc pc = .ok (.ireturn, 1)) :
    W p l e R s m args below meth c H locs cells slots (MQ below (va_Qi (fun r M' => ∃ σ' : Sg, post r σ' ∧ RefAt G ad σ' M' ∧ mFr ad M0 M') (mPo G M0 sz) (mA M0 sz)) args s mc ms (mA M0 sz)) (F0 m pc ls [.int v]) := by
  obtain ⟨M, h1, h2, h3⟩ := hW
  exact mr_zret hexec hb hr hlocks hn hc hs h1 ⟨σ, hp, h2, h3⟩ hdg
theorem rr_vret {post : Sg → Prop} (hexec : p.tables.exec = Jvm.exec) (hb : c.code = cc) (hr : meth.sig.returnType = none) (hlocks : meth.locks = false) (hc : cells ≤ mc) (hs : slots ≤ ms) (hW : rW G ad (mA M0 sz) s.heap M0 σ H locs) (hp : post σ) (hdg : decode cc pc = .ok (.return_, 1)) :
    W p l e R s m args below meth c H locs cells slots (MQ below (va_Qv (fun M' => ∃ σ' : Sg, post σ' ∧ RefAt G ad σ' M' ∧ mFr ad M0 M') (mPo G M0 sz) (mA M0 sz)) args s mc ms (mA M0 sz)) (F0 m pc ls []) := by
  obtain ⟨M, h1, h2, h3⟩ := hW
  exact mr_vret hexec hb hr hlocks hc hs h1 ⟨σ, hp, h2, h3⟩ hdg
/-- a call of the reference's own method -/
theorem rk_Vi {post : Int32 → Sg → Prop} {Ts ws : List Cond} {own : String} {index maxL n nL : Nat} {y : MethodName} {bytes : ByteArray} {ret : Option FieldType} {L : Nat} {As : List Value} (S : CallFix p m c cc nL s args Ts own) (hC : cRi l y ws L G ad σ As post) (cw : CallW R s args own RX5 index y bytes maxL ret ws (mRm L 0 0) 0 0 n) (hK : va_K G.1 vwCl (kT G) s) (hE : sE G A s s.heap) (hW : rW G ad A s.heap M0 σ H locs) (hA : ∀ q, s.heap.size ≤ q → A q) (hn : As.length = n) (hsize : ls.size = nL) (hstack : st0 = As.reverse ++ .ref (ad 0) :: rest) (hcat : (rest.map fun v => v.category).sum ≤ 8) (hdg : decode cc pc = .ok (.invokevirtual index, 3)) (hc : cells ≤ R.cells) (hs : slots ≤ R.slots)
    (kk : ∀ (r : Int32) (σ' : Sg) (H1 : Heap) (locs1 : List Loc), post r σ' → rW G ad A s.heap M0 σ' H1 locs1 → W p l e R s m args below meth c H1 locs1 cells slots Q (F0 m (pc + 3) ls (.int r :: rest))) : W p l e R s m args below meth c H locs cells slots Q (F0 m pc ls st0) := by
  obtain ⟨M, h1, h2, h3⟩ := hW
  exact mk_i (va_runV (As := As) (rest := rest) S (hC M H.size h2) cw (mp_V hK hE h1 hA (mW_recv hK h1.1 (h2.1 0 (by decide)) (by rfl))) rfl hn hsize hstack (lv_room hcat) hdg ⟨hc, hs⟩) h1 hA (fun r M' H1 locs1 hp hW1 => by obtain ⟨σ', g1, g2, g3⟩ := hp; exact kk r σ' H1 locs1 g1 ⟨M', hW1, g2, h3.tr g3⟩)
theorem rk_Vv {post : Sg → Prop} {Ts ws : List Cond} {own : String} {index maxL n nL : Nat} {y : MethodName} {bytes : ByteArray} {ret : Option FieldType} {L : Nat} {As : List Value} (S : CallFix p m c cc nL s args Ts own) (hC : cRv l y ws L G ad σ As post) (cw : CallW R s args own RX5 index y bytes maxL ret ws (mRm L 0 0) 0 0 n) (hK : va_K G.1 vwCl (kT G) s) (hE : sE G A s s.heap) (hW : rW G ad A s.heap M0 σ H locs) (hA : ∀ q, s.heap.size ≤ q → A q) (hn : As.length = n) (hsize : ls.size = nL) (hstack : st0 = As.reverse ++ .ref (ad 0) :: rest) (hcat : (rest.map fun v => v.category).sum ≤ 8) (hdg : decode cc pc = .ok (.invokevirtual index, 3)) (hc : cells ≤ R.cells) (hs : slots ≤ R.slots)
    (kk : ∀ (σ' : Sg) (H1 : Heap) (locs1 : List Loc), post σ' → rW G ad A s.heap M0 σ' H1 locs1 → W p l e R s m args below meth c H1 locs1 cells slots Q (F0 m (pc + 3) ls rest)) : W p l e R s m args below meth c H locs cells slots Q (F0 m pc ls st0) := by
  obtain ⟨M, h1, h2, h3⟩ := hW
  exact mk_v (va_runV (As := As) (rest := rest) S (hC M H.size h2) cw (mp_V hK hE h1 hA (mW_recv hK h1.1 (h2.1 0 (by decide)) (by rfl))) rfl hn hsize hstack (lv_room hcat) hdg ⟨hc, hs⟩) h1 hA (fun M' H1 locs1 hp hW1 => by obtain ⟨σ', g1, g2, g3⟩ := hp; exact kk σ' H1 locs1 g1 ⟨M', hW1, g2, h3.tr g3⟩)
/-- a static call that touches nothing -/
theorem rk_S {Ts ws : List Cond} {own : String} {index maxL n nL v : Nat} {y : MethodName} {bytes : ByteArray} {ret : Option FieldType} {L : Nat} {As : List Value} (S : CallFix p m c cc nL s args Ts own) (hC : cSi l y ws L As v) (cw : CallB R s args own index y bytes maxL ret ws (mRm L 0 0) 0 0 n ∧ (Cond.static y).before args s = true) (hK : va_K G.1 vwCl (kT G) s) (hE : sE G A s s.heap) (hW : rW G ad A s.heap M0 σ H locs) (hA : ∀ q, s.heap.size ≤ q → A q) (hn : As.length = n) (hsize : ls.size = nL) (hstack : st0 = As.reverse ++ rest) (hcat : (rest.map fun v => v.category).sum ≤ 8) (hdg : decode cc pc = .ok (.invokestatic index, 3)) (hc : cells ≤ R.cells) (hs : slots ≤ R.slots)
    (kk : ∀ (H1 : Heap) (locs1 : List Loc), rW G ad A s.heap M0 σ H1 locs1 → W p l e R s m args below meth c H1 locs1 cells slots Q (F0 m (pc + 3) ls (.int (nI v) :: rest))) : W p l e R s m args below meth c H locs cells slots Q (F0 m pc ls st0) := by
  obtain ⟨M, h1, h2, h3⟩ := hW
  exact mk_i (va_runS (As := As) (rest := rest) S (hC G M H.size) cw (mp_S hK hE h1 hA) rfl hn hsize hstack (lv_room hcat) hdg ⟨hc, hs⟩) h1 hA (fun r M' H1 locs1 hp hW1 => by obtain ⟨g1, g2⟩ := hp; subst g1; subst g2; exact kk H1 locs1 ⟨_, hW1, h2, h3⟩)
/-- .. in a static method -/
theorem mk_S {M : Mem} {Ts ws : List Cond} {own : String} {index maxL n nL v : Nat} {y : MethodName} {bytes : ByteArray} {ret : Option FieldType} {L : Nat} {As : List Value} (S : CallFix p m c cc nL s args Ts own) (hC : cSi l y ws L As v) (cw : CallB R s args own index y bytes maxL ret ws (mRm L 0 0) 0 0 n ∧ (Cond.static y).before args s = true) (hK : va_K G.1 vwCl (kT G) s) (hE : sE G A s s.heap) (hW : mW G.1 vwCl A s.heap M H locs) (hA : ∀ q, s.heap.size ≤ q → A q) (hn : As.length = n) (hsize : ls.size = nL) (hstack : st0 = As.reverse ++ rest) (hcat : (rest.map fun v => v.category).sum ≤ 8) (hdg : decode cc pc = .ok (.invokestatic index, 3)) (hc : cells ≤ R.cells) (hs : slots ≤ R.slots)
    (kk : ∀ (H1 : Heap) (locs1 : List Loc), mW G.1 vwCl A s.heap M H1 locs1 → W p l e R s m args below meth c H1 locs1 cells slots Q (F0 m (pc + 3) ls (.int (nI v) :: rest))) : W p l e R s m args below meth c H locs cells slots Q (F0 m pc ls st0) :=
  mk_i (va_runS (As := As) (rest := rest) S (hC G M H.size) cw (mp_S hK hE hW hA) rfl hn hsize hstack (lv_room hcat) hdg ⟨hc, hs⟩) hW hA (fun r M' H1 locs1 hp hW1 => by obtain ⟨g1, g2⟩ := hp; subst g1; subst g2; exact kk H1 locs1 hW1)
end RRC
