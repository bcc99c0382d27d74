/-! CONTRACTS OVER MEMORIES (mine): the ghost numbers G (classes' places, arrays' classes, ArrayList's empty row, Object[]'s mirror), the static surroundings, the forms of contracts. -/
abbrev mG : Type := va_G × (Nat → ClassId) × (Nat → Nat)
abbrev kT (G : mG) : List (ClassId × FieldType) := [(G.2.1 0, .int), (G.2.1 1, .char), (G.2.1 2, .object "java/lang/Object"), (G.2.1 3, .long)]
def sTx : List (Nat × String) := [(32, "there are 8 ships"), (69, "the draft has 6 calls"), (74, "the call before leaves on this day or later"), (82, "the ship has 20 routes"), (99, "there are 40 letters"), (134, "today would be above 1000"), (177, "not so many letters are dead"), (182, "the place is below 0"), (191, "there is no such char"), (200, "not so many ports are written"), (206, "there is no such port"), (208, "there is no such ship"), (210, "there is no such letter"), (212, "an argument is out of its range")]
def sLn : List (String × Nat × MethodName) := [(RX4, 39, yX3_init), (RX3, 23, yX2_init), (RX3, 51, yX4_wordDays), (RX1, 11, yX0_init), (RX2, 25, yX4_mailDays), (RX1, 44, yX4_mailDays)]
def sCa : List String := [RX1, RX2, RX3]
def sXm : List MethodName := [⟨"java/lang/RuntimeException", "<init>", "(Ljava/lang/String;)V"⟩, ⟨"java/lang/Exception", "<init>", "(Ljava/lang/String;)V"⟩, ⟨"java/lang/Throwable", "<init>", "(Ljava/lang/String;)V"⟩]
def sXc : List String := ["java/lang/IndexOutOfBoundsException", "java/lang/IllegalArgumentException", "java/lang/IllegalStateException"]
/-- what stands around the system: ArrayList's empty row, Throwable's statics, the texts, links between nest mates -/
def sE (G : mG) (A : Nat → Prop) (U : State) (H : Heap) : Prop :=
  (vx_Zq Bundle.tN "UNASSIGNED_STACK" Bundle.steD A U H ∧ vx_Zq Bundle.tN "SUPPRESSED_SENTINEL" Bundle.listD A U H ∧ va_Z "java/util/ArrayList" "DEFAULTCAPACITY_EMPTY_ELEMENTDATA" "[Ljava/lang/Object;" (.ref (G.2.2 0)) A U H ∧ va_T (.object "java/lang/Object") (G.2.2 0) 0 (fun _ => .null) A U H) ∧
  (∀ q ∈ sTx, ∃ a : Nat, vk_R RX4 q.1 q.2 a U) ∧ (∀ q ∈ sLn, va_Nw (.methodLinkNest q.1 q.2.1 q.2.2 RX4) U) ∧ (∀ q ∈ sCa, va_Nw (.castable q "java/lang/Object") U) ∧ va_AO "java/lang/Object" U ∧ va_Dc U ∧ va_Mi "[Ljava/lang/Object;" (G.2.2 1) U ∧ (∀ q ∈ sXm, va_Nw (.declares q) U) ∧ (∀ q ∈ sXc, va_Nw (.castable q q) U)
theorem sE_warm {G : mG} {A : Nat → Prop} {s U : State} {H : Heap} (hW : s.WarmedH U.vm) (h : sE G A s H) : sE G A U H := by
  obtain ⟨⟨h1, h2, h3, h4⟩, h5, h6, h7, h8, h9, h10, h11, h12⟩ := h
  exact ⟨⟨h1.moved hW.alike, h2.moved hW.alike, h3.moved hW.alike, h4.moved hW.alike⟩, fun q hq => by obtain ⟨a, ha⟩ := h5 q hq; exact ⟨a, ha.warm hW⟩, fun q hq => va_Nw.warmM hW (h6 q hq), fun q hq => va_Nw.warmC hW (h7 q hq), h8.moved hW.alike, h9.moved hW.alike, h10.moved hW.alike, fun q hq => va_Nw.warmD hW (h11 q hq), fun q hq => va_Nw.warmC hW (h12 q hq)⟩
theorem sE_kept {G : mG} {A : Nat → Prop} {U : State} {H H1 : Heap} (h : sE G A U H) (hq : ∀ a : Nat, a < H.size → ¬ A a → H1[a]? = H[a]?) : sE G A U H1 := by
  obtain ⟨⟨h1, h2, h3, h4⟩, h5⟩ := h
  exact ⟨⟨h1.kept hq, h2.kept hq, h3.kept hq, h4.kept hq⟩, h5⟩
theorem sE_narrow {G : mG} {A B : Nat → Prop} {U : State} {H : Heap} (h : sE G A U H) (hAB : ∀ q, B q → A q) : sE G B U H := by
  obtain ⟨⟨h1, h2, h3, h4⟩, h5⟩ := h
  exact ⟨⟨h1.narrow hAB, h2.narrow hAB, h3.narrow hAB, h4.narrow hAB⟩, h5⟩
theorem sE_calling {G : mG} {A : Nat → Prop} {U : State} {H : Heap} (a : Array Value) (g : JFrame) (mk : MethodId) (h : sE G A U H) : sE G A (U.calling g mk a) H := sE_warm (s := U) (U := U.calling g mk a) (State.WarmedH.refl U) h
/-- a method's start: M in a heap of sz cells -/
def mPre (G : mG) (M : Mem) (sz : Nat) (av : List Value) : Array Value → State → Prop := va_Pc av (fun U => U.heap.size = sz ∧ mP G.1 vwCl M U.heap ∧ va_K G.1 vwCl (kT G) U ∧ sE G (mA M sz) U U.heap)
def mPo (G : mG) (M : Mem) (sz : Nat) (M' : Mem) (t : State) : Prop := mP G.1 vwCl M' t.heap ∧ ∀ (a : Nat) (e : va_E), M' a = some e → mA M sz a
theorem mPre_blind {G : mG} {M : Mem} {sz : Nat} {av : List Value} : FrameBlind (mPre G M sz av) := by
  intro a U g mk q
  obtain ⟨q0, q1, qP, qK, qE⟩ := q
  exact ⟨q0, q1, qP, va_K.moved (u := U) (U := U.calling g mk a) (Vm.Alike.refl U.vm) qK, sE_calling a g mk qE⟩
abbrev mRm (L mc ms : Nat) : Room := { frames := L, cells := mc, slots := ms, locals := 40 * L }
/-- contracts: an int, nothing, a reference or null comes back; 'L' counts the frames that it may take -/
def cMi (l : Launch) (y : MethodName) (ws : List Cond) (L mc ms : Nat) (G : mG) (M : Mem) (sz : Nat) (av : List Value) (post : Int32 → Mem → Prop) : Prop := Met l y ws (mRm L mc ms) (mPre G M sz av) (va_Qi post (mPo G M sz) (mA M sz)) mc ms (mA M sz)
def cMv (l : Launch) (y : MethodName) (ws : List Cond) (L mc ms : Nat) (G : mG) (M : Mem) (sz : Nat) (av : List Value) (post : Mem → Prop) : Prop := Met l y ws (mRm L mc ms) (mPre G M sz av) (va_Qv post (mPo G M sz) (mA M sz)) mc ms (mA M sz)
def cMq (l : Launch) (y : MethodName) (ws : List Cond) (L mc ms : Nat) (G : mG) (M : Mem) (sz : Nat) (av : List Value) (post : Option Nat → Mem → Prop) : Prop := Met l y ws (mRm L mc ms) (mPre G M sz av) (va_Qq post (mPo G M sz) (mA M sz)) mc ms (mA M sz)
/-- .. or an exception whose class is one of xp, and M is as it was -/
def mXc (G : mG) (M : Mem) (sz : Nat) (xp : String → Prop) : String → State → State → Prop := vx_X (fun _ : Unit => True) (fun E _ t => xp E ∧ mPo G M sz M t) (mA M sz)
def cXi (l : Launch) (y : MethodName) (ws : List Cond) (L mc ms : Nat) (G : mG) (M : Mem) (sz : Nat) (av : List Value) (post : Int32 → Mem → Prop) (xp : String → Prop) : Prop := vx_Met l y ws (mRm L mc ms) (mPre G M sz av) (va_Qi post (mPo G M sz) (mA M sz)) (mXc G M sz xp) mc ms (mA M sz)
def cXv (l : Launch) (y : MethodName) (ws : List Cond) (L mc ms : Nat) (G : mG) (M : Mem) (sz : Nat) (av : List Value) (post : Mem → Prop) (xp : String → Prop) : Prop := vx_Met l y ws (mRm L mc ms) (mPre G M sz av) (va_Qv post (mPo G M sz) (mA M sz)) (mXc G M sz xp) mc ms (mA M sz)
section MOP
variable {l : Launch} {y : MethodName} {ws ws' : List Cond} {L mc ms : Nat} {G : mG} {M : Mem} {sz : Nat} {av : List Value} {cc : ByteArray} {maxL : Nat} {ret : Option FieldType}
/-- a body's start: what is known there -/
def mSt (l : Launch) (L mc ms : Nat) (G : mG) (M : Mem) (sz : Nat) (av : List Value) (y : MethodName) (ws : List Cond) (cc : ByteArray) (maxL : Nat) (ret : Option FieldType) (Q : List Frame → Array Value → State → State → Prop) : Prop :=
  ∀ (p : Program) (e : Env) (s : State) (m : MethodId) (below : List Frame) (meth : Method) (c : Code) (ls : Array Slot),
    p.tables.exec = Jvm.exec → c.code = cc → meth.sig.returnType = ret → c.maxLocals = maxL → s.vm.findClass y.cls = some m.cls → meth.locks = false → meth.name = y.name → (∀ w ∈ ws, w.before av.toArray s = true) → va_K G.1 vwCl (kT G) s → s.heap.size = sz → sE G (mA M sz) s s.heap → mW G.1 vwCl (mA M sz) s.heap M s.heap [] → lv_has ls maxL (lv_args 0 av) →
    W p l e (mRm L mc ms) s m av.toArray below meth c s.heap [] 0 0 (Q below av.toArray s) (F0 m 0 ls [])
def mStX (l : Launch) (L mc ms : Nat) (G : mG) (M : Mem) (sz : Nat) (av : List Value) (y : MethodName) (ws : List Cond) (cc : ByteArray) (maxL : Nat) (ret : Option FieldType) (Q : List Frame → Array Value → State → State → Prop) : Prop :=
  ∀ (p : Program) (e : Env) (s : State) (m : MethodId) (below : List Frame) (meth : Method) (c : Code) (ls : Array Slot),
    p.tables.exec = Jvm.exec → c.code = cc → meth.sig.returnType = ret → c.maxLocals = maxL → s.vm.findClass y.cls = some m.cls → meth.locks = false → meth.name = y.name → (∀ w ∈ ws, w.before av.toArray s = true) → va_K G.1 vwCl (kT G) s → s.heap.size = sz → sE G (mA M sz) s s.heap → mW G.1 vwCl (mA M sz) s.heap M s.heap [] → lv_has ls maxL (lv_args 0 av) → (∀ x ∈ c.exceptionTable.toList, False) →
    W p l e (mRm L mc ms) s m av.toArray below meth c s.heap [] 0 0 (Q below av.toArray s) (F0 m 0 ls [])
theorem m_start {Qc : Array Value → State → Outcome → State → Prop} {fr : Addr → Prop} (cc : ByteArray) (maxL : Nat) (ret : Option FieldType) (hy : plainName y.cls = true) (hw : ws = Cond.code y cc maxL ret :: ws') (hn : (lg_sl av).length ≤ maxL)
    (hb : mSt l L mc ms G M sz av y ws cc maxL ret (fun below args s => MQ below Qc args s mc ms fr)) : Met l y ws (mRm L mc ms) (mPre G M sz av) Qc mc ms fr := by
  refine Met.ofW (cc := cc) (maxL := maxL) (ret := ret) hy hw ?_
  intro p e s m args below meth c s₁ B hml hv
  obtain ⟨rfl, hsz, hP, hK, hE⟩ := hv
  have hl := lv_entry av (n := maxL) hn
  rw [lg_entry_eq]
  exact hb p e s m below meth c _ B.exec B.bytes B.returns hml (findClass_of_methodNamed B.named) B.notSynchronized (name_of_methodNamed B.named B.method).1 (atoms_spec (ws := ws) B.pre) hK hsz hE ⟨hP, va_S.rf, fun a e h => Or.inl ⟨e, h⟩⟩ hl
theorem m_startX {Qc : Array Value → State → Outcome → State → Prop} {XC : String → State → State → Prop} {fr : Addr → Prop} (cc : ByteArray) (maxL : Nat) (ret : Option FieldType) (hy : plainName y.cls = true) (hw : ws = Cond.code y cc maxL ret :: ws') (hn : (lg_sl av).length ≤ maxL)
    (hb : mStX l L mc ms G M sz av y ws cc maxL ret (fun below args s => vx_MQ below Qc XC args s mc ms fr)) : vx_Met l y ws (mRm L mc ms) (mPre G M sz av) Qc XC mc ms fr := by
  refine vx_ofW (cc := cc) (maxL := maxL) (ret := ret) hy hw ?_
  intro p e s m args below meth c s₁ B hml ht hv
  obtain ⟨rfl, hsz, hP, hK, hE⟩ := hv
  have hl := lv_entry av (n := maxL) hn
  rw [lg_entry_eq]
  exact hb p e s m below meth c _ B.exec B.bytes B.returns hml (findClass_of_methodNamed B.named) B.notSynchronized (name_of_methodNamed B.named B.method).1 (atoms_spec (ws := ws) B.pre) hK hsz hE ⟨hP, va_S.rf, fun a e h => Or.inl ⟨e, h⟩⟩ hl ht
end MOP
section MRT
variable {p : Program} {l : Launch} {e : Env} {R : Room} {s : State} {m : MethodId} {args : Array Value} {below : List Frame} {meth : Method} {c : Code} {H : Heap} {locs : List Loc} {cells slots mc ms : Nat} {Q : State → Prop}
variable {cc : ByteArray} {pc : Nat} {ls : Array Slot} {rest st0 : List Value} {G : mG} {A : Nat → Prop} {M M0 : Mem} {sz : Nat}
theorem mr_iret {post : Int32 → Mem → Prop} {v : Int32} (hexec : p.tables.exec = Jvm.exec) (hb : c.code = cc) (hr : meth.sig.returnType = some .int) (hlocks : meth.locks = false) (hc : cells ≤ mc) (hs : slots ≤ ms) (hW : mW G.1 vwCl (mA M0 sz) s.heap M H locs) (hp : post v M) (hdg : decode cc pc = .ok (.ireturn, 1)) :
    W p l e R s m args below meth c H locs cells slots (MQ below (va_Qi post (mPo G M0 sz) (mA M0 sz)) args s mc ms (mA M0 sz)) (F0 m pc ls [.int v]) :=
  W.widen hc hs (W.iret hexec hb hr (fun t ht _ => ⟨⟨v, M, rfl, hp, by rw [ht]; exact hW.1, hW.2.2⟩, hW.2.1.F ht⟩) hW.2.1.2.2 hdg hlocks)
theorem mr_zret {post : Int32 → Mem → Prop} {v : Int32} {ty : FieldType} (hexec : p.tables.exec = Jvm.exec) (hb : c.code = cc) (hr : meth.sig.returnType = some ty) (hlocks : meth.locks = false) (hn : narrow ty (.int v) = .int v) (hc : cells ≤ mc) (hs : slots ≤ ms) (hW : mW G.1 vwCl (mA M0 sz) s.heap M H locs) (hp : post v M) (hdg : decode cc pc = .ok (.ireturn, 1)) :
    W p l e R s m args below meth c H locs cells slots (MQ below (va_Qi post (mPo G M0 sz) (mA M0 sz)) args s mc ms (mA M0 sz)) (F0 m pc ls [.int v]) :=
  W.widen hc hs (W.zret hexec hb hr hn (fun t ht _ => ⟨⟨v, M, rfl, hp, by rw [ht]; exact hW.1, hW.2.2⟩, hW.2.1.F ht⟩) hW.2.1.2.2 hdg hlocks)
theorem mr_vret {post : Mem → Prop} (hexec : p.tables.exec = Jvm.exec) (hb : c.code = cc) (hr : meth.sig.returnType = none) (hlocks : meth.locks = false) (hc : cells ≤ mc) (hs : slots ≤ ms) (hW : mW G.1 vwCl (mA M0 sz) s.heap M H locs) (hp : post M) (hdg : decode cc pc = .ok (.return_, 1)) :
    W p l e R s m args below meth c H locs cells slots (MQ below (va_Qv post (mPo G M0 sz) (mA M0 sz)) args s mc ms (mA M0 sz)) (F0 m pc ls []) :=
  W.widen hc hs (W.vret hexec hb hr (fun t ht _ => ⟨⟨M, rfl, hp, by rw [ht]; exact hW.1, hW.2.2⟩, hW.2.1.F ht⟩) hW.2.1.2.2 hdg hlocks)
theorem mr_aret {post : Option Nat → Mem → Prop} {v : Option Nat} {rt : FieldType} (hexec : p.tables.exec = Jvm.exec) (hb : c.code = cc) (hr : meth.sig.returnType = some rt) (hrt : (∃ n, rt = .object n) ∨ ∃ t, rt = .array t) (hlocks : meth.locks = false) (hc : cells ≤ mc) (hs : slots ≤ ms) (hW : mW G.1 vwCl (mA M0 sz) s.heap M H locs) (hp : post v M) (hdg : decode cc pc = .ok (.areturn, 1)) :
    W p l e R s m args below meth c H locs cells slots (MQ below (va_Qq post (mPo G M0 sz) (mA M0 sz)) args s mc ms (mA M0 sz)) (F0 m pc ls [va_rf v]) :=
  W.widen hc hs (W.aret hexec hb hr hrt (va_rf_or v) (fun t ht _ => ⟨⟨v, M, rfl, hp, by rw [ht]; exact hW.1, hW.2.2⟩, hW.2.1.F ht⟩) hW.2.1.2.2 hdg hlocks)
theorem mA_in (hW : mW G.1 vwCl A s.heap M H locs) (hA : ∀ q, s.heap.size ≤ q → A q) : ∀ q, mA M H.size q → A q := by
  intro q h
  rcases h with ⟨x, h⟩ | h
  · exact hW.2.2 q x h
  · exact hA q (Nat.le_trans hW.2.1.1 h)
theorem mA_A (hsz : s.heap.size = sz) : ∀ q, s.heap.size ≤ q → mA M sz q := fun q h => Or.inr (hsz ▸ h)
/-- the start of a call: the callee's premises -/
theorem mp_pre (hK : va_K G.1 vwCl (kT G) s) (hE : sE G A s s.heap) (hW : mW G.1 vwCl A s.heap M H locs) (hA : ∀ q, s.heap.size ≤ q → A q) (av : List Value) : ∀ U : State, U.heap = H → s.WarmedH U.vm → mPre G M H.size av av.toArray U :=
  fun U hU hWm => ⟨rfl, by rw [hU], by rw [hU]; exact hW.1, va_K.moved hWm.alike hK, sE_warm hWm (by rw [hU]; exact sE_narrow (sE_kept hE hW.2.1.2.1) (mA_in hW hA))⟩
theorem mp_V (hK : va_K G.1 vwCl (kT G) s) (hE : sE G A s s.heap) (hW : mW G.1 vwCl A s.heap M H locs) (hA : ∀ q, s.heap.size ≤ q → A q) {C : String} {b : Nat} {As : List Value} (hr : ∃ cell : Cell, H[b]? = some cell ∧ cell.vm.isStatics = false ∧ s.vm.findClass C = some cell.cls) : PreV s H C b (mPre G M H.size (.ref b :: As)) As :=
  ⟨mPre_blind, hr, mp_pre hK hE hW hA (.ref b :: As)⟩
theorem mp_S (hK : va_K G.1 vwCl (kT G) s) (hE : sE G A s s.heap) (hW : mW G.1 vwCl A s.heap M H locs) (hA : ∀ q, s.heap.size ≤ q → A q) {As : List Value} : PreS s H (mPre G M H.size As) As :=
  ⟨mPre_blind, mp_pre hK hE hW hA As⟩
theorem mk_back (hW : mW G.1 vwCl A s.heap M H locs) (hA : ∀ q, s.heap.size ≤ q → A q) {M' : Mem} {t : State} {H1 : Heap} {locs1 : List Loc} (ht : t.heap = H1) (hB : mPo G M H.size M' t) (hS1 : va_S A s.heap H1 locs1) : mW G.1 vwCl A s.heap M' H1 locs1 :=
  ⟨by rw [← ht]; exact hB.1, hS1, fun a x h => mA_in hW hA a (hB.2 a x h)⟩
theorem mk_i {post : Int32 → Mem → Prop} {a : Array Value} (hr : va_Run p l e R s m args below meth c H locs cells slots mc ms (F0 m pc ls st0) rest (va_Qi post (mPo G M H.size) (mA M H.size) a) (mA M H.size)) (hW : mW G.1 vwCl A s.heap M H locs) (hA : ∀ q, s.heap.size ≤ q → A q)
    (kk : ∀ (r : Int32) (M' : Mem) (H1 : Heap) (locs1 : List Loc), post r M' → mW G.1 vwCl A s.heap M' H1 locs1 → W p l e R s m args below meth c H1 locs1 (cells + mc) (slots + ms) Q (F0 m (pc + 3) ls (.int r :: rest))) : W p l e R s m args below meth c H locs cells slots Q (F0 m pc ls st0) :=
  va_calli hr hW.2.1 (fun q _ h => mA_in hW hA q h) (mA_in hW hA) (fun r M' t H1 locs1 ht _ hp hB _ _ hS1 => kk r M' H1 locs1 hp (mk_back hW hA ht hB hS1))
theorem mk_v {post : Mem → Prop} {a : Array Value} (hr : va_Run p l e R s m args below meth c H locs cells slots mc ms (F0 m pc ls st0) rest (va_Qv post (mPo G M H.size) (mA M H.size) a) (mA M H.size)) (hW : mW G.1 vwCl A s.heap M H locs) (hA : ∀ q, s.heap.size ≤ q → A q)
    (kk : ∀ (M' : Mem) (H1 : Heap) (locs1 : List Loc), post M' → mW G.1 vwCl A s.heap M' H1 locs1 → W p l e R s m args below meth c H1 locs1 (cells + mc) (slots + ms) Q (F0 m (pc + 3) ls rest)) : W p l e R s m args below meth c H locs cells slots Q (F0 m pc ls st0) :=
  va_callv hr hW.2.1 (fun q _ h => mA_in hW hA q h) (mA_in hW hA) (fun M' t H1 locs1 ht _ hp hB _ _ hS1 => kk M' H1 locs1 hp (mk_back hW hA ht hB hS1))
theorem mk_q {post : Option Nat → Mem → Prop} {a : Array Value} (hr : va_Run p l e R s m args below meth c H locs cells slots mc ms (F0 m pc ls st0) rest (va_Qq post (mPo G M H.size) (mA M H.size) a) (mA M H.size)) (hW : mW G.1 vwCl A s.heap M H locs) (hA : ∀ q, s.heap.size ≤ q → A q)
    (kk : ∀ (r : Option Nat) (M' : Mem) (H1 : Heap) (locs1 : List Loc), post r M' → mW G.1 vwCl A s.heap M' H1 locs1 → W p l e R s m args below meth c H1 locs1 (cells + mc) (slots + ms) Q (F0 m (pc + 3) ls (va_rf r :: rest))) : W p l e R s m args below meth c H locs cells slots Q (F0 m pc ls st0) :=
  va_callq hr hW.2.1 (fun q _ h => mA_in hW hA q h) (mA_in hW hA) (fun r M' t H1 locs1 ht _ hp hB _ _ hS1 => kk r M' H1 locs1 hp (mk_back hW hA ht hB hS1))
/-- an exception comes out of a call in a method without handlers, over the memory of its start: it goes on -/
theorem mx_pass {XE : String → Prop} {Qc : Array Value → State → Outcome → State → Prop} {E : String} {ce : Cell} {q : Nat} {t : State} {H1 : Heap} {locs1 : List Loc} {mc0 ms0 : Nat} (hsz : s.heap.size = sz) (htab : ∀ x ∈ c.exceptionTable.toList, False) (hlocks : meth.locks = false) (hW : mW G.1 vwCl (mA M sz) s.heap M H locs) (hx : XE E) (ht : t.heap = H1) (hB : mPo G M H.size M t) (hS1 : va_S (mA M sz) s.heap H1 locs1) (hcell : H1[q]? = some ce) (hv : ce.vm = .none) (hcl : s.vm.findClass E = some ce.cls) (hc : cells ≤ mc0) (hs : slots ≤ ms0) :
    vx_W p l e R s m args below meth c H1 locs1 cells slots (vx_MQ below Qc (mXc G M sz XE) args s mc0 ms0 (mA M sz)) (F0 m pc ls rest) q := by
  have hW1 := mk_back hW (mA_A hsz) ht hB hS1
  exact vx_out (fun x h => (htab x h).elim) hlocks hcell hv hcl (fun t2 ht2 _ => ⟨(), trivial, ⟨hx, by rw [ht2]; exact hW1.1, hW1.2.2⟩, hW1.2.1.F ht2⟩) hW1.2.1.2.2 hc hs
theorem mx_v {post : Mem → Prop} {a : Array Value} {xp xp0 : String → Prop} {Qc : Array Value → State → Outcome → State → Prop} {mc0 ms0 : Nat} (hr : vx_Run p l e R s m args below meth c H locs cells slots mc ms (F0 m pc ls st0) rest (va_Qv post (mPo G M H.size) (mA M H.size) a) (mXc G M H.size xp) (mA M H.size)) (hW : mW G.1 vwCl (mA M sz) s.heap M H locs) (hsz : s.heap.size = sz) (htab : ∀ x ∈ c.exceptionTable.toList, False) (hlocks : meth.locks = false) (hxp : ∀ E, xp E → xp0 E) (hc : cells + mc ≤ mc0) (hs : slots + ms ≤ ms0)
    (kk : ∀ (M' : Mem) (H1 : Heap) (locs1 : List Loc), post M' → mW G.1 vwCl (mA M sz) s.heap M' H1 locs1 → W p l e R s m args below meth c H1 locs1 (cells + mc) (slots + ms) (vx_MQ below Qc (mXc G M sz xp0) args s mc0 ms0 (mA M sz)) (F0 m (pc + 3) ls rest)) : W p l e R s m args below meth c H locs cells slots (vx_MQ below Qc (mXc G M sz xp0) args s mc0 ms0 (mA M sz)) (F0 m pc ls st0) :=
  vx_callv hr hW.2.1 (fun q _ h => mA_in hW (mA_A hsz) q h) (mA_in hW (mA_A hsz)) (fun q _ h => mA_in hW (mA_A hsz) q h)
    (fun E ce q9 u t H1 locs1 ht _ _ hB _ _ hS1 hcell hv hcl => mx_pass hsz htab hlocks hW (hxp E hB.1) ht hB.2 hS1 hcell hv hcl hc hs)
    (fun M' t H1 locs1 ht _ hp hB _ _ hS1 => kk M' H1 locs1 hp (mk_back hW (mA_A hsz) ht hB hS1))
end MRT
