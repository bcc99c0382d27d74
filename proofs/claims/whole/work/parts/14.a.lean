/-! THE LAW: arrays of longs, what lies beside the picture, methods that catch (mine) -/
abbrev eJ (cA : ClassId) (n : Nat) (f : Nat → Int64) : va_E := .inl (cA, n, .inr (.inl f))
section JRW
variable {p : Program} {l : Launch} {e : Env} {R : Room} {s : State} {m : MethodId} {args : Array Value} {below : List Frame} {meth : Method} {c : Code} {H : Heap} {locs : List Loc} {cells slots : Nat} {Q : State → Prop}
variable {cc : ByteArray} {pc : Nat} {ls : Array Slot} {rest : List Value} {D : va_G} {cl : List vw_C} {A : Nat → Prop} {a : Nat} {tys : List (ClassId × FieldType)} {M : Mem} {H0 : Heap}
theorem mr_jald (hexec : p.tables.exec = Jvm.exec) (hb : c.code = cc) (hK : va_K D cl tys s) (hW : mW D cl A H0 M H locs) (t0 : Nat) {cA : ClassId} {n : Nat} {f : Nat → Int64} (hM : M a = some (eJ cA n f)) (ht : tys[t0]? = some (cA, .long)) {i : Int32} {j : Nat} (hi : i = nI j) (hj : j < n) (hn : n < 2 ^ 31) (hdg : decode cc pc = .ok (.laload, 1))
    (kk : W p l e R s m args below meth c H locs cells slots Q (F0 m (pc + 1) ls (.long (f j) :: rest))) : W p l e R s m args below meth c H locs cells slots Q (F0 m pc ls (.int i :: .ref a :: rest)) := by
  obtain ⟨ws, hP, hD, hS, hI⟩ := mW_open hW
  obtain ⟨k0, hk0⟩ := (hI _ _).mp hM
  subst hi
  refine va_lald hexec hb hK hP k0 t0 hk0 ht (vp_in_nI hj hn) hdg ?_
  rw [nI_clamp (Nat.lt_trans hj hn)]
  exact kk
theorem mr_jast (hexec : p.tables.exec = Jvm.exec) (hb : c.code = cc) (hK : va_K D cl tys s) (hW : mW D cl A H0 M H locs) (t0 : Nat) {cA : ClassId} {n : Nat} {f : Nat → Int64} (hM : M a = some (eJ cA n f)) (ht : tys[t0]? = some (cA, .long)) {i : Int32} {x : Int64} {j : Nat} (hi : i = nI j) (hj : j < n) (hn : n < 2 ^ 31) (hdg : decode cc pc = .ok (.lastore, 1))
    (kk : ∀ (H1 : Heap) (locs1 : List Loc), mW D cl A H0 (va_up M a (some (eJ cA n (vp_updL f j x)))) H1 locs1 → W p l e R s m args below meth c H1 locs1 cells slots Q (F0 m (pc + 1) ls rest)) : W p l e R s m args below meth c H locs cells slots Q (F0 m pc ls (.long x :: .int i :: .ref a :: rest)) := by
  obtain ⟨ws, hP, hD, hS, hI⟩ := mW_open hW
  obtain ⟨k0, hk0⟩ := (hI _ _).mp hM
  subst hi
  refine va_last hexec hb hK hP hD hS k0 t0 hk0 ht (vp_in_nI hj hn) hdg (fun H1 locs1 hP1 hD1 hS1 => ?_)
  rw [nI_clamp (Nat.lt_trans hj hn)] at hP1 hD1
  exact kk H1 locs1 (mW_set hD hI hk0 hP1 hD1 hS1)
theorem mr_newJ (hexec : p.tables.exec = Jvm.exec) (hb : c.code = cc) (harr : (Cond.arrayClass .long).before args s = true) (hK : va_K D cl tys s) (hW : mW D cl A H0 M H locs) (hA : ∀ q, H0.size ≤ q → A q) (t0 : Nat) {cA : ClassId} (ht : tys[t0]? = some (cA, .long))
    (hcells : cells + 1 ≤ R.cells) (hslots : slots + 1 ≤ R.slots) (hdg : decode cc pc = .ok (.newarray .long, 2))
    (kk : ∀ (q : Nat) (H1 : Heap), M q = none → mW D cl A H0 (va_up M q (some (eJ cA 1 (fun _ => 0)))) H1 locs → W p l e R s m args below meth c H1 locs (cells + 1) (slots + 1) Q (F0 m (pc + 2) ls (.ref q :: rest))) : W p l e R s m args below meth c H locs cells slots Q (F0 m pc ls (.int (nI 1) :: rest)) :=
  mr_newa (atype := .long) (ty := .long) (a0 := (1, .inr (.inl (fun _ => 0)))) (N := 1) hexec hb harr rfl hK hW hA t0 ht (fun cA => rfl) rfl (by decide) (by decide) hcells hslots hdg kk
end JRW
/-- a cell beside the picture changes -/
theorem Rp.putN {G : mG} {N : Mem} {Γ : Adr} {ς : Sg} {M : Mem} {o : Nat} {e0 e : va_E} (h : Rp G N Γ ς M) (hN : N o = some e0) : Rp G (va_up N o (some e)) Γ ς (va_up M o (some e)) := by
  obtain ⟨Λ, cp, h0, g1, g2, g3, g4⟩ := h
  have ho := (g4 o e0 hN).2
  refine ⟨Λ, cp, h0, fun k i hd => ?_, g2, g3, fun q e' hq => ?_⟩
  · obtain ⟨x, p1, p2⟩ := g1 k i hd
    exact ⟨x, (if_neg (ho k i hd)).trans p1, p2⟩
  · by_cases z : q = o
    · subst z
      have : e = e' := Option.some.inj ((if_pos rfl).symm.trans hq)
      subst this
      exact ⟨if_pos rfl, ho⟩
    · have hq : N q = some e' := (if_neg z).symm.trans hq
      exact ⟨(if_neg z).trans (g4 q e' hq).1, (g4 q e' hq).2⟩
/-- what lies beside is told by its places alone -/
def mBe (N M : Mem) : Mem := fun q => match N q with
  | none => none
  | some _ => M q
theorem mBe_s {N M : Mem} {q : Nat} {e : va_E} (h : N q = some e) : mBe N M q = M q := by unfold mBe; rw [h]
theorem mBe_d {N M : Mem} {q : Nat} {e : va_E} (h : mBe N M q = some e) : M q = some e ∧ ∃ e0, N q = some e0 := by
  unfold mBe at h
  cases hn : N q with
  | none => rw [hn] at h; cases h
  | some e0 => rw [hn] at h; exact ⟨h, e0, rfl⟩
theorem Rp.beside {G : mG} {N : Mem} {Γ : Adr} {ς : Sg} {M M' : Mem} (h : Rp G N Γ ς M) (hM : ∀ q, N q = none → M' q = M q) : Rp G (mBe N M') Γ ς M' := by
  obtain ⟨Λ, cp, h0, g1, g2, g3, g4⟩ := h
  have hne : ∀ k i, Dm ς cp k i → N (Λ k i) = none := fun k i hd => by
    cases hn : N (Λ k i) with
    | none => rfl
    | some e0 => exact absurd rfl ((g4 _ _ hn).2 k i hd)
  refine ⟨Λ, cp, h0, fun k i hd => ?_, g2, g3, fun q e hq => ?_⟩
  · obtain ⟨x, p1, p2⟩ := g1 k i hd
    exact ⟨x, (hM _ (hne k i hd)).trans p1, p2⟩
  · obtain ⟨a, e0, b⟩ := mBe_d hq
    exact ⟨a, (g4 q e0 b).2⟩
def sXn : List (String × String) := [("java/lang/IllegalArgumentException", "java/lang/IndexOutOfBoundsException"), ("java/lang/IllegalStateException", "java/lang/IndexOutOfBoundsException"), ("java/lang/IllegalStateException", "java/lang/IllegalArgumentException")]
def wPre (G : mG) (M : Mem) (sz : Nat) (av : List Value) : Array Value → State → Prop := fun a U => mPre G M sz av a U ∧ ∀ q ∈ sXn, va_Nc q.1 q.2 U
theorem wPre_blind {G : mG} {M : Mem} {sz : Nat} {av : List Value} : FrameBlind (wPre G M sz av) := by
  intro a U g mk q
  exact ⟨mPre_blind a U g mk q.1, fun x hx => va_Nc.moved (Vm.Alike.refl U.vm) (q.2 x hx)⟩
/-- a method that catches all that comes -/
def cWi (l : Launch) (y : MethodName) (ws : List Cond) (L mc ms : Nat) (G : mG) (M : Mem) (sz : Nat) (av : List Value) (post : Int32 → Mem → Prop) : Prop := vx_Met l y ws (mRm L mc ms) (wPre G M sz av) (va_Qi post (mPo G M sz) (mA M sz)) (fun _ _ _ => False) mc ms (mA M sz)
section MWP
variable {l : Launch} {y : MethodName} {ws ws' : List Cond} {L mc ms : Nat} {G : mG} {M : Mem} {sz : Nat} {av : List Value}
theorem m_startW {post : Int32 → Mem → Prop} (cc : ByteArray) (maxL : Nat) (ret : Option FieldType) (hh : List (Nat × Nat × Nat × Nat)) (hy : plainName y.cls = true) (hw : ws = Cond.codeWith y cc maxL ret hh :: ws') (hn : (lg_sl av).length ≤ maxL)
    (hb : ∀ (p : Program) (e : Env) (s : State) (m : MethodId) (below : List Frame) (meth : Method) (c : Code) (ls : Array Slot),
    p.tables.exec = Jvm.exec → c.code = cc → meth.sig.returnType = ret → c.maxLocals = maxL → s.vm.findClass y.cls = some m.cls → meth.locks = false → (∀ w ∈ ws, w.before av.toArray s = true) → va_K G.1 vwCl (kT G) s → s.heap.size = sz → sE G (mA M sz) s s.heap → mW G.1 vwCl (mA M sz) s.heap M s.heap [] → lv_has ls maxL (lv_args 0 av) → c.exceptionTable.toList = tableOf hh → (∀ q ∈ sXn, va_Nc q.1 q.2 s) →
    W p l e (mRm L mc ms) s m av.toArray below meth c s.heap [] 0 0 (vx_MQ below (va_Qi post (mPo G M sz) (mA M sz)) (fun _ _ _ => False) av.toArray s mc ms (mA M sz)) (F0 m 0 ls [])) : cWi l y ws L mc ms G M sz av post := by
  refine vx_ofWH (cc := cc) (maxL := maxL) (ret := ret) (hh := hh) hy hw ?_
  intro p e s m args below meth c s₁ B hml hv
  obtain ⟨⟨rfl, hsz, hP, hK, hE⟩, hN⟩ := hv
  have hl := lv_entry av (n := maxL) hn
  have hts := atoms_spec (ws := ws) B.pre
  rw [lg_entry_eq]
  exact hb p e s m below meth c _ B.exec B.bytes B.returns hml (findClass_of_methodNamed B.named) B.notSynchronized hts hK hsz hE ⟨hP, va_S.rf, fun a e h => Or.inl ⟨e, h⟩⟩ hl (vx_table (x := y) B (hts _ (by rw [hw]; exact List.mem_cons_self))) hN
end MWP
section MWC
variable {p : Program} {l : Launch} {e : Env} {R : Room} {s : State} {m : MethodId} {args : Array Value} {below : List Frame} {meth : Method} {c : Code} {H : Heap} {locs : List Loc} {cells slots mc ms : Nat} {Q : State → Prop}
variable {cc : ByteArray} {pc : Nat} {ls : Array Slot} {rest st0 : List Value} {G : mG} {A : Nat → Prop} {M : Mem}
/-- a call that may throw, in a method that catches -/
theorem mx_w {post : Int32 → Mem → Prop} {a : Array Value} {xp : String → Prop} (hr : vx_Run p l e R s m args below meth c H locs cells slots mc ms (F0 m pc ls st0) rest (va_Qi post (mPo G M H.size) (mA M H.size) a) (mXc G M H.size xp) (mA M H.size)) (hW : mW G.1 vwCl A s.heap M H locs) (hA : ∀ q, s.heap.size ≤ q → A q)
    (kx : ∀ (E : String) (ce : Cell) (q9 : Addr) (H1 : Heap) (locs1 : List Loc), xp E → mW G.1 vwCl A s.heap M H1 locs1 → H1[q9]? = some ce → ce.vm = .none → s.vm.findClass E = some ce.cls → vx_W p l e R s m args below meth c H1 locs1 (cells + mc) (slots + ms) Q (F0 m pc ls rest) q9)
    (kk : ∀ (r : Int32) (M' : Mem) (H1 : Heap) (locs1 : List Loc), post r M' → mW G.1 vwCl A s.heap M' H1 locs1 → W p l e R s m args below meth c H1 locs1 (cells + mc) (slots + ms) Q (F0 m (pc + 3) ls (.int r :: rest))) : W p l e R s m args below meth c H locs cells slots Q (F0 m pc ls st0) :=
  vx_calli hr hW.2.1 (fun q _ h => mA_in hW hA q h) (mA_in hW hA) (fun q _ h => mA_in hW hA q h)
    (fun E ce q9 u t H1 locs1 ht _ _ hB _ _ hS1 hcell hv hcl => kx E ce q9 H1 locs1 hB.1 (mk_back hW hA ht hB.2 hS1) hcell hv hcl)
    (fun r M' t H1 locs1 ht _ hp hB _ _ hS1 => kk r M' H1 locs1 hp (mk_back hW hA ht hB hS1))
/-- a call of a method that catches all -/
theorem mk_w {post : Int32 → Mem → Prop} {a : Array Value} (hr : vx_Run p l e R s m args below meth c H locs cells slots mc ms (F0 m pc ls st0) rest (va_Qi post (mPo G M H.size) (mA M H.size) a) (fun _ _ _ => False) (mA M H.size)) (hW : mW G.1 vwCl A s.heap M H locs) (hA : ∀ q, s.heap.size ≤ q → A q)
    (kk : ∀ (r : Int32) (M' : Mem) (H1 : Heap) (locs1 : List Loc), post r M' → mW G.1 vwCl A s.heap M' H1 locs1 → W p l e R s m args below meth c H1 locs1 (cells + mc) (slots + ms) Q (F0 m (pc + 3) ls (.int r :: rest))) : W p l e R s m args below meth c H locs cells slots Q (F0 m pc ls st0) := by
  have hr2 : vx_Run p l e R s m args below meth c H locs cells slots mc ms (F0 m pc ls st0) rest (va_Qi post (mPo G M H.size) (mA M H.size) a) (mXc G M H.size (fun _ => False)) (mA M H.size) := by
    intro T hT X
    rcases hr T hT X with h | ⟨q, U1, t, U', L, E, ce, h1, h2, h3, h4, h5, h6, h7, h8⟩
    · exact Or.inl h
    · exact h6.elim
  exact mx_w hr2 hW hA (fun E ce q9 H1 locs1 h => h.elim) kk
theorem wp_S (hK : va_K G.1 vwCl (kT G) s) (hE : sE G A s s.heap) (hN : ∀ q ∈ sXn, va_Nc q.1 q.2 s) (hW : mW G.1 vwCl A s.heap M H locs) (hA : ∀ q, s.heap.size ≤ q → A q) {As : List Value} : PreS s H (wPre G M H.size As) As :=
  ⟨wPre_blind, fun U hU hWm => ⟨mp_pre hK hE hW hA As U hU hWm, fun x hx => va_Nc.moved hWm.alike (hN x hx)⟩⟩
end MWC
