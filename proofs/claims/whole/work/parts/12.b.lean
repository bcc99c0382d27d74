/-! THE CLASS: rows of methods that change its picture (mine) -/
def cW (G : mG) (N : Mem) (Γ : Adr) (ς : Sg) (A : Nat → Prop) (H0 H : Heap) (locs : List Loc) : Prop := ∃ M : Mem, mW G.1 vwCl A H0 M H locs ∧ Rp G N Γ ς M
/-- a method that leads from ς to ς' -/
def cUv (l : Launch) (y : MethodName) (ws : List Cond) (L mc ms : Nat) (G : mG) (N : Mem) (Γ : Adr) (ς : Sg) (as : List Value) (ς' : Sg) : Prop := ∀ (M : Mem) (sz : Nat), Rp G N Γ ς M → cMv l y ws L mc ms G M sz as (fun M' => Rp G N Γ ς' M')
section CRW
variable {p : Program} {l : Launch} {e : Env} {R : Room} {s : State} {m : MethodId} {args : Array Value} {below : List Frame} {meth : Method} {c : Code} {H : Heap} {locs : List Loc} {cells slots mc ms : Nat} {Q : State → Prop}
variable {cc : ByteArray} {pc : Nat} {ls : Array Slot} {rest st0 : List Value} {G : mG} {N : Mem} {Γ : Adr} {ς : Sg} {A : Nat → Prop} {H0 : Heap} {M0 : Mem} {sz : Nat}
theorem cr_get (hexec : p.tables.exec = Jvm.exec) (hb : c.code = cc) {own ref C : String} {T : u_T} {n ci index a : Nat} {Ts : List Cond} (hts : ∀ w ∈ Ts, w.before args s = true) (hin : ∀ w ∈ u_ws C T n, w ∈ Ts) (hown : s.vm.findClass own = some m.cls) (hK : va_K G.1 vwCl (kT G) s) (hW : cW G N Γ ς A H0 H locs) {fs : List Value} (hM : ∀ M, Rp G N Γ ς M → M a = some (.inr (ci, fs))) (hc : vwCl[ci]? = some (C, T, n)) (k : Nat) (hk : k < n) (hlink : (Cond.fieldLink own index ref (T k).2.1 (T k).2.2.1).before args s = true) (hsame : ∀ x, s.fieldFound? (T k).1 (T k).2.1 (T k).2.2.1 = some x → s.fieldFound? ref (T k).2.1 (T k).2.2.1 = some x) {v : Value} (hv : fs[k]? = some v) (hdg : decode cc pc = .ok (.getfield index, 3))
    (kk : W p l e R s m args below meth c H locs cells slots Q (F0 m (pc + 3) ls (v :: rest))) : W p l e R s m args below meth c H locs cells slots Q (F0 m pc ls (.ref a :: rest)) := by
  obtain ⟨M, h1, h2⟩ := hW
  exact mr_get hexec hb hts hin hown hK h1 (hM M h2) hc k hk hlink hsame hv hdg kk
theorem cr_put (hexec : p.tables.exec = Jvm.exec) (hb : c.code = cc) {own ref C : String} {T : u_T} {n ci index a : Nat} {Ts : List Cond} (hts : ∀ w ∈ Ts, w.before args s = true) (hin : ∀ w ∈ u_ws C T n, w ∈ Ts) (ty0 : Nat → FieldType) (hty : ∀ k, k < n → parseFieldDescriptor (T k).2.2.1 = some (ty0 k)) (hnm : ∀ a, a < n → ∀ b, b < n → a ≠ b → (T a).2.1 ≠ (T b).2.1) (hown : s.vm.findClass own = some m.cls) (hK : va_K G.1 vwCl (kT G) s) (hW : cW G N Γ ς A H0 H locs) {fs : List Value} (hM : ∀ M, Rp G N Γ ς M → M a = some (.inr (ci, fs))) (hc : vwCl[ci]? = some (C, T, n)) (k : Nat) (hk : k < n) (hlink : (Cond.fieldLink own index ref (T k).2.1 (T k).2.2.1).before args s = true) (hsame : ∀ x, s.fieldFound? (T k).1 (T k).2.1 (T k).2.2.1 = some x → s.fieldFound? ref (T k).2.1 (T k).2.2.1 = some x) (hfin : (T k).2.2.2 = false) {ty : FieldType} {v : Value} (hd : parseFieldDescriptor (T k).2.2.1 = some ty) (hn : narrow ty v = v) (hfit : fits ty v = true) (hl : k < fs.length) {fs' : List Value} (hfs : fs.set k v = fs') {ς' : Sg} (hup : ∀ M, Rp G N Γ ς M → Rp G N Γ ς' (va_up M a (some (.inr (ci, fs')))))
    (hdg : decode cc pc = .ok (.putfield index, 3)) (kk : ∀ (H1 : Heap) (locs1 : List Loc), cW G N Γ ς' A H0 H1 locs1 → W p l e R s m args below meth c H1 locs1 cells slots Q (F0 m (pc + 3) ls rest)) : W p l e R s m args below meth c H locs cells slots Q (F0 m pc ls (v :: .ref a :: rest)) := by
  obtain ⟨M, h1, h2⟩ := hW
  exact mr_put hexec hb hts hin ty0 hty hnm hown hK h1 (hM M h2) hc k hk hlink hsame hfin hd hn hfit hl hfs hdg (fun H1 locs1 hW1 => kk H1 locs1 ⟨_, hW1, hup M h2⟩)
theorem cr_vret {ς' : Sg} (hexec : p.tables.exec = Jvm.exec) (hb : c.code = cc) (hr : meth.sig.returnType = none) (hlocks : meth.locks = false) (hc : cells ≤ mc) (hs : slots ≤ ms) (hW : cW G N Γ ς (mA M0 sz) s.heap H locs) (hp : ς = ς') (hdg : decode cc pc = .ok (.return_, 1)) :
    W p l e R s m args below meth c H locs cells slots (MQ below (va_Qv (fun M' => Rp G N Γ ς' M') (mPo G M0 sz) (mA M0 sz)) args s mc ms (mA M0 sz)) (F0 m pc ls []) := by
  obtain ⟨M, h1, h2⟩ := hW
  subst hp
  exact mr_vret hexec hb hr hlocks hc hs h1 h2 hdg
theorem cr_cast (hexec : p.tables.exec = Jvm.exec) (hb : c.code = cc) (hK : va_K G.1 vwCl (kT G) s) (hW : cW G N Γ ς A H0 H locs) {a n j x : Nat} {ς' : Sg} (hM : ∀ M, Rp G N Γ ς M → ∃ f, M a = some (eI (G.2.1 1) n f) ∧ Rp G N Γ ς' (va_up M a (some (eI (G.2.1 1) n (upd f j (nI x)))))) (hj : j < n) (hn : n < 2 ^ 31) (hx : vp_nar .char (nI x) = nI x) (hdg : decode cc pc = .ok (.castore, 1))
    (kk : ∀ (H1 : Heap) (locs1 : List Loc), cW G N Γ ς' A H0 H1 locs1 → W p l e R s m args below meth c H1 locs1 cells slots Q (F0 m (pc + 1) ls rest)) : W p l e R s m args below meth c H locs cells slots Q (F0 m pc ls (.int (nI x) :: .int (nI j) :: .ref a :: rest)) := by
  obtain ⟨M, h1, h2⟩ := hW
  obtain ⟨f, h3, h4⟩ := hM M h2
  exact mr_cast hexec hb hK h1 1 h3 (by rfl) rfl hj hn hx hdg (fun H1 locs1 hW1 => kk H1 locs1 ⟨_, hW1, h4⟩)
theorem cr_iast (hexec : p.tables.exec = Jvm.exec) (hb : c.code = cc) (hK : va_K G.1 vwCl (kT G) s) (hW : cW G N Γ ς A H0 H locs) {a n j x : Nat} {ς' : Sg} (hM : ∀ M, Rp G N Γ ς M → ∃ f, M a = some (eI (G.2.1 0) n f) ∧ Rp G N Γ ς' (va_up M a (some (eI (G.2.1 0) n (upd f j (nI x)))))) (hj : j < n) (hn : n < 2 ^ 31) (hdg : decode cc pc = .ok (.iastore, 1))
    (kk : ∀ (H1 : Heap) (locs1 : List Loc), cW G N Γ ς' A H0 H1 locs1 → W p l e R s m args below meth c H1 locs1 cells slots Q (F0 m (pc + 1) ls rest)) : W p l e R s m args below meth c H locs cells slots Q (F0 m pc ls (.int (nI x) :: .int (nI j) :: .ref a :: rest)) := by
  obtain ⟨M, h1, h2⟩ := hW
  obtain ⟨f, h3, h4⟩ := hM M h2
  exact mr_iast hexec hb hK h1 0 h3 (by rfl) rfl hj hn hdg (fun H1 locs1 hW1 => kk H1 locs1 ⟨_, hW1, h4⟩)
theorem cr_iald (hexec : p.tables.exec = Jvm.exec) (hb : c.code = cc) (hK : va_K G.1 vwCl (kT G) s) (hW : cW G N Γ ς A H0 H locs) {a n j x : Nat} (hM : ∀ M, Rp G N Γ ς M → ∃ f, M a = some (eI (G.2.1 0) n f) ∧ f j = nI x) (hj : j < n) (hn : n < 2 ^ 31) (hdg : decode cc pc = .ok (.iaload, 1))
    (kk : W p l e R s m args below meth c H locs cells slots Q (F0 m (pc + 1) ls (.int (nI x) :: rest))) : W p l e R s m args below meth c H locs cells slots Q (F0 m pc ls (.int (nI j) :: .ref a :: rest)) := by
  obtain ⟨M, h1, h2⟩ := hW
  obtain ⟨f, h3, h4⟩ := hM M h2
  rw [← h4] at kk
  exact mr_iald hexec hb hK h1 0 h3 (by rfl) rfl hj hn hdg kk
theorem cr_cald (hexec : p.tables.exec = Jvm.exec) (hb : c.code = cc) (hK : va_K G.1 vwCl (kT G) s) (hW : cW G N Γ ς A H0 H locs) {a n j x : Nat} (hM : ∀ M, Rp G N Γ ς M → ∃ f, M a = some (eI (G.2.1 1) n f) ∧ f j = nI x) (hj : j < n) (hn : n < 2 ^ 31) (hdg : decode cc pc = .ok (.caload, 1))
    (kk : W p l e R s m args below meth c H locs cells slots Q (F0 m (pc + 1) ls (.int (nI x) :: rest))) : W p l e R s m args below meth c H locs cells slots Q (F0 m pc ls (.int (nI j) :: .ref a :: rest)) := by
  obtain ⟨M, h1, h2⟩ := hW
  obtain ⟨f, h3, h4⟩ := hM M h2
  rw [← h4] at kk
  exact mr_cald hexec hb hK h1 1 h3 (by rfl) rfl hj hn hdg kk
end CRW
