/-! MEMORIES: a world as a map from addresses to cells; rows over it (mine). -/
abbrev Mem : Type := Nat → Option va_E
abbrev eI (c : ClassId) (n : Nat) (f : Nat → Int32) : va_E := .inl (c, n, .inl f)
abbrev eQ (c : ClassId) (n : Nat) (f : Nat → Option Nat) : va_E := .inl (c, n, .inr (.inr (.inr (.inr f))))
abbrev eO (k : Nat) (fs : List Value) : va_E := .inr (k, fs)
/-- the heap holds the cells of M -/
def mP (D : va_G) (cl : List vw_C) (M : Mem) (H : Heap) : Prop := ∃ ws : va_W, va_P D cl ws H ∧ va_D (fun _ => True) ws ∧ ∀ (a : Nat) (e : va_E), M a = some e ↔ ∃ k : Nat, ws[k]? = some (a, e)
/-- the cells that a method over M may change -/
def mA (M : Mem) (sz : Nat) : Nat → Prop := fun q => (∃ e, M q = some e) ∨ sz ≤ q
def mW (D : va_G) (cl : List vw_C) (A : Nat → Prop) (H0 : Heap) (M : Mem) (H : Heap) (locs : List Loc) : Prop := mP D cl M H ∧ va_S A H0 H locs ∧ ∀ (a : Nat) (e : va_E), M a = some e → A a
section MWL
variable {D : va_G} {cl : List vw_C} {A : Nat → Prop} {H0 H H1 : Heap} {M : Mem} {locs locs1 : List Loc}
theorem mW_open (h : mW D cl A H0 M H locs) : ∃ ws : va_W, va_P D cl ws H ∧ va_D A ws ∧ va_S A H0 H locs ∧ ∀ (a : Nat) (e : va_E), M a = some e ↔ ∃ k : Nat, ws[k]? = some (a, e) := by
  obtain ⟨⟨ws, hP, hD, hM⟩, hS, hA⟩ := h
  exact ⟨ws, hP, hD.weaken (fun k q hk _ => hA q.1 q.2 ((hM _ _).mpr ⟨k, hk⟩)), hS, hM⟩
theorem mW_set {ws : va_W} {k a : Nat} {e0 e : va_E} (hD : va_D A ws) (hM : ∀ (a : Nat) (e : va_E), M a = some e ↔ ∃ k : Nat, ws[k]? = some (a, e)) (hk : ws[k]? = some (a, e0)) (hP1 : va_P D cl (ws.set k (a, e)) H1) (hD1 : va_D A (ws.set k (a, e))) (hS1 : va_S A H0 H1 locs1) : mW D cl A H0 (va_up M a (some e)) H1 locs1 := by
  have hl := (List.getElem?_eq_some_iff.mp hk).1
  have key : ∀ (b : Nat) (e' : va_E), va_up M a (some e) b = some e' ↔ ∃ j : Nat, (ws.set k (a, e))[j]? = some (b, e') := by
    intro b e'
    by_cases hb : b = a
    · subst hb
      constructor
      · intro h
        have h2 : some e = some e' := by
          have h3 : va_up M b (some e) b = some e := if_pos rfl
          exact h3.symm.trans h
        cases h2
        exact ⟨k, List.getElem?_set_self hl⟩
      · rintro ⟨j, hj⟩
        have hjk : j = k := hD1.1 j k (b, e') (b, e) hj (List.getElem?_set_self hl) rfl
        subst hjk
        rw [List.getElem?_set_self hl] at hj
        cases hj
        exact if_pos rfl
    · have h3 : va_up M a (some e) b = M b := if_neg hb
      rw [h3, hM b e']
      constructor
      · rintro ⟨j, hj⟩
        refine ⟨j, ?_⟩
        have hne : j ≠ k := fun z => by subst z; rw [hk] at hj; cases hj; exact hb rfl
        rw [List.getElem?_set_ne (Ne.symm hne)]
        exact hj
      · rintro ⟨j, hj⟩
        refine ⟨j, ?_⟩
        have hne : j ≠ k := fun z => by subst z; rw [List.getElem?_set_self hl] at hj; cases hj; exact hb rfl
        rw [List.getElem?_set_ne (Ne.symm hne)] at hj
        exact hj
  exact ⟨⟨ws.set k (a, e), hP1, hD1.weaken (fun _ _ _ _ => trivial), key⟩, hS1, fun b e' h => by obtain ⟨j, hj⟩ := (key b e').mp h; exact hD1.2 j _ hj⟩
theorem mW_push {ws : va_W} {q : Nat} {e : va_E} (hM : ∀ (a : Nat) (e : va_E), M a = some e ↔ ∃ k : Nat, ws[k]? = some (a, e)) (hP1 : va_P D cl (ws ++ [(q, e)]) H1) (hD1 : va_D A (ws ++ [(q, e)])) (hS1 : va_S A H0 H1 locs1) : M q = none ∧ mW D cl A H0 (va_up M q (some e)) H1 locs1 := by
  have hself : (ws ++ [(q, e)])[ws.length]? = some (q, e) := by rw [List.getElem?_append_right (Nat.le_refl _), Nat.sub_self]; rfl
  have hold : ∀ (j : Nat) (x : Nat × va_E), ws[j]? = some x → (ws ++ [(q, e)])[j]? = some x ∧ j < ws.length := by
    intro j x hj
    have hl := (List.getElem?_eq_some_iff.mp hj).1
    exact ⟨by rw [List.getElem?_append_left hl]; exact hj, hl⟩
  have hfresh : ∀ (j : Nat) (e' : va_E), ws[j]? = some (q, e') → False := by
    intro j e' hj
    obtain ⟨h1, h2⟩ := hold j _ hj
    have := hD1.1 j ws.length _ _ h1 hself rfl
    omega
  have hnone : M q = none := by
    cases h : M q with
    | none => rfl
    | some e' =>
      obtain ⟨j, hj⟩ := (hM q e').mp h
      exact (hfresh j e' hj).elim
  have key : ∀ (b : Nat) (e' : va_E), va_up M q (some e) b = some e' ↔ ∃ j : Nat, (ws ++ [(q, e)])[j]? = some (b, e') := by
    intro b e'
    by_cases hb : b = q
    · subst hb
      constructor
      · intro h
        have h3 : va_up M b (some e) b = some e := if_pos rfl
        have h2 : some e = some e' := h3.symm.trans h
        cases h2
        exact ⟨_, hself⟩
      · rintro ⟨j, hj⟩
        have hjk : j = ws.length := hD1.1 j _ _ _ hj hself rfl
        subst hjk
        rw [hself] at hj
        cases hj
        exact if_pos rfl
    · have h3 : va_up M q (some e) b = M b := if_neg hb
      rw [h3, hM b e']
      constructor
      · rintro ⟨j, hj⟩
        exact ⟨j, (hold j _ hj).1⟩
      · rintro ⟨j, hj⟩
        by_cases hl : j < ws.length
        · rw [List.getElem?_append_left hl] at hj
          exact ⟨j, hj⟩
        · have hz := (List.getElem?_eq_some_iff.mp hj).1
          rw [List.length_append, List.length_singleton] at hz
          have hjl : j = ws.length := by omega
          subst hjl
          rw [hself] at hj
          cases hj
          exact (hb rfl).elim
  exact ⟨hnone, ⟨ws ++ [(q, e)], hP1, hD1.weaken (fun _ _ _ _ => trivial), key⟩, hS1, fun b e' h => by obtain ⟨j, hj⟩ := (key b e').mp h; exact hD1.2 j _ hj⟩
theorem mW_lt (h : mP D cl M H) {a : Nat} {e : va_E} (ha : M a = some e) : a < H.size := by
  obtain ⟨ws, hP, -, hM⟩ := h
  obtain ⟨k, hk⟩ := (hM a e).mp ha
  exact (hP k _ hk).lt
theorem mP_kept (h : mP D cl M H) (hq : ∀ (a : Nat) (e : va_E), M a = some e → H1[a]? = H[a]?) : mP D cl M H1 := by
  obtain ⟨ws, hP, hD, hM⟩ := h
  exact ⟨ws, hP.kept (fun k q hk => hq q.1 q.2 ((hM _ _).mpr ⟨k, hk⟩)), hD, hM⟩
/-- the class of an object of M -/
theorem mW_recv {s : State} {tys : List (ClassId × FieldType)} (hK : va_K D cl tys s) (h : mP D cl M H) {a ci : Nat} {fs : List Value} (ha : M a = some (.inr (ci, fs))) {r : vw_C} (hc : cl[ci]? = some r) : ∃ cell : Cell, H[a]? = some cell ∧ cell.vm.isStatics = false ∧ s.vm.findClass r.1 = some cell.cls := by
  obtain ⟨ws, hP, hD, hM⟩ := h
  obtain ⟨k, hk⟩ := (hM a _).mp ha
  exact va_recv hK hP hc hk
end MWL
theorem mR_uni {s : State} {c1 c2 : ClassId} {ty : FieldType} (h1 : va_RA s c1 ty) (h2 : va_RA s c2 ty) : c1 = c2 := by
  cases ty with
  | object C =>
    obtain ⟨-, -, -, -, -, g1⟩ := h1
    obtain ⟨-, -, -, -, -, g2⟩ := h2
    exact Option.some.inj (g1.symm.trans g2)
  | _ => exact Option.some.inj (Eq.trans (Eq.symm h1) h2)
theorem mK_last {D : va_G} {cl : List vw_C} {tys : List (ClassId × FieldType)} {s : State} {cA : ClassId} {ty : FieldType} (h : va_K D cl (tys ++ [(cA, ty)]) s) : va_RA s cA ty :=
  (h.2 tys.length (cA, ty) (by rw [List.getElem?_append_right (Nat.le_refl _), Nat.sub_self]; rfl)).2
section MRW
variable {p : Program} {l : Launch} {e : Env} {R : Room} {s : State} {m : MethodId} {args : Array Value} {below : List Frame} {meth : Method} {c : Code} {H : Heap} {locs : List Loc} {cells slots : Nat} {Q : State → Prop}
variable {cc : ByteArray} {pc : Nat} {ls : Array Slot} {rest : List Value} {D : va_G} {cl : List vw_C} {A : Nat → Prop} {a : Nat} {tys : List (ClassId × FieldType)} {M : Mem} {H0 : Heap}
theorem mr_get (hexec : p.tables.exec = Jvm.exec) (hb : c.code = cc) {own ref C : String} {T : u_T} {N ci index : Nat} {Ts : List Cond} (hts : ∀ w ∈ Ts, w.before args s = true) (hin : ∀ w ∈ u_ws C T N, w ∈ Ts) (hown : s.vm.findClass own = some m.cls) (hK : va_K D cl tys s) (hW : mW D cl A H0 M H locs) {fs : List Value} (hM : M a = some (.inr (ci, fs))) (hc : cl[ci]? = some (C, T, N)) (k : Nat) (hk : k < N) (hlink : (Cond.fieldLink own index ref (T k).2.1 (T k).2.2.1).before args s = true) (hsame : ∀ x, s.fieldFound? (T k).1 (T k).2.1 (T k).2.2.1 = some x → s.fieldFound? ref (T k).2.1 (T k).2.2.1 = some x) {v : Value} (hv : fs[k]? = some v) (hdg : decode cc pc = .ok (.getfield index, 3))
    (kk : W p l e R s m args below meth c H locs cells slots Q (F0 m (pc + 3) ls (v :: rest))) : W p l e R s m args below meth c H locs cells slots Q (F0 m pc ls (.ref a :: rest)) := by
  obtain ⟨ws, hP, hD, hS, hI⟩ := mW_open hW
  obtain ⟨k0, hk0⟩ := (hI _ _).mp hM
  exact va_get hexec hb hts hin hown hK hP k0 hk0 hc k hk hlink hsame hv hdg kk
theorem mr_put (hexec : p.tables.exec = Jvm.exec) (hb : c.code = cc) {own ref C : String} {T : u_T} {N ci index : Nat} {Ts : List Cond} (hts : ∀ w ∈ Ts, w.before args s = true) (hin : ∀ w ∈ u_ws C T N, w ∈ Ts) (ty0 : Nat → FieldType) (hty : ∀ k, k < N → parseFieldDescriptor (T k).2.2.1 = some (ty0 k)) (hnm : ∀ a, a < N → ∀ b, b < N → a ≠ b → (T a).2.1 ≠ (T b).2.1) (hown : s.vm.findClass own = some m.cls) (hK : va_K D cl tys s) (hW : mW D cl A H0 M H locs) {fs : List Value} (hM : M a = some (.inr (ci, fs))) (hc : cl[ci]? = some (C, T, N)) (k : Nat) (hk : k < N) (hlink : (Cond.fieldLink own index ref (T k).2.1 (T k).2.2.1).before args s = true) (hsame : ∀ x, s.fieldFound? (T k).1 (T k).2.1 (T k).2.2.1 = some x → s.fieldFound? ref (T k).2.1 (T k).2.2.1 = some x) (hfin : (T k).2.2.2 = false) {ty : FieldType} {v : Value} (hd : parseFieldDescriptor (T k).2.2.1 = some ty) (hn : narrow ty v = v) (hfit : fits ty v = true) (hl : k < fs.length) {fs' : List Value} (hfs : fs.set k v = fs')
    (hdg : decode cc pc = .ok (.putfield index, 3)) (kk : ∀ (H1 : Heap) (locs1 : List Loc), mW D cl A H0 (va_up M a (some (.inr (ci, fs')))) H1 locs1 → W p l e R s m args below meth c H1 locs1 cells slots Q (F0 m (pc + 3) ls rest)) : W p l e R s m args below meth c H locs cells slots Q (F0 m pc ls (v :: .ref a :: rest)) := by
  obtain ⟨ws, hP, hD, hS, hI⟩ := mW_open hW
  obtain ⟨k0, hk0⟩ := (hI _ _).mp hM
  subst hfs
  exact va_put hexec hb hts hin ty0 hty hnm hown hK hP hD hS k0 hk0 hc k hk hlink hsame hfin hd hn hfit hl hdg (fun H1 locs1 hP1 hD1 hS1 => kk H1 locs1 (mW_set hD hI hk0 hP1 hD1 hS1))
theorem mr_putF (hexec : p.tables.exec = Jvm.exec) (hb : c.code = cc) {own ref C : String} {T : u_T} {N ci index : Nat} {Ts : List Cond} (hts : ∀ w ∈ Ts, w.before args s = true) (hin : ∀ w ∈ u_ws C T N, w ∈ Ts) (ty0 : Nat → FieldType) (hty : ∀ k, k < N → parseFieldDescriptor (T k).2.2.1 = some (ty0 k)) (hnm : ∀ a, a < N → ∀ b, b < N → a ≠ b → (T a).2.1 ≠ (T b).2.1) (hown : s.vm.findClass own = some m.cls) (hK : va_K D cl tys s) (hW : mW D cl A H0 M H locs) {fs : List Value} (hM : M a = some (.inr (ci, fs))) (hc : cl[ci]? = some (C, T, N)) (k : Nat) (hk : k < N) (hlink : (Cond.fieldLink own index ref (T k).2.1 (T k).2.2.1).before args s = true) (hsame : ∀ x, s.fieldFound? (T k).1 (T k).2.1 (T k).2.2.1 = some x → s.fieldFound? ref (T k).2.1 (T k).2.2.1 = some x) (hfin : (T k).2.2.2 = true) (hin2 : meth.name = "<init>") (hdecl : (T k).1 = own) {ty : FieldType} {v : Value} (hd : parseFieldDescriptor (T k).2.2.1 = some ty) (hn : narrow ty v = v) (hfit : fits ty v = true) (hl : k < fs.length) {fs' : List Value} (hfs : fs.set k v = fs')
    (hdg : decode cc pc = .ok (.putfield index, 3)) (kk : ∀ (H1 : Heap) (locs1 : List Loc), mW D cl A H0 (va_up M a (some (.inr (ci, fs')))) H1 locs1 → W p l e R s m args below meth c H1 locs1 cells slots Q (F0 m (pc + 3) ls rest)) : W p l e R s m args below meth c H locs cells slots Q (F0 m pc ls (v :: .ref a :: rest)) := by
  obtain ⟨ws, hP, hD, hS, hI⟩ := mW_open hW
  obtain ⟨k0, hk0⟩ := (hI _ _).mp hM
  subst hfs
  exact va_putF hexec hb hts hin ty0 hty hnm hown hK hP hD hS k0 hk0 hc k hk hlink hsame hfin hin2 hdecl hd hn hfit hl hdg (fun H1 locs1 hP1 hD1 hS1 => kk H1 locs1 (mW_set hD hI hk0 hP1 hD1 hS1))
theorem mr_iald (hexec : p.tables.exec = Jvm.exec) (hb : c.code = cc) (hK : va_K D cl tys s) (hW : mW D cl A H0 M H locs) (t0 : Nat) {cA : ClassId} {n : Nat} {f : Nat → Int32} (hM : M a = some (eI cA n f)) (ht : tys[t0]? = some (cA, .int)) {i : Int32} {j : Nat} (hi : i = nI j) (hj : j < n) (hn : n < 2 ^ 31) (hdg : decode cc pc = .ok (.iaload, 1))
    (kk : W p l e R s m args below meth c H locs cells slots Q (F0 m (pc + 1) ls (.int (f j) :: rest))) : W p l e R s m args below meth c H locs cells slots Q (F0 m pc ls (.int i :: .ref a :: rest)) := by
  obtain ⟨ws, hP, hD, hS, hI⟩ := mW_open hW
  obtain ⟨k0, hk0⟩ := (hI _ _).mp hM
  subst hi
  refine va_iald hexec hb hK hP k0 t0 hk0 ht (vp_in_nI hj hn) hdg ?_
  rw [nI_clamp (Nat.lt_trans hj hn)]
  exact kk
theorem mr_cald (hexec : p.tables.exec = Jvm.exec) (hb : c.code = cc) (hK : va_K D cl tys s) (hW : mW D cl A H0 M H locs) (t0 : Nat) {cA : ClassId} {n : Nat} {f : Nat → Int32} (hM : M a = some (eI cA n f)) (ht : tys[t0]? = some (cA, .char)) {i : Int32} {j : Nat} (hi : i = nI j) (hj : j < n) (hn : n < 2 ^ 31) (hdg : decode cc pc = .ok (.caload, 1))
    (kk : W p l e R s m args below meth c H locs cells slots Q (F0 m (pc + 1) ls (.int (f j) :: rest))) : W p l e R s m args below meth c H locs cells slots Q (F0 m pc ls (.int i :: .ref a :: rest)) := by
  obtain ⟨ws, hP, hD, hS, hI⟩ := mW_open hW
  obtain ⟨k0, hk0⟩ := (hI _ _).mp hM
  subst hi
  refine va_cald hexec hb hK hP k0 t0 hk0 ht (vp_in_nI hj hn) hdg ?_
  rw [nI_clamp (Nat.lt_trans hj hn)]
  exact kk
theorem mr_iast (hexec : p.tables.exec = Jvm.exec) (hb : c.code = cc) (hK : va_K D cl tys s) (hW : mW D cl A H0 M H locs) (t0 : Nat) {cA : ClassId} {n : Nat} {f : Nat → Int32} (hM : M a = some (eI cA n f)) (ht : tys[t0]? = some (cA, .int)) {i x : Int32} {j : Nat} (hi : i = nI j) (hj : j < n) (hn : n < 2 ^ 31) (hdg : decode cc pc = .ok (.iastore, 1))
    (kk : ∀ (H1 : Heap) (locs1 : List Loc), mW D cl A H0 (va_up M a (some (eI cA n (upd f j x)))) H1 locs1 → W p l e R s m args below meth c H1 locs1 cells slots Q (F0 m (pc + 1) ls rest)) : W p l e R s m args below meth c H locs cells slots Q (F0 m pc ls (.int x :: .int i :: .ref a :: rest)) := by
  obtain ⟨ws, hP, hD, hS, hI⟩ := mW_open hW
  obtain ⟨k0, hk0⟩ := (hI _ _).mp hM
  subst hi
  refine va_iast hexec hb hK hP hD hS k0 t0 hk0 ht (vp_in_nI hj hn) hdg (fun H1 locs1 hP1 hD1 hS1 => ?_)
  rw [nI_clamp (Nat.lt_trans hj hn)] at hP1 hD1
  exact kk H1 locs1 (mW_set hD hI hk0 hP1 hD1 hS1)
theorem mr_cast (hexec : p.tables.exec = Jvm.exec) (hb : c.code = cc) (hK : va_K D cl tys s) (hW : mW D cl A H0 M H locs) (t0 : Nat) {cA : ClassId} {n : Nat} {f : Nat → Int32} (hM : M a = some (eI cA n f)) (ht : tys[t0]? = some (cA, .char)) {i x : Int32} {j : Nat} (hi : i = nI j) (hj : j < n) (hn : n < 2 ^ 31) (hx : vp_nar .char x = x) (hdg : decode cc pc = .ok (.castore, 1))
    (kk : ∀ (H1 : Heap) (locs1 : List Loc), mW D cl A H0 (va_up M a (some (eI cA n (upd f j x)))) H1 locs1 → W p l e R s m args below meth c H1 locs1 cells slots Q (F0 m (pc + 1) ls rest)) : W p l e R s m args below meth c H locs cells slots Q (F0 m pc ls (.int x :: .int i :: .ref a :: rest)) := by
  obtain ⟨ws, hP, hD, hS, hI⟩ := mW_open hW
  obtain ⟨k0, hk0⟩ := (hI _ _).mp hM
  subst hi
  refine va_cast hexec hb hK hP hD hS k0 t0 hk0 ht (vp_in_nI hj hn) hdg (fun H1 locs1 hP1 hD1 hS1 => ?_)
  rw [nI_clamp (Nat.lt_trans hj hn), hx] at hP1 hD1
  exact kk H1 locs1 (mW_set hD hI hk0 hP1 hD1 hS1)
theorem mr_aald (hexec : p.tables.exec = Jvm.exec) (hb : c.code = cc) (hK : va_K D cl tys s) (hW : mW D cl A H0 M H locs) (t0 : Nat) {cA : ClassId} {C : String} {n : Nat} {f : Nat → Option Nat} (hM : M a = some (eQ cA n f)) (ht : tys[t0]? = some (cA, .object C)) {i : Int32} {j : Nat} (hi : i = nI j) (hj : j < n) (hn : n < 2 ^ 31) (hdg : decode cc pc = .ok (.aaload, 1))
    (kk : W p l e R s m args below meth c H locs cells slots Q (F0 m (pc + 1) ls (va_rf (f j) :: rest))) : W p l e R s m args below meth c H locs cells slots Q (F0 m pc ls (.int i :: .ref a :: rest)) := by
  obtain ⟨ws, hP, hD, hS, hI⟩ := mW_open hW
  obtain ⟨k0, hk0⟩ := (hI _ _).mp hM
  subst hi
  refine va_aldq hexec hb hK hP k0 t0 hk0 ht (vp_in_nI hj hn) hdg ?_
  rw [nI_clamp (Nat.lt_trans hj hn)]
  exact kk
/-- an object of M may lie in a row of objects of E -/
theorem mW_any (hK : va_K D cl tys s) (h : mP D cl M H) {ci : Nat} {fs : List Value} (ha : M a = some (.inr (ci, fs))) {r : vw_C} {E : String} (hc : cl[ci]? = some r) (hca : va_Nw (.castable r.1 E) s) : va_Any E s H a := by
  obtain ⟨ws, hP, hD, hM⟩ := h
  obtain ⟨k, hk⟩ := (hM a _).mp ha
  exact va_rAny hK hP hk hc (vb_asgC hca)
theorem mr_aast (hexec : p.tables.exec = Jvm.exec) (hb : c.code = cc) (hK : va_K D cl tys s) (hW : mW D cl A H0 M H locs) (t0 : Nat) {cA : ClassId} {C : String} {n v : Nat} {f : Nat → Option Nat} (hM : M a = some (eQ cA n f)) (ht : tys[t0]? = some (cA, .object C)) (hr : va_Any C s H v) {i : Int32} {j : Nat} (hi : i = nI j) (hj : j < n) (hn : n < 2 ^ 31) (hdg : decode cc pc = .ok (.aastore, 1))
    (kk : ∀ (H1 : Heap) (locs1 : List Loc), mW D cl A H0 (va_up M a (some (eQ cA n (va_up f j (some v))))) H1 locs1 → W p l e R s m args below meth c H1 locs1 cells slots Q (F0 m (pc + 1) ls rest)) : W p l e R s m args below meth c H locs cells slots Q (F0 m pc ls (.ref v :: .int i :: .ref a :: rest)) := by
  obtain ⟨ws, hP, hD, hS, hI⟩ := mW_open hW
  obtain ⟨k0, hk0⟩ := (hI _ _).mp hM
  subst hi
  refine va_astqM hexec hb hK hP hD hS k0 t0 hk0 ht hr (vp_in_nI hj hn) hdg (fun H1 locs1 hP1 hD1 hS1 => ?_)
  rw [nI_clamp (Nat.lt_trans hj hn)] at hP1 hD1
  exact kk H1 locs1 (mW_set hD hI hk0 hP1 hD1 hS1)
theorem mr_aastN (hexec : p.tables.exec = Jvm.exec) (hb : c.code = cc) (hK : va_K D cl tys s) (hW : mW D cl A H0 M H locs) (t0 : Nat) {cA : ClassId} {C : String} {n : Nat} {f : Nat → Option Nat} (hM : M a = some (eQ cA n f)) (ht : tys[t0]? = some (cA, .object C)) {i : Int32} {j : Nat} (hi : i = nI j) (hj : j < n) (hn : n < 2 ^ 31) (hdg : decode cc pc = .ok (.aastore, 1))
    (kk : ∀ (H1 : Heap) (locs1 : List Loc), mW D cl A H0 (va_up M a (some (eQ cA n (va_up f j none)))) H1 locs1 → W p l e R s m args below meth c H1 locs1 cells slots Q (F0 m (pc + 1) ls rest)) : W p l e R s m args below meth c H locs cells slots Q (F0 m pc ls (.null :: .int i :: .ref a :: rest)) := by
  obtain ⟨ws, hP, hD, hS, hI⟩ := mW_open hW
  obtain ⟨k0, hk0⟩ := (hI _ _).mp hM
  subst hi
  refine va_astqN hexec hb hK hP hD hS k0 t0 hk0 ht (vp_in_nI hj hn) hdg (fun H1 locs1 hP1 hD1 hS1 => ?_)
  rw [nI_clamp (Nat.lt_trans hj hn)] at hP1 hD1
  exact kk H1 locs1 (mW_set hD hI hk0 hP1 hD1 hS1)
theorem mr_alen (hexec : p.tables.exec = Jvm.exec) (hb : c.code = cc) (hK : va_K D cl tys s) (hW : mW D cl A H0 M H locs) (t0 : Nat) {cA : ClassId} {x : vp_A} (hM : M a = some (.inl (cA, x))) {ty : FieldType} (ht : tys[t0]? = some (cA, ty)) {n : Nat} (hn : x.1 = n) (hdg : decode cc pc = .ok (.arraylength, 1))
    (kk : W p l e R s m args below meth c H locs cells slots Q (F0 m (pc + 1) ls (.int (nI n) :: rest))) : W p l e R s m args below meth c H locs cells slots Q (F0 m pc ls (.ref a :: rest)) := by
  obtain ⟨ws, hP, hD, hS, hI⟩ := mW_open hW
  obtain ⟨k0, hk0⟩ := (hI _ _).mp hM
  subst hn
  exact va_alen hexec hb hK hP k0 t0 hk0 ht (v := nI x.1) rfl hdg kk
theorem mr_newa (hexec : p.tables.exec = Jvm.exec) (hb : c.code = cc) {atype : ArrayType} (harr : (Cond.arrayClass (newarray.typeOf atype)).before args s = true) {ty : FieldType} (hty : newarray.typeOf atype = ty) (hK : va_K D cl tys s) (hW : mW D cl A H0 M H locs) (hA : ∀ q, H0.size ≤ q → A q) (t0 : Nat) {cA : ClassId} (ht : tys[t0]? = some (cA, ty))
    {n : Int32} {N : Nat} {a0 : vp_A} (ha : ∀ cA : ClassId, vp_cell cA a0 = arrV cA N (fun _ => defaultValue ty)) (hn : n = nI N) (hN : N < 2 ^ 31) (hbytes : N * componentBytes ty ≤ 536870912) (hcells : cells + 1 ≤ R.cells) (hslots : slots + N ≤ R.slots) (hdg : decode cc pc = .ok (.newarray atype, 2))
    (kk : ∀ (q : Nat) (H1 : Heap), M q = none → mW D cl A H0 (va_up M q (some (.inl (cA, a0)))) H1 locs → W p l e R s m args below meth c H1 locs (cells + 1) (slots + N) Q (F0 m (pc + 2) ls (.ref q :: rest))) : W p l e R s m args below meth c H locs cells slots Q (F0 m pc ls (.int n :: rest)) := by
  obtain ⟨ws, hP, hD, hS, hI⟩ := mW_open hW
  subst hn
  refine va_newa (atype := atype) hexec hb harr hty hK hP hD hS hA ha (nI_pos hN) (nI_clamp hN) hbytes hcells hslots hdg (fun q cB H1 hK1 hP1 hD1 hS1 => ?_)
  have e : cB = cA := mR_uni (mK_last hK1) (hK.2 t0 _ ht).2
  subst e
  obtain ⟨h1, h2⟩ := mW_push hI hP1 hD1 hS1
  exact kk q H1 h1 h2
theorem mr_newq (hexec : p.tables.exec = Jvm.exec) (hb : c.code = cc) {own C : String} {index : Nat} (hown : s.vm.findClass own = some m.cls) (hclink : (Cond.classLink own index C).before args s = true) (hover : va_AO C s) (hK : va_K D cl tys s) (hW : mW D cl A H0 M H locs) (hA : ∀ q, H0.size ≤ q → A q) (t0 : Nat) {cA : ClassId} (ht : tys[t0]? = some (cA, .object C))
    {n : Int32} {N : Nat} (hn : n = nI N) (hN : N < 2 ^ 31) (hbytes : N * 4 ≤ 536870912) (hcells : cells + 1 ≤ R.cells) (hslots : slots + N ≤ R.slots) (hdg : decode cc pc = .ok (.anewarray index, 3))
    (kk : ∀ (q : Nat) (H1 : Heap), M q = none → mW D cl A H0 (va_up M q (some (eQ cA N (fun _ => none)))) H1 locs → W p l e R s m args below meth c H1 locs (cells + 1) (slots + N) Q (F0 m (pc + 3) ls (.ref q :: rest))) : W p l e R s m args below meth c H locs cells slots Q (F0 m pc ls (.int n :: rest)) := by
  obtain ⟨ws, hP, hD, hS, hI⟩ := mW_open hW
  subst hn
  refine va_newq hexec hb hown hclink hover hK hP hD hS hA (nI_pos hN) (nI_clamp hN) hbytes hcells hslots hdg (fun q cB H1 hK1 hP1 hD1 hS1 => ?_)
  have e : cB = cA := mR_uni (mK_last hK1) (hK.2 t0 _ ht).2
  subst e
  obtain ⟨h1, h2⟩ := mW_push hI hP1 hD1 hS1
  exact kk q H1 h1 h2
theorem mr_new {c0 : Code} (hexec : p.tables.exec = Jvm.exec) (hb : c0.code = cc) {own C : String} {T : u_T} {N ci index : Nat} {Ts : List Cond} (hts : ∀ w ∈ Ts, w.before args s = true) (hin : ∀ w ∈ u_ws C T N, w ∈ Ts) (ty : Nat → FieldType) (hty : ∀ k, k < N → parseFieldDescriptor (T k).2.2.1 = some (ty k)) (hown : s.vm.findClass own = some m.cls) (hcl : (Cond.classLink own index C).before args s = true) (hinst : (Cond.instantiable C N).before args s = true) (hini : (Cond.initialized C).before args s = true)
    (hK : va_K D cl tys s) (hW : mW D cl A H0 M H locs) (hA : ∀ q, H0.size ≤ q → A q) (hc : cl[ci]? = some (C, T, N)) {fs : List Value} (hfs : ∀ j, j < N → defaultValue (ty j) = vp_V fs j) (hcells : cells + 1 ≤ R.cells) (hslots : slots + N ≤ R.slots) (hdg : decode cc pc = .ok (.new index, 3))
    (kk : ∀ (q : Nat) (H1 : Heap), M q = none → mW D cl A H0 (va_up M q (some (.inr (ci, fs)))) H1 locs → W p l e R s m args below meth c0 H1 locs (cells + 1) (slots + N) Q (F0 m (pc + 3) ls (.ref q :: rest))) : W p l e R s m args below meth c0 H locs cells slots Q (F0 m pc ls rest) := by
  obtain ⟨ws, hP, hD, hS, hI⟩ := mW_open hW
  refine va_new hexec hb hts hin ty hty hown hcl hinst hini hK hP hD hS hA hc hfs hcells hslots hdg (fun q H1 hP1 hD1 hS1 => ?_)
  obtain ⟨h1, h2⟩ := mW_push hI hP1 hD1 hS1
  exact kk q H1 h1 h2
theorem mr_copy (hexec : p.tables.exec = Jvm.exec) (hb : c.code = cc) (hml : c.maxLocals = ls.size) {own : String} {index : Nat} (hown : s.vm.findClass own = some m.cls) (hlink : (Cond.methodLink own index arraycopyName).before args s = true) (hnat : (Cond.native arraycopyName).before args s = true) (hstat : (Cond.static arraycopyName).before args s = true) (hini : (Cond.initialized "java/lang/System").before args s = true)
    (hK : va_K D cl tys s) (hW : mW D cl A H0 M H locs) (t0 t1 : Nat) {a0 : Nat} {c0 c1 : ClassId} {n0 n1 : Nat} {f g : Nat → Option Nat} {E0 E1 : String} (ha0 : M a0 = some (eQ c0 n0 f)) (ha1 : M a = some (eQ c1 n1 g)) (ht0 : tys[t0]? = some (c0, .object E0)) (ht1 : tys[t1]? = some (c1, .object E1))
    {n : Nat} (hn : n < 2 ^ 31) (h4 : n ≤ n0) (h5 : n ≤ n1) (hel : ∀ i : Nat, i < n → ∀ y : Nat, f i = some y → va_Any E1 s H y)
    (hframes : 1 ≤ R.frames) (hlocals : (rest.map fun v => v.category).sum + (nativeFrameWords "java/lang/System" "arraycopy" 5 + 11) ≤ R.locals) (hdg : decode cc pc = .ok (.invokestatic index, 3))
    (kk : ∀ (H1 : Heap) (locs1 : List Loc), mW D cl A H0 (va_up M a (some (eQ c1 n1 (va_cpy f g 0 0 n)))) H1 locs1 → W p l e R s m args below meth c H1 locs1 cells slots Q (F0 m (pc + 3) ls rest)) : W p l e R s m args below meth c H locs cells slots Q (F0 m pc ls (.int (nI n) :: .int 0 :: .ref a :: .int 0 :: .ref a0 :: rest)) := by
  obtain ⟨ws, hP, hD, hS, hI⟩ := mW_open hW
  obtain ⟨k0, hk0⟩ := (hI _ _).mp ha0
  obtain ⟨k1, hk1⟩ := (hI _ _).mp ha1
  have e0 : (0 : Int32).toNatClampNeg = 0 := by decide
  have en : (nI n).toNatClampNeg = n := nI_clamp hn
  refine va_copyM hexec hb hml hown hlink hnat hstat hini hK hP hD hS k0 k1 t0 t1 hk0 hk1 ht0 ht1 (by decide) (by decide) (nI_pos hn) (by rw [e0, en]; omega) (by rw [e0, en]; omega) (fun i hi y hy => ?_) hframes hlocals hdg (fun H1 locs1 hP1 hD1 hS1 => ?_)
  · rw [en] at hi
    rw [e0, Nat.zero_add] at hy
    exact hel i hi y hy
  · rw [e0, en] at hP1 hD1
    exact kk H1 locs1 (mW_set hD hI hk1 hP1 hD1 hS1)
end MRW
/-! ints as naturals below 2 ^ 32, read as signed numbers (mine) -/
abbrev NO : Nat := 4294967295
theorem nU_toInt {u : Nat} (h : u < 4294967296) : (nI u).toInt = if u < 2147483648 then (u : Int) else (u : Int) - 4294967296 := by
  have h1 : (nI u).toInt = (u : Int).bmod 4294967296 := by
    show (Int32.ofNat u).toInt = _
    rw [Int32.toInt_ofNat']
  rw [h1, Int.bmod_def]
  have h2 : (u : Int) % ((4294967296 : Nat) : Int) = u := Int.emod_eq_of_lt (by omega) (by omega)
  rw [h2]
  split <;> split <;> omega
theorem nU_eq {a b : Nat} (ha : a < 4294967296) (hb : b < 4294967296) : nI a = nI b ↔ a = b := by
  constructor
  · intro h
    have h1 := nU_toInt ha
    have h2 := nU_toInt hb
    rw [h, h2] at h1
    split at h1 <;> split at h1 <;> omega
  · intro h; rw [h]
theorem nU_lt {u v : Nat} (hu : u < 4294967296) (hv : v < 2147483648) : nI u < nI v ↔ (u < v ∨ 2147483648 ≤ u) := by
  rw [Int32.lt_iff_toInt_lt, nU_toInt hu, nU_toInt (show v < 4294967296 by omega), if_pos hv]
  split <;> omega
theorem nU_le {u v : Nat} (hu : u < 4294967296) (hv : v < 2147483648) : nI u ≤ nI v ↔ (u ≤ v ∨ 2147483648 ≤ u) := by
  rw [Int32.le_iff_toInt_le, nU_toInt hu, nU_toInt (show v < 4294967296 by omega), if_pos hv]
  split <;> omega
theorem nU_gt {u v : Nat} (hu : u < 4294967296) (hv : v < 2147483648) : nI v < nI u ↔ (v < u ∧ u < 2147483648) := by
  rw [Int32.lt_iff_toInt_lt, nU_toInt hu, nU_toInt (show v < 4294967296 by omega), if_pos hv]
  split <;> omega
theorem nU_ge {u v : Nat} (hu : u < 4294967296) (hv : v < 2147483648) : nI v ≤ nI u ↔ (v ≤ u ∧ u < 2147483648) := by
  rw [Int32.le_iff_toInt_le, nU_toInt hu, nU_toInt (show v < 4294967296 by omega), if_pos hv]
  split <;> omega
/-- every int is one of these -/
theorem nU_of (x : Int32) : ∃ u : Nat, u < 4294967296 ∧ x = nI u := by
  refine ⟨x.toBitVec.toNat, x.toBitVec.isLt, ?_⟩
  show x = Int32.ofNat _
  apply Int32.toBitVec_inj.mp
  rw [Int32.toBitVec_ofNat']
  exact (BitVec.ofNat_toNat 32 x.toBitVec).symm ▸ rfl
theorem nI_zero : (0 : Int32) = nI 0 := rfl
section NVR
variable {p : Program} {l : Launch} {e : Env} {R : Room} {s : State} {m : MethodId} {args : Array Value} {below : List Frame} {meth : Method} {c : Code} {H : Heap} {locs : List Loc} {cells slots : Nat} {Q : State → Prop}
variable {cc : ByteArray} {pc : Nat} {ls : Array Slot} {rest : List Value} {u v : Nat}
theorem lv_tope {x y : Int32} (h : x = y) (k : W p l e R s m args below meth c H locs cells slots Q (F0 m pc ls (.int y :: rest))) : W p l e R s m args below meth c H locs cells slots Q (F0 m pc ls (.int x :: rest)) := h ▸ k
theorem nv_icmp_lt (hexec : p.tables.exec = Jvm.exec) (hb : c.code = cc) {off : Int} {tgt : Nat} (hdg : decode cc pc = .ok (.if_icmp .lt off, 3)) (ht : (pc : Int) + off = (tgt : Int)) (hu : u < 4294967296) (hv : v < 2147483648) (kt : (u < v ∨ 2147483648 ≤ u) → W p l e R s m args below meth c H locs cells slots Q (F0 m tgt ls rest)) (kf : ¬ (u < v ∨ 2147483648 ≤ u) → W p l e R s m args below meth c H locs cells slots Q (F0 m (pc + 3) ls rest)) : W p l e R s m args below meth c H locs cells slots Q (F0 m pc ls (.int (nI v) :: .int (nI u) :: rest)) :=
  lv_icmp_lt hexec hb hdg ht (fun h => kt ((nU_lt hu hv).mp h)) (fun h => kf (fun z => h ((nU_lt hu hv).mpr z)))
theorem nv_if_lt (hexec : p.tables.exec = Jvm.exec) (hb : c.code = cc) {off : Int} {tgt : Nat} (hdg : decode cc pc = .ok (.ifCond .lt off, 3)) (ht : (pc : Int) + off = (tgt : Int)) (hu : u < 4294967296) (kt : (u < 0 ∨ 2147483648 ≤ u) → W p l e R s m args below meth c H locs cells slots Q (F0 m tgt ls rest)) (kf : ¬ (u < 0 ∨ 2147483648 ≤ u) → W p l e R s m args below meth c H locs cells slots Q (F0 m (pc + 3) ls rest)) : W p l e R s m args below meth c H locs cells slots Q (F0 m pc ls (.int (nI u) :: rest)) :=
  lv_if_lt hexec hb hdg ht (fun h => kt ((nU_lt hu (by decide)).mp h)) (fun h => kf (fun z => h ((nU_lt hu (by decide)).mpr z)))
theorem nv_icmp_le (hexec : p.tables.exec = Jvm.exec) (hb : c.code = cc) {off : Int} {tgt : Nat} (hdg : decode cc pc = .ok (.if_icmp .le off, 3)) (ht : (pc : Int) + off = (tgt : Int)) (hu : u < 4294967296) (hv : v < 2147483648) (kt : (u ≤ v ∨ 2147483648 ≤ u) → W p l e R s m args below meth c H locs cells slots Q (F0 m tgt ls rest)) (kf : ¬ (u ≤ v ∨ 2147483648 ≤ u) → W p l e R s m args below meth c H locs cells slots Q (F0 m (pc + 3) ls rest)) : W p l e R s m args below meth c H locs cells slots Q (F0 m pc ls (.int (nI v) :: .int (nI u) :: rest)) :=
  lv_icmp_le hexec hb hdg ht (fun h => kt ((nU_le hu hv).mp h)) (fun h => kf (fun z => h ((nU_le hu hv).mpr z)))
theorem nv_if_le (hexec : p.tables.exec = Jvm.exec) (hb : c.code = cc) {off : Int} {tgt : Nat} (hdg : decode cc pc = .ok (.ifCond .le off, 3)) (ht : (pc : Int) + off = (tgt : Int)) (hu : u < 4294967296) (kt : (u ≤ 0 ∨ 2147483648 ≤ u) → W p l e R s m args below meth c H locs cells slots Q (F0 m tgt ls rest)) (kf : ¬ (u ≤ 0 ∨ 2147483648 ≤ u) → W p l e R s m args below meth c H locs cells slots Q (F0 m (pc + 3) ls rest)) : W p l e R s m args below meth c H locs cells slots Q (F0 m pc ls (.int (nI u) :: rest)) :=
  lv_if_le hexec hb hdg ht (fun h => kt ((nU_le hu (by decide)).mp h)) (fun h => kf (fun z => h ((nU_le hu (by decide)).mpr z)))
theorem nv_icmp_gt (hexec : p.tables.exec = Jvm.exec) (hb : c.code = cc) {off : Int} {tgt : Nat} (hdg : decode cc pc = .ok (.if_icmp .gt off, 3)) (ht : (pc : Int) + off = (tgt : Int)) (hu : u < 4294967296) (hv : v < 2147483648) (kt : (v < u ∧ u < 2147483648) → W p l e R s m args below meth c H locs cells slots Q (F0 m tgt ls rest)) (kf : ¬ (v < u ∧ u < 2147483648) → W p l e R s m args below meth c H locs cells slots Q (F0 m (pc + 3) ls rest)) : W p l e R s m args below meth c H locs cells slots Q (F0 m pc ls (.int (nI v) :: .int (nI u) :: rest)) :=
  lv_icmp_gt hexec hb hdg ht (fun h => kt ((nU_gt hu hv).mp h)) (fun h => kf (fun z => h ((nU_gt hu hv).mpr z)))
theorem nv_if_gt (hexec : p.tables.exec = Jvm.exec) (hb : c.code = cc) {off : Int} {tgt : Nat} (hdg : decode cc pc = .ok (.ifCond .gt off, 3)) (ht : (pc : Int) + off = (tgt : Int)) (hu : u < 4294967296) (kt : (0 < u ∧ u < 2147483648) → W p l e R s m args below meth c H locs cells slots Q (F0 m tgt ls rest)) (kf : ¬ (0 < u ∧ u < 2147483648) → W p l e R s m args below meth c H locs cells slots Q (F0 m (pc + 3) ls rest)) : W p l e R s m args below meth c H locs cells slots Q (F0 m pc ls (.int (nI u) :: rest)) :=
  lv_if_gt hexec hb hdg ht (fun h => kt ((nU_gt hu (by decide)).mp h)) (fun h => kf (fun z => h ((nU_gt hu (by decide)).mpr z)))
theorem nv_icmp_ge (hexec : p.tables.exec = Jvm.exec) (hb : c.code = cc) {off : Int} {tgt : Nat} (hdg : decode cc pc = .ok (.if_icmp .ge off, 3)) (ht : (pc : Int) + off = (tgt : Int)) (hu : u < 4294967296) (hv : v < 2147483648) (kt : (v ≤ u ∧ u < 2147483648) → W p l e R s m args below meth c H locs cells slots Q (F0 m tgt ls rest)) (kf : ¬ (v ≤ u ∧ u < 2147483648) → W p l e R s m args below meth c H locs cells slots Q (F0 m (pc + 3) ls rest)) : W p l e R s m args below meth c H locs cells slots Q (F0 m pc ls (.int (nI v) :: .int (nI u) :: rest)) :=
  lv_icmp_ge hexec hb hdg ht (fun h => kt ((nU_ge hu hv).mp h)) (fun h => kf (fun z => h ((nU_ge hu hv).mpr z)))
theorem nv_if_ge (hexec : p.tables.exec = Jvm.exec) (hb : c.code = cc) {off : Int} {tgt : Nat} (hdg : decode cc pc = .ok (.ifCond .ge off, 3)) (ht : (pc : Int) + off = (tgt : Int)) (hu : u < 4294967296) (kt : (0 ≤ u ∧ u < 2147483648) → W p l e R s m args below meth c H locs cells slots Q (F0 m tgt ls rest)) (kf : ¬ (0 ≤ u ∧ u < 2147483648) → W p l e R s m args below meth c H locs cells slots Q (F0 m (pc + 3) ls rest)) : W p l e R s m args below meth c H locs cells slots Q (F0 m pc ls (.int (nI u) :: rest)) :=
  lv_if_ge hexec hb hdg ht (fun h => kt ((nU_ge hu (by decide)).mp h)) (fun h => kf (fun z => h ((nU_ge hu (by decide)).mpr z)))
theorem nv_icmp_eq (hexec : p.tables.exec = Jvm.exec) (hb : c.code = cc) {off : Int} {tgt : Nat} (hdg : decode cc pc = .ok (.if_icmp .eq off, 3)) (ht : (pc : Int) + off = (tgt : Int)) (hu : u < 4294967296) (hv : v < 4294967296) (kt : (u = v) → W p l e R s m args below meth c H locs cells slots Q (F0 m tgt ls rest)) (kf : (¬ u = v) → W p l e R s m args below meth c H locs cells slots Q (F0 m (pc + 3) ls rest)) : W p l e R s m args below meth c H locs cells slots Q (F0 m pc ls (.int (nI v) :: .int (nI u) :: rest)) :=
  lv_icmp_eq hexec hb hdg ht (fun h => kt ((nU_eq hu hv).mp h)) (fun h => kf (fun z => h ((nU_eq hu hv).mpr z)))
theorem nv_if_eq (hexec : p.tables.exec = Jvm.exec) (hb : c.code = cc) {off : Int} {tgt : Nat} (hdg : decode cc pc = .ok (.ifCond .eq off, 3)) (ht : (pc : Int) + off = (tgt : Int)) (hu : u < 4294967296) (kt : (u = 0) → W p l e R s m args below meth c H locs cells slots Q (F0 m tgt ls rest)) (kf : (¬ u = 0) → W p l e R s m args below meth c H locs cells slots Q (F0 m (pc + 3) ls rest)) : W p l e R s m args below meth c H locs cells slots Q (F0 m pc ls (.int (nI u) :: rest)) := by
  have hv : (0 : Nat) < 4294967296 := by decide
  exact lv_if_eq hexec hb hdg ht (fun h => kt ((nU_eq hu hv).mp h)) (fun h => kf (fun z => h ((nU_eq hu hv).mpr z)))
theorem nv_icmp_ne (hexec : p.tables.exec = Jvm.exec) (hb : c.code = cc) {off : Int} {tgt : Nat} (hdg : decode cc pc = .ok (.if_icmp .ne off, 3)) (ht : (pc : Int) + off = (tgt : Int)) (hu : u < 4294967296) (hv : v < 4294967296) (kt : (¬ u = v) → W p l e R s m args below meth c H locs cells slots Q (F0 m tgt ls rest)) (kf : (u = v) → W p l e R s m args below meth c H locs cells slots Q (F0 m (pc + 3) ls rest)) : W p l e R s m args below meth c H locs cells slots Q (F0 m pc ls (.int (nI v) :: .int (nI u) :: rest)) :=
  lv_icmp_ne hexec hb hdg ht (fun h => kt (fun z => h ((nU_eq hu hv).mpr z))) (fun h => kf ((nU_eq hu hv).mp h))
theorem nv_if_ne (hexec : p.tables.exec = Jvm.exec) (hb : c.code = cc) {off : Int} {tgt : Nat} (hdg : decode cc pc = .ok (.ifCond .ne off, 3)) (ht : (pc : Int) + off = (tgt : Int)) (hu : u < 4294967296) (kt : (¬ u = 0) → W p l e R s m args below meth c H locs cells slots Q (F0 m tgt ls rest)) (kf : (u = 0) → W p l e R s m args below meth c H locs cells slots Q (F0 m (pc + 3) ls rest)) : W p l e R s m args below meth c H locs cells slots Q (F0 m pc ls (.int (nI u) :: rest)) := by
  have hv : (0 : Nat) < 4294967296 := by decide
  exact lv_if_ne hexec hb hdg ht (fun h => kt (fun z => h ((nU_eq hu hv).mpr z))) (fun h => kf ((nU_eq hu hv).mp h))
/-- a truth value tested -/
theorem nb_if_eq {P : Prop} [Decidable P] (hexec : p.tables.exec = Jvm.exec) (hb : c.code = cc) {off : Int} {tgt : Nat} (hdg : decode cc pc = .ok (.ifCond .eq off, 3)) (ht : (pc : Int) + off = (tgt : Int)) (kt : ¬ P → W p l e R s m args below meth c H locs cells slots Q (F0 m tgt ls rest)) (kf : P → W p l e R s m args below meth c H locs cells slots Q (F0 m (pc + 3) ls rest)) : W p l e R s m args below meth c H locs cells slots Q (F0 m pc ls (.int (nI (if P then 1 else 0)) :: rest)) := by
  by_cases h : P
  · rw [if_pos h]
    exact lv_if_eq hexec hb hdg ht (fun z => absurd z (by decide)) (fun _ => kf h)
  · rw [if_neg h]
    exact lv_if_eq hexec hb hdg ht (fun _ => kt h) (fun z => absurd rfl z)
theorem nb_if_ne {P : Prop} [Decidable P] (hexec : p.tables.exec = Jvm.exec) (hb : c.code = cc) {off : Int} {tgt : Nat} (hdg : decode cc pc = .ok (.ifCond .ne off, 3)) (ht : (pc : Int) + off = (tgt : Int)) (kt : P → W p l e R s m args below meth c H locs cells slots Q (F0 m tgt ls rest)) (kf : ¬ P → W p l e R s m args below meth c H locs cells slots Q (F0 m (pc + 3) ls rest)) : W p l e R s m args below meth c H locs cells slots Q (F0 m pc ls (.int (nI (if P then 1 else 0)) :: rest)) := by
  by_cases h : P
  · rw [if_pos h]
    exact lv_if_ne hexec hb hdg ht (fun _ => kt h) (fun z => absurd z (by decide))
  · rw [if_neg h]
    exact lv_if_ne hexec hb hdg ht (fun z => absurd rfl z) (fun _ => kf h)
end NVR
