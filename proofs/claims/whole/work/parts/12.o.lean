/-! THE CLASS: exceptions are thrown over the memory as it is (mine) -/
section TX
variable {p : Program} {l : Launch} {e : Env} {R : Room} {s : State} {m : MethodId} {args : Array Value} {below : List Frame} {meth : Method} {c : Code} {H : Heap} {locs : List Loc} {cells slots mc ms : Nat}
variable {cc : ByteArray} {pc : Nat} {ls : Array Slot} {rest : List Value} {G : mG} {M M0 : Mem} {sz : Nat}
theorem mP_lt {D : va_G} {cl : List vw_C} {M : Mem} {H : Heap} (h : mP D cl M H) {a : Nat} {e : va_E} (ha : M a = some e) : a < H.size := by
  obtain ⟨ws, hP, hD, hM⟩ := h
  obtain ⟨k, hk⟩ := (hM a e).mp ha
  exact vx_lt hP hk
/-- new E("text") is thrown, M is as it was -/
theorem mx_throw {Qc : Array Value → State → Outcome → State → Prop} {xp : String → Prop} {cls text : String} {ik is ic : Nat} {Ts : List Cond} (hx : p.tables.exec = Jvm.exec) (hb : c.code = cc) (hl : l.stackTraces = false) (hml : c.maxLocals = ls.size) (hown : s.vm.findClass RX4 = some m.cls) (hts : ∀ w ∈ Ts, w.before args s = true) (hlk : meth.locks = false) (htab : ∀ x ∈ c.exceptionTable.toList, False) (hE : sE G (mA M sz) s s.heap)
    (hXc : cls ∈ sXc)
    (hcls : Bundle.fit cls = true) (hk : Cond.classLink RX4 ik cls ∈ Ts) (hini : Cond.initialized cls ∈ Ts) (hat : ∀ w ∈ (vx_atS RX4 ic cls ["java/lang/RuntimeException", "java/lang/Exception"]).filter goodWord, w ∈ Ts) (hbad : ∀ w ∈ (vx_atS RX4 ic cls ["java/lang/RuntimeException", "java/lang/Exception"]).filter (fun w => !goodWord w), w ∈ [Cond.declares ⟨"java/lang/RuntimeException", "<init>", "(Ljava/lang/String;)V"⟩, .declares ⟨"java/lang/Exception", "<init>", "(Ljava/lang/String;)V"⟩, .declares ⟨"java/lang/Throwable", "<init>", "(Ljava/lang/String;)V"⟩, .castable cls cls])
    (hgood : ∀ w ∈ Cond.classLink RX4 ik cls :: Cond.initialized cls :: vx_atS RX4 ic cls ["java/lang/RuntimeException", "java/lang/Exception"], vx_ot w = true) (htx : (is, text) ∈ sTx)
    (hW : mW G.1 vwCl (mA M sz) s.heap M H locs) (hxp : xp cls)
    (d0 : decode cc pc = .ok (.new ik, 3)) (d3 : decode cc (pc + 3) = .ok (.dup, 1)) (d4 : decode cc (pc + 4) = .ok (.ldc is, 2)) (d6 : decode cc (pc + 6) = .ok (.invokespecial ic, 3)) (d9 : decode cc (pc + 9) = .ok (.athrow, 1))
    (hRf : 5 < R.frames) (hRl : (rest.map fun v => v.category).sum + 82 ≤ R.locals) (hRc : cells + 1 ≤ R.cells) (hRs : slots + 6 ≤ R.slots) (hc : cells + 1 ≤ mc) (hs : slots + 6 ≤ ms) :
    W p l e R s m args below meth c H locs cells slots (vx_MQ below Qc (mXc G M sz xp) args s mc ms (mA M sz)) (F0 m pc ls rest) := by
  obtain ⟨sa, hstr⟩ := hE.2.1 _ htx
  refine vx_throwS hx hb hl hown hcls (by decide +kernel) (hts _ hk) (hts _ hini) hstr (vx_hat (fun w hw => hts w (hat w hw)) hbad ?_) hgood hE.1.1 hE.1.2.1 hW.2.1 hml.symm d0 d3 d4 d6 d9 (fun x h => (htab x h).elim) (by show 2 + 3 < _; exact hRf) hRl hRc hRs hlk (fun t ht hsz hh => ?_) hW.2.1.2.2 hc hs
  · refine vx_c (va_Nw.use rfl (hE.2.2.2.2.2.2.2.1 _ (.head _))) (vx_c (va_Nw.use rfl (hE.2.2.2.2.2.2.2.1 _ (.tail _ (.head _)))) (vx_c (va_Nw.use rfl (hE.2.2.2.2.2.2.2.1 _ (.tail _ (.tail _ (.head _))))) (vx_c (va_Nw.use rfl (hE.2.2.2.2.2.2.2.2 _ hXc)) vx_n)))
  · exact ⟨(), trivial, ⟨hxp, mP_kept hW.1 (fun a e ha => hh a (mP_lt hW.1 ha)), hW.2.2⟩, Nat.le_trans hW.2.1.1 hsz, fun q h1 h2 => (hh q (Nat.lt_of_lt_of_le h1 hW.2.1.1)).trans (hW.2.1.2.1 q h1 h2)⟩
end TX

theorem tb_1 : ∀ w ∈ (vx_atS RX4 179 "java/lang/IndexOutOfBoundsException" ["java/lang/RuntimeException", "java/lang/Exception"]).filter (fun w => !goodWord w), w ∈ [Cond.declares ⟨"java/lang/RuntimeException", "<init>", "(Ljava/lang/String;)V"⟩, .declares ⟨"java/lang/Exception", "<init>", "(Ljava/lang/String;)V"⟩, .declares ⟨"java/lang/Throwable", "<init>", "(Ljava/lang/String;)V"⟩, .castable "java/lang/IndexOutOfBoundsException" "java/lang/IndexOutOfBoundsException"] := by decide +kernel
theorem tg_1 : ∀ w ∈ Cond.classLink RX4 175 "java/lang/IndexOutOfBoundsException" :: Cond.initialized "java/lang/IndexOutOfBoundsException" :: vx_atS RX4 179 "java/lang/IndexOutOfBoundsException" ["java/lang/RuntimeException", "java/lang/Exception"], vx_ot w = true := by decide +kernel
theorem tb_2 : ∀ w ∈ (vx_atS RX4 184 "java/lang/IllegalArgumentException" ["java/lang/RuntimeException", "java/lang/Exception"]).filter (fun w => !goodWord w), w ∈ [Cond.declares ⟨"java/lang/RuntimeException", "<init>", "(Ljava/lang/String;)V"⟩, .declares ⟨"java/lang/Exception", "<init>", "(Ljava/lang/String;)V"⟩, .declares ⟨"java/lang/Throwable", "<init>", "(Ljava/lang/String;)V"⟩, .castable "java/lang/IllegalArgumentException" "java/lang/IllegalArgumentException"] := by decide +kernel
theorem tg_2 : ∀ w ∈ Cond.classLink RX4 180 "java/lang/IllegalArgumentException" :: Cond.initialized "java/lang/IllegalArgumentException" :: vx_atS RX4 184 "java/lang/IllegalArgumentException" ["java/lang/RuntimeException", "java/lang/Exception"], vx_ot w = true := by decide +kernel
theorem tb_3 : ∀ w ∈ (vx_atS RX4 34 "java/lang/IllegalStateException" ["java/lang/RuntimeException", "java/lang/Exception"]).filter (fun w => !goodWord w), w ∈ [Cond.declares ⟨"java/lang/RuntimeException", "<init>", "(Ljava/lang/String;)V"⟩, .declares ⟨"java/lang/Exception", "<init>", "(Ljava/lang/String;)V"⟩, .declares ⟨"java/lang/Throwable", "<init>", "(Ljava/lang/String;)V"⟩, .castable "java/lang/IllegalStateException" "java/lang/IllegalStateException"] := by decide +kernel
theorem tg_3 : ∀ w ∈ Cond.classLink RX4 30 "java/lang/IllegalStateException" :: Cond.initialized "java/lang/IllegalStateException" :: vx_atS RX4 34 "java/lang/IllegalStateException" ["java/lang/RuntimeException", "java/lang/Exception"], vx_ot w = true := by decide +kernel
/-- which exception stands for the number th -/
def xOk (th : Nat) (xs : List String) (E : String) : Prop := 0 < th ∧ xs[th - 1]? = some E
theorem xOk.of {th k : Nat} {xs : List String} {E : String} (h : th = k) (hk : 0 < k) (he : xs[k - 1]? = some E) : xOk th xs E := by
  subst h
  exact ⟨hk, he⟩
