/-! THE CLASS: calls inside methods that change its picture (mine) -/
section CRK
variable {p : Program} {l : Launch} {e : Env} {R : Room} {s : State} {m : MethodId} {args : Array Value} {below : List Frame} {meth : Method} {c : Code} {H : Heap} {locs : List Loc} {cells slots mc ms : Nat} {Q : State → Prop}
variable {cc : ByteArray} {pc : Nat} {ls : Array Slot} {rest st0 : List Value} {G : mG} {N : Mem} {Γ : Adr} {ς ς' : Sg} {A : Nat → Prop} {own C : String} {index maxL n nL L b ci : Nat} {y : MethodName} {bytes : ByteArray} {ret : Option FieldType} {Ts ws : List Cond} {As : List Value} {fs : List Value} {r : vw_C}
theorem ck_Vv (S : CallFix p m c cc nL s args Ts own) (hC : cUv l y ws L mc ms G N Γ ς (.ref b :: As) ς') (cw : CallW R s args own r.1 index y bytes maxL ret ws (mRm L mc ms) mc ms n) (hK : va_K G.1 vwCl (kT G) s) (hE : sE G A s s.heap) (hW : cW G N Γ ς A s.heap H locs) (hA : ∀ q, s.heap.size ≤ q → A q) (hM : ∀ M, Rp G N Γ ς M → M b = some (.inr (ci, fs))) (hc : vwCl[ci]? = some r) (hn : As.length = n) (hsize : ls.size = nL) (hstack : st0 = As.reverse ++ .ref b :: rest) (hcat : (rest.map fun v => v.category).sum ≤ 8) (hdg : decode cc pc = .ok (.invokevirtual index, 3)) (hcs : cells + mc ≤ R.cells ∧ slots + ms ≤ R.slots)
    (kk : ∀ (H1 : Heap) (locs1 : List Loc), cW G N Γ ς' A s.heap H1 locs1 → W p l e R s m args below meth c H1 locs1 (cells + mc) (slots + ms) Q (F0 m (pc + 3) ls rest)) : W p l e R s m args below meth c H locs cells slots Q (F0 m pc ls st0) := by
  obtain ⟨M, h1, h2⟩ := hW
  exact mk_v (va_runV (As := As) (rest := rest) S (hC M H.size h2) cw (mp_V hK hE h1 hA (mW_recv hK h1.1 (hM M h2) hc)) rfl hn hsize hstack (lv_room hcat) hdg hcs) h1 hA (fun M' H1 locs1 hp hW1 => kk H1 locs1 ⟨M', hW1, hp⟩)
end CRK
