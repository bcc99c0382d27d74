/-! NEW ROWS OF NUMBERS (mine) -/
section NWR
variable {p : Program} {l : Launch} {e : Env} {R : Room} {s : State} {m : MethodId} {args : Array Value} {below : List Frame} {meth : Method} {c : Code} {H : Heap} {locs : List Loc} {cells slots : Nat} {Q : State → Prop}
variable {cc : ByteArray} {pc : Nat} {ls : Array Slot} {rest : List Value} {D : va_G} {cl : List vw_C} {A : Nat → Prop} {tys : List (ClassId × FieldType)} {M : Mem} {H0 : Heap}
theorem mr_newI (hexec : p.tables.exec = Jvm.exec) (hb : c.code = cc) (harr : (Cond.arrayClass .int).before args s = true) (hK : va_K D cl tys s) (hW : mW D cl A H0 M H locs) (hA : ∀ q, H0.size ≤ q → A q) (t0 : Nat) {cA : ClassId} (ht : tys[t0]? = some (cA, .int))
    {N : Nat} (hN : N ≤ 100000) (hcells : cells + 1 ≤ R.cells) (hslots : slots + N ≤ R.slots) (hdg : decode cc pc = .ok (.newarray .int, 2))
    (kk : ∀ (q : Nat) (H1 : Heap), M q = none → mW D cl A H0 (va_up M q (some (eI cA N (fun _ => 0)))) H1 locs → W p l e R s m args below meth c H1 locs (cells + 1) (slots + N) Q (F0 m (pc + 2) ls (.ref q :: rest))) : W p l e R s m args below meth c H locs cells slots Q (F0 m pc ls (.int (nI N) :: rest)) :=
  mr_newa (atype := .int) (ty := .int) (a0 := (N, .inl (fun _ => 0))) (N := N) hexec hb harr rfl hK hW hA t0 ht (fun cA => by rw [vp_cell_i]; rfl) rfl (by omega) (Nat.le_trans (Nat.mul_le_mul_right _ hN) (by decide)) hcells hslots hdg kk
theorem mr_newC (hexec : p.tables.exec = Jvm.exec) (hb : c.code = cc) (harr : (Cond.arrayClass .char).before args s = true) (hK : va_K D cl tys s) (hW : mW D cl A H0 M H locs) (hA : ∀ q, H0.size ≤ q → A q) (t0 : Nat) {cA : ClassId} (ht : tys[t0]? = some (cA, .char))
    {N : Nat} (hN : N ≤ 100000) (hcells : cells + 1 ≤ R.cells) (hslots : slots + N ≤ R.slots) (hdg : decode cc pc = .ok (.newarray .char, 2))
    (kk : ∀ (q : Nat) (H1 : Heap), M q = none → mW D cl A H0 (va_up M q (some (eI cA N (fun _ => 0)))) H1 locs → W p l e R s m args below meth c H1 locs (cells + 1) (slots + N) Q (F0 m (pc + 2) ls (.ref q :: rest))) : W p l e R s m args below meth c H locs cells slots Q (F0 m pc ls (.int (nI N) :: rest)) :=
  mr_newa (atype := .char) (ty := .char) (a0 := (N, .inl (fun _ => 0))) (N := N) hexec hb harr rfl hK hW hA t0 ht (fun cA => by rw [vp_cell_i]; rfl) rfl (by omega) (Nat.le_trans (Nat.mul_le_mul_right _ hN) (by decide)) hcells hslots hdg kk
end NWR
