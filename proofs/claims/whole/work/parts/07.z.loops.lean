/-! LOOPS (mine): the goal at a loop's head, by an invariant that counts up -/
section LPS
variable {p : Program} {l : Launch} {e : Env} {R : Room} {s : State} {m : MethodId} {args : Array Value} {below : List Frame} {meth : Method} {c : Code} {H : Heap} {locs : List Loc} {cells slots : Nat} {Q : State → Prop}
variable {pc : Nat} {ls : Array Slot}
theorem m_loop (N : Nat) (I : Nat → Heap → List Loc → Array Slot → Prop) (n0 : Nat) (hn0 : n0 ≤ N) (h0 : I n0 H locs ls)
    (step : ∀ (n : Nat) (H : Heap) (locs : List Loc) (ls : Array Slot), n ≤ N → I n H locs ls → (∀ (H' : Heap) (locs' : List Loc) (ls' : Array Slot), n < N → I (n + 1) H' locs' ls' → W p l e R s m args below meth c H' locs' cells slots Q (F0 m pc ls' [])) → W p l e R s m args below meth c H locs cells slots Q (F0 m pc ls [])) :
    W p l e R s m args below meth c H locs cells slots Q (F0 m pc ls []) := by
  have key : ∀ (f n : Nat), n ≤ N → N - n < f → ∀ (H : Heap) (locs : List Loc) (ls : Array Slot), I n H locs ls → W p l e R s m args below meth c H locs cells slots Q (F0 m pc ls []) := by
    intro f
    induction f with
    | zero => intro n _ h; omega
    | succ f ih =>
      intro n hn hf H locs ls hI
      exact step n H locs ls hn hI (fun H' locs' ls' hlt hI' => ih (n + 1) (by omega) (by omega) H' locs' ls' hI')
  exact key (N + 1) n0 hn0 (by omega) H locs ls h0
/-- .. and the cells that are made grow with it -/
theorem m_loopC (N : Nat) (I : Nat → Heap → List Loc → Array Slot → Nat → Nat → Prop) (n0 : Nat) (hn0 : n0 ≤ N) (h0 : I n0 H locs ls cells slots)
    (step : ∀ (n : Nat) (H : Heap) (locs : List Loc) (ls : Array Slot) (cells slots : Nat), n ≤ N → I n H locs ls cells slots → (∀ (H' : Heap) (locs' : List Loc) (ls' : Array Slot) (cells' slots' : Nat), n < N → I (n + 1) H' locs' ls' cells' slots' → W p l e R s m args below meth c H' locs' cells' slots' Q (F0 m pc ls' [])) → W p l e R s m args below meth c H locs cells slots Q (F0 m pc ls [])) :
    W p l e R s m args below meth c H locs cells slots Q (F0 m pc ls []) := by
  have key : ∀ (f n : Nat), n ≤ N → N - n < f → ∀ (H : Heap) (locs : List Loc) (ls : Array Slot) (cells slots : Nat), I n H locs ls cells slots → W p l e R s m args below meth c H locs cells slots Q (F0 m pc ls []) := by
    intro f
    induction f with
    | zero => intro n _ h; omega
    | succ f ih =>
      intro n hn hf H locs ls cells slots hI
      exact step n H locs ls cells slots hn hI (fun H' locs' ls' cells' slots' hlt hI' => ih (n + 1) (by omega) (by omega) H' locs' ls' cells' slots' hI')
  exact key (N + 1) n0 hn0 (by omega) H locs ls cells slots h0
end LPS
