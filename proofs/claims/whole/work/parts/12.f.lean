/-! THE CLASS: calls of a list's add and clear over its picture (mine) -/
section CRL
variable {p : Program} {l : Launch} {e : Env} {R : Room} {s : State} {m : MethodId} {args : Array Value} {below : List Frame} {meth : Method} {c : Code} {H : Heap} {locs : List Loc} {cells slots : Nat} {Q : State → Prop}
variable {cc : ByteArray} {pc : Nat} {ls : Array Slot} {rest : List Value} {G : mG} {N : Mem} {Γ : Adr} {ς : Sg} {A : Nat → Prop} {own : String} {index maxL nL : Nat} {bytes : ByteArray} {ret : Option FieldType} {Ts : List Cond}
theorem mW_00 {M : Mem} (hE : sE G A s s.heap) (h1 : mW G.1 vwCl A s.heap M H locs) : M (G.2.2 0) = none := by
  obtain ⟨cell, -, -, -, -, -, -, hna⟩ := hE.1.2.2.2
  cases hm : M (G.2.2 0) with
  | none => rfl
  | some e => exact absurd (h1.2.2 _ _ hm) hna
theorem ck_add (S : CallFix p m c cc nL s args Ts own) (cw : CallW R s args own RJx4a65c index yJx4a65c_add_9ea2d bytes maxL ret wsJx4a65c_add_9ea2d (mRm 6 1 64) 1 64 1) (hK : va_K G.1 vwCl (kT G) s) (hE : sE G A s s.heap) (hW : cW G N Γ ς A s.heap H locs) (hA : ∀ q, s.heap.size ≤ q → A q) {x n w v : Nat} (hx : isL ς x) (hn : ς 30 x = n) (h40 : n ≤ 40) {ς' : Sg} (he : ς' = st (st ς 31 (64 * x + n) w) 30 x (n + 1)) (hv : v = Γ (elk x) (eli ς' x n)) (hel : ∀ cp j, j < n → Dm ς cp (elk x) (eli ς x j)) (hvd : ∀ cp, Dm ς cp (elk x) (eli ς' x n)) (hD : ∀ cp k i, Dm ς' cp k i → Dm ς cp k i) (hsize : ls.size = nL) (hcat : (rest.map fun v => v.category).sum ≤ 8) (hdg : decode cc pc = .ok (.invokevirtual index, 3)) (hcs : cells + 1 ≤ R.cells ∧ slots + 64 ≤ R.slots)
    (kk : ∀ (H1 : Heap) (locs1 : List Loc), cW G N Γ ς' A s.heap H1 locs1 → W p l e R s m args below meth c H1 locs1 (cells + 1) (slots + 64) Q (F0 m (pc + 3) ls (.int (nI 1) :: rest))) : W p l e R s m args below meth c H locs cells slots Q (F0 m pc ls (.ref v :: .ref (Γ 2 x) :: rest)) := by
  obtain ⟨M, h1, h2⟩ := hW
  obtain ⟨mc, a, f, c1, c2, c3, c4, c5⟩ := h2.add (mW_00 hE h1) hx hn h40 he hv hel hvd hD
  exact mk_i (va_runV (As := [.ref v]) (rest := rest) S (jAdd l G M H.size (Γ 2 x) a n v mc f c1 c2 h40 c3 c4) cw (mp_V hK hE h1 hA (mW_recv hK h1.1 c1 (by rfl))) rfl rfl hsize rfl (lv_room hcat) hdg hcs) h1 hA (fun r M' H1 locs1 hp hW1 => by obtain ⟨e1, hp⟩ := hp; subst e1; exact kk H1 locs1 ⟨M', hW1, c5 _ _ hp⟩)
theorem ck_clr (S : CallFix p m c cc nL s args Ts own) (cw : CallW R s args own RJx4a65c index yJx4a65c_clear_da8c8 bytes maxL ret wsJx4a65c_clear_da8c8 (mRm 0 0 0) 0 0 0) (hK : va_K G.1 vwCl (kT G) s) (hE : sE G A s s.heap) (hW : cW G N Γ ς A s.heap H locs) (hA : ∀ q, s.heap.size ≤ q → A q) (hsize : ls.size = nL) (hcat : (rest.map fun v => v.category).sum ≤ 8) (hdg : decode cc pc = .ok (.invokevirtual index, 3)) (hcs : cells + 0 ≤ R.cells ∧ slots + 0 ≤ R.slots)
    (kk : ∀ (H1 : Heap) (locs1 : List Loc), cW G N Γ (st ς 30 2 0) A s.heap H1 locs1 → W p l e R s m args below meth c H1 locs1 cells slots Q (F0 m (pc + 3) ls rest)) : W p l e R s m args below meth c H locs cells slots Q (F0 m pc ls (.ref (Γ 2 2) :: rest)) := by
  obtain ⟨M, h1, h2⟩ := hW
  obtain ⟨mc, a, f, c1, c2⟩ := h2.clr
  rcases c2 with ⟨c2, c3⟩ | ⟨cap, c2, c3, c4, c5⟩
  · exact mk_v (va_runV (As := []) (rest := rest) S (jClearE l G M H.size (Γ 2 2) a (ς 30 2) mc c1 c2) cw (mp_V hK hE h1 hA (mW_recv hK h1.1 c1 (by rfl))) rfl rfl hsize rfl (lv_room hcat) hdg hcs) h1 hA (fun M' H1 locs1 hp hW1 => kk H1 locs1 ⟨M', hW1, c3 _ hp⟩)
  · exact mk_v (va_runV (As := []) (rest := rest) S (jClearQ l G M H.size (Γ 2 2) a (ς 30 2) cap mc f c1 c2 c3 c4) cw (mp_V hK hE h1 hA (mW_recv hK h1.1 c1 (by rfl))) rfl rfl hsize rfl (lv_room hcat) hdg hcs) h1 hA (fun M' H1 locs1 hp hW1 => kk H1 locs1 ⟨M', hW1, c5 _ hp⟩)
theorem st_id {ς : Sg} {f j : Nat} : st ς f j (ς f j) = ς := by
  funext a b
  by_cases h : a = f ∧ b = j
  · obtain ⟨rfl, rfl⟩ := h; exact st_s
  · exact if_neg h
theorem Dm_add {ς : Sg} {x a w v : Nat} {cp : Nat → Nat} {k i : Nat} (hx : x < 10 ∨ 20 ≤ x) (h8 : ς 33 0 ≤ 8) (h : Dm (st (st ς 31 a w) 30 x v) cp k i) : Dm ς cp k i := by
  unfold Dm isL isR at h ⊢
  rw [st_row (show (33 : Nat) ≠ 30 by decide), st_row (show (33 : Nat) ≠ 31 by decide), st_row (show (35 : Nat) ≠ 30 by decide), st_row (show (35 : Nat) ≠ 31 by decide)] at h
  by_cases z : i / 21 < ς 33 0
  · rw [st_i (show 10 + i / 21 ≠ x by omega), st_f (show (30 : Nat) ≠ 31 by decide)] at h
    exact h
  · simp only [z, false_and, and_false, false_or, or_false] at h ⊢
    exact h
theorem Dm9 {ς : Sg} {cp : Nat → Nat} {i : Nat} (h : i < ς 33 1) : Dm ς cp 9 i := by unfold Dm; simp [h]
theorem Dm4 {ς : Sg} {cp : Nat → Nat} {i : Nat} (h : i < ς 33 0) : Dm ς cp 4 i := by unfold Dm; simp [h]
theorem Dm5 {ς : Sg} {cp : Nat → Nat} {i : Nat} (h : isR ς i) : Dm ς cp 5 i := by unfold Dm; simp [h]
theorem ck_addL (S : CallFix p m c cc nL s args Ts own) (cw : CallW R s args own RJx4a65c index yJx4a65c_add_9ea2d bytes maxL ret wsJx4a65c_add_9ea2d (mRm 6 1 64) 1 64 1) (hK : va_K G.1 vwCl (kT G) s) (hE : sE G A s s.heap) (hW : cW G N Γ ς A s.heap H locs) (hA : ∀ q, s.heap.size ≤ q → A q) {x n i : Nat} (hx : isL ς x) (hx2 : x = 2 ∨ 20 ≤ x) (h8 : ς 33 0 ≤ 8) (hn : ς 30 x = n) (h40 : n ≤ 40) (hi : i < ς 33 1) (hel : ∀ j, j < n → ς 31 (64 * x + j) < ς 33 1) (hsize : ls.size = nL) (hcat : (rest.map fun v => v.category).sum ≤ 8) (hdg : decode cc pc = .ok (.invokevirtual index, 3)) (hcs : cells + 1 ≤ R.cells ∧ slots + 64 ≤ R.slots)
    (kk : ∀ (H1 : Heap) (locs1 : List Loc), cW G N Γ (st (st ς 31 (64 * x + n) i) 30 x (n + 1)) A s.heap H1 locs1 → W p l e R s m args below meth c H1 locs1 (cells + 1) (slots + 64) Q (F0 m (pc + 3) ls (.int (nI 1) :: rest))) : W p l e R s m args below meth c H locs cells slots Q (F0 m pc ls (.ref (Γ 9 i) :: .ref (Γ 2 x) :: rest)) := by
  have ek : elk x = 9 := by unfold elk; rw [if_neg (by omega), if_neg (by omega)]
  have ee : ∀ (ς9 : Sg) j, eli ς9 x j = ς9 31 (64 * x + j) := fun ς9 j => by unfold eli; rw [if_neg (by omega), if_neg (by omega)]
  have e9 : st (st ς 31 (64 * x + n) i) 30 x (n + 1) 31 (64 * x + n) = i := by rw [st_f (by decide), st_s]
  refine ck_add S cw hK hE hW hA (w := i) hx hn h40 rfl ?_ ?_ ?_ ?_ hsize hcat hdg hcs kk
  · rw [ek, ee, e9]
  · intro cp j hj
    rw [ek, ee]
    exact Dm9 (hel j hj)
  · intro cp
    rw [ek, ee, e9]
    exact Dm9 hi
  · exact fun cp k j h => Dm_add (by omega) h8 h
end CRL
