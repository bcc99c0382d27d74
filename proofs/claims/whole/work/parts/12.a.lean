/-! THE CLASS'S PICTURE CHANGES, cell by cell (mine) -/
theorem st_row {ς : Sg} {f j v g : Nat} (h : g ≠ f) : st ς f j v g = ς g := funext fun x => st_f h
def okd (f : Nat) : Nat := if f = 24 ∨ f = 22 then 0 else if f = 23 then 1 else if f = 31 then 3 else if f = 35 then 4 else if f = 1 ∨ f = 2 ∨ f = 3 then 5 else if f = 4 then 6 else if f = 5 then 7 else if f = 6 then 8 else if 9 ≤ f ∧ f ≤ 16 then 9 else if f = 18 then 10 else 11
def oix (f j : Nat) : Nat := if f = 31 then j / 64 else if f = 4 ∨ f = 5 ∨ f = 6 then j / 6 else if f = 17 then j / 200 else j
theorem rds_k {k i f j : Nat} (h : rds k i f j) (h30 : f ≠ 30) : k = okd f ∧ (2 ≤ k → i = oix f j) := by
  have e1 : okd f = okd f := rfl
  unfold okd at e1
  have e2 : oix f j = oix f j := rfl
  unfold oix at e2
  unfold rds at h
  split at h
  · rcases h with ⟨rfl | rfl, -⟩ <;> exact ⟨rfl, fun z => by omega⟩
  · obtain ⟨rfl, -⟩ := h; exact ⟨rfl, fun z => by omega⟩
  · exact absurd h.1 h30
  · rcases h with h | ⟨rfl, h⟩
    · exact absurd h.1 h30
    · exact ⟨rfl, fun _ => by show _ = j / 64; omega⟩
  · obtain ⟨rfl, rfl⟩ := h; exact ⟨rfl, fun _ => rfl⟩
  · rcases h with ⟨rfl | rfl | rfl, rfl⟩ <;> exact ⟨rfl, fun _ => rfl⟩
  · obtain ⟨rfl, h⟩ := h; exact ⟨rfl, fun _ => by show _ = j / 6; omega⟩
  · obtain ⟨rfl, h⟩ := h; exact ⟨rfl, fun _ => by show _ = j / 6; omega⟩
  · obtain ⟨rfl, h⟩ := h; exact ⟨rfl, fun _ => by show _ = j / 6; omega⟩
  · obtain ⟨h, rfl⟩ := h
    have : f = 9 ∨ f = 10 ∨ f = 11 ∨ f = 12 ∨ f = 13 ∨ f = 14 ∨ f = 15 ∨ f = 16 := by omega
    rcases this with rfl | rfl | rfl | rfl | rfl | rfl | rfl | rfl <;> exact ⟨rfl, fun _ => rfl⟩
  · obtain ⟨rfl, rfl⟩ := h; exact ⟨rfl, fun _ => rfl⟩
  · obtain ⟨rfl, h⟩ := h; exact ⟨rfl, fun _ => by show _ = j / 200; omega⟩
  · exact h.elim
theorem Dm.z {ς : Sg} {cp : Nat → Nat} {k i : Nat} (h : Dm ς cp k i) (hk : k < 2) : i = 0 := by
  unfold Dm at h
  rcases h with ⟨-, h⟩ | ⟨-, h⟩ | ⟨h, -⟩ | ⟨h, -⟩ | ⟨h, -⟩ | ⟨h, -⟩ | ⟨h, -⟩ <;> omega
theorem rds_u {ς : Sg} {cp : Nat → Nat} {k' i' k i f j : Nat} (d' : Dm ς cp k' i') (d : Dm ς cp k i) (h : rds k' i' f j) (h' : rds k i f j) (h30 : f ≠ 30) : k' = k ∧ i' = i := by
  obtain ⟨a1, a2⟩ := rds_k h h30
  obtain ⟨b1, b2⟩ := rds_k h' h30
  have e : k' = k := a1.trans b1.symm
  refine ⟨e, ?_⟩
  rcases Nat.lt_or_ge k 2 with w | w
  · rw [d'.z (by omega), d.z w]
  · rw [a2 (by omega), b2 w]
theorem Rp.upS {G : mG} {N : Mem} {Γ : Adr} {ς : Sg} {M : Mem} (h : Rp G N Γ ς M) {k i f j v : Nat} {e : va_E} (hk : k ≠ 3) (hd : ∀ cp, Dm ς cp k i) (hr : rds k i f j) (hf : f ≠ 30 ∧ f ≠ 33 ∧ f ≠ 35) (h1 : ∀ (Λ : Adr) (cp : Nat → Nat), (∀ k i, k ≠ 3 → Λ k i = Γ k i) → Pc Λ G (st ς f j v) cp k i e) : Rp G N Γ (st ς f j v) (va_up M (Γ k i) (some e)) := by
  obtain ⟨Λ, cp, h0, hq⟩ := h
  refine ⟨Λ, cp, h0, ?_⟩
  rw [← h0 k i hk]
  refine hq.upd1 (hd cp) (h1 Λ cp h0) (st_row (by omega)) (st_row (by omega)) (st_row (by omega)) (fun f' j' hne k' i' hd' hr' => ?_)
  have e1 : f' = f ∧ j' = j := by
    by_cases a : f' = f
    · subst a
      by_cases b : j' = j
      · exact ⟨rfl, b⟩
      · exact absurd (st_i b) hne
    · exact absurd (st_f a) hne
  obtain ⟨rfl, rfl⟩ := e1
  exact rds_u hd' (hd cp) hr' hr hf.1

theorem Rp.p9_12 {G : mG} {N : Mem} {Γ : Adr} {ς : Sg} {M : Mem} (h : Rp G N Γ ς M) {i v : Nat} (hi : i < ς 33 1) : Rp G N Γ (st ς 12 i v) (va_up M (Γ 9 i) (some (.inr (2, [.int (nI i), .ref (Γ 4 (ς 9 i)), .int (nI (ς 10 i)), .int (nI (ς 11 i)), .ref (Γ 10 i), .int (nI v), .int (nI (ς 13 i)), .int (nI (ς 14 i)), .int (nI (ς 15 i)), .int (nI (ς 16 i))])))) := by
  refine h.upS (k := 9) (by decide) (fun cp => by unfold Dm; simp [hi]) ⟨by decide, rfl⟩ (by decide) (fun Λ cp h0 => ?_)
  show _ = _
  rw [h0 4 _ (by decide), h0 10 _ (by decide)]
  simp only [st_s, st_f (show (9 : Nat) ≠ 12 by decide), st_f (show (10 : Nat) ≠ 12 by decide), st_f (show (11 : Nat) ≠ 12 by decide), st_f (show (13 : Nat) ≠ 12 by decide), st_f (show (14 : Nat) ≠ 12 by decide), st_f (show (15 : Nat) ≠ 12 by decide), st_f (show (16 : Nat) ≠ 12 by decide)]

theorem Rp.p9_13 {G : mG} {N : Mem} {Γ : Adr} {ς : Sg} {M : Mem} (h : Rp G N Γ ς M) {i v : Nat} (hi : i < ς 33 1) : Rp G N Γ (st ς 13 i v) (va_up M (Γ 9 i) (some (.inr (2, [.int (nI i), .ref (Γ 4 (ς 9 i)), .int (nI (ς 10 i)), .int (nI (ς 11 i)), .ref (Γ 10 i), .int (nI (ς 12 i)), .int (nI v), .int (nI (ς 14 i)), .int (nI (ς 15 i)), .int (nI (ς 16 i))])))) := by
  refine h.upS (k := 9) (by decide) (fun cp => by unfold Dm; simp [hi]) ⟨by decide, rfl⟩ (by decide) (fun Λ cp h0 => ?_)
  show _ = _
  rw [h0 4 _ (by decide), h0 10 _ (by decide)]
  simp only [st_s, st_f (show (9 : Nat) ≠ 13 by decide), st_f (show (10 : Nat) ≠ 13 by decide), st_f (show (11 : Nat) ≠ 13 by decide), st_f (show (12 : Nat) ≠ 13 by decide), st_f (show (14 : Nat) ≠ 13 by decide), st_f (show (15 : Nat) ≠ 13 by decide), st_f (show (16 : Nat) ≠ 13 by decide)]

theorem Rp.p9_14 {G : mG} {N : Mem} {Γ : Adr} {ς : Sg} {M : Mem} (h : Rp G N Γ ς M) {i v : Nat} (hi : i < ς 33 1) : Rp G N Γ (st ς 14 i v) (va_up M (Γ 9 i) (some (.inr (2, [.int (nI i), .ref (Γ 4 (ς 9 i)), .int (nI (ς 10 i)), .int (nI (ς 11 i)), .ref (Γ 10 i), .int (nI (ς 12 i)), .int (nI (ς 13 i)), .int (nI v), .int (nI (ς 15 i)), .int (nI (ς 16 i))])))) := by
  refine h.upS (k := 9) (by decide) (fun cp => by unfold Dm; simp [hi]) ⟨by decide, rfl⟩ (by decide) (fun Λ cp h0 => ?_)
  show _ = _
  rw [h0 4 _ (by decide), h0 10 _ (by decide)]
  simp only [st_s, st_f (show (9 : Nat) ≠ 14 by decide), st_f (show (10 : Nat) ≠ 14 by decide), st_f (show (11 : Nat) ≠ 14 by decide), st_f (show (12 : Nat) ≠ 14 by decide), st_f (show (13 : Nat) ≠ 14 by decide), st_f (show (15 : Nat) ≠ 14 by decide), st_f (show (16 : Nat) ≠ 14 by decide)]

theorem Rp.p9_15 {G : mG} {N : Mem} {Γ : Adr} {ς : Sg} {M : Mem} (h : Rp G N Γ ς M) {i v : Nat} (hi : i < ς 33 1) : Rp G N Γ (st ς 15 i v) (va_up M (Γ 9 i) (some (.inr (2, [.int (nI i), .ref (Γ 4 (ς 9 i)), .int (nI (ς 10 i)), .int (nI (ς 11 i)), .ref (Γ 10 i), .int (nI (ς 12 i)), .int (nI (ς 13 i)), .int (nI (ς 14 i)), .int (nI v), .int (nI (ς 16 i))])))) := by
  refine h.upS (k := 9) (by decide) (fun cp => by unfold Dm; simp [hi]) ⟨by decide, rfl⟩ (by decide) (fun Λ cp h0 => ?_)
  show _ = _
  rw [h0 4 _ (by decide), h0 10 _ (by decide)]
  simp only [st_s, st_f (show (9 : Nat) ≠ 15 by decide), st_f (show (10 : Nat) ≠ 15 by decide), st_f (show (11 : Nat) ≠ 15 by decide), st_f (show (12 : Nat) ≠ 15 by decide), st_f (show (13 : Nat) ≠ 15 by decide), st_f (show (14 : Nat) ≠ 15 by decide), st_f (show (16 : Nat) ≠ 15 by decide)]

theorem Rp.p9_16 {G : mG} {N : Mem} {Γ : Adr} {ς : Sg} {M : Mem} (h : Rp G N Γ ς M) {i v : Nat} (hi : i < ς 33 1) : Rp G N Γ (st ς 16 i v) (va_up M (Γ 9 i) (some (.inr (2, [.int (nI i), .ref (Γ 4 (ς 9 i)), .int (nI (ς 10 i)), .int (nI (ς 11 i)), .ref (Γ 10 i), .int (nI (ς 12 i)), .int (nI (ς 13 i)), .int (nI (ς 14 i)), .int (nI (ς 15 i)), .int (nI v)])))) := by
  refine h.upS (k := 9) (by decide) (fun cp => by unfold Dm; simp [hi]) ⟨by decide, rfl⟩ (by decide) (fun Λ cp h0 => ?_)
  show _ = _
  rw [h0 4 _ (by decide), h0 10 _ (by decide)]
  simp only [st_s, st_f (show (9 : Nat) ≠ 16 by decide), st_f (show (10 : Nat) ≠ 16 by decide), st_f (show (11 : Nat) ≠ 16 by decide), st_f (show (12 : Nat) ≠ 16 by decide), st_f (show (13 : Nat) ≠ 16 by decide), st_f (show (14 : Nat) ≠ 16 by decide), st_f (show (15 : Nat) ≠ 16 by decide)]

theorem Rp.p10 {G : mG} {N : Mem} {Γ : Adr} {ς : Sg} {M : Mem} (h : Rp G N Γ ς M) {i v : Nat} (hi : i < ς 33 1) : Rp G N Γ (st ς 18 i v) (va_up M (Γ 10 i) (some (.inr (1, [.ref (Γ 11 i), .int (nI v)])))) := by
  refine h.upS (k := 10) (by decide) (fun cp => by unfold Dm; simp [hi]) ⟨rfl, rfl⟩ (by decide) (fun Λ cp h0 => ?_)
  show _ = _
  rw [h0 11 _ (by decide), st_s]
theorem Rp.a11 {G : mG} {N : Mem} {Γ : Adr} {ς : Sg} {M : Mem} (h : Rp G N Γ ς M) {i j v : Nat} {f : Nat → Int32} (hi : i < ς 33 1) (hj : j < 128) (hf : ∀ x, x < 128 → f x = nI (ς 17 (200 * i + x))) : Rp G N Γ (st ς 17 (200 * i + j) v) (va_up M (Γ 11 i) (some (eI (G.2.1 1) 128 (upd f j (nI v))))) := by
  refine h.upS (k := 11) (by decide) (fun cp => by unfold Dm; simp [hi]) ⟨rfl, by omega, by omega⟩ (by decide) (fun Λ cp h0 => ⟨_, rfl, fun x hx => ?_⟩)
  by_cases z : x = j
  · subst z; simp [upd, st_s]
  · simp only [upd, if_neg z, st_i (show 200 * i + x ≠ 200 * i + j by omega)]; exact hf x hx
theorem Rp.a1 {G : mG} {N : Mem} {Γ : Adr} {ς : Sg} {M : Mem} (h : Rp G N Γ ς M) {j v : Nat} {f : Nat → Int32} (hj : j < 10) (hf : ∀ x, x < 10 → f x = nI (ς 23 x)) : Rp G N Γ (st ς 23 j v) (va_up M (Γ 1 0) (some (eI (G.2.1 0) 10 (upd f j (nI v))))) := by
  refine h.upS (k := 1) (by decide) (fun cp => Or.inr (Or.inl ⟨rfl, rfl⟩)) ⟨rfl, hj⟩ (by decide) (fun Λ cp h0 => ⟨_, rfl, fun x hx => ?_⟩)
  by_cases z : x = j
  · subst z; simp [upd, st_s]
  · simp only [upd, if_neg z, st_i z]; exact hf x hx
theorem Rp.p0_24 {G : mG} {N : Mem} {Γ : Adr} {ς : Sg} {M : Mem} (h : Rp G N Γ ς M) {v : Nat} : Rp G N Γ (st ς 24 0 v) (va_up M (Γ 0 0) (some (.inr (5, [.ref (Γ 2 0), .ref (Γ 2 1), .ref (Γ 2 2), .ref (Γ 1 0), .int (nI v), .int (nI (ς 22 0))])))) := by
  refine h.upS (k := 0) (by decide) (fun cp => Or.inl ⟨rfl, rfl⟩) ⟨Or.inl rfl, rfl⟩ (by decide) (fun Λ cp h0 => ?_)
  show _ = _
  rw [h0 2 _ (by decide), h0 2 _ (by decide), h0 2 _ (by decide), h0 1 _ (by decide), st_s, st_f (by decide)]
theorem Rp.p0_22 {G : mG} {N : Mem} {Γ : Adr} {ς : Sg} {M : Mem} (h : Rp G N Γ ς M) {v : Nat} : Rp G N Γ (st ς 22 0 v) (va_up M (Γ 0 0) (some (.inr (5, [.ref (Γ 2 0), .ref (Γ 2 1), .ref (Γ 2 2), .ref (Γ 1 0), .int (nI (ς 24 0)), .int (nI v)])))) := by
  refine h.upS (k := 0) (by decide) (fun cp => Or.inl ⟨rfl, rfl⟩) ⟨Or.inr rfl, rfl⟩ (by decide) (fun Λ cp h0 => ?_)
  show _ = _
  rw [h0 2 _ (by decide), h0 2 _ (by decide), h0 2 _ (by decide), h0 1 _ (by decide), st_s, st_f (by decide)]

theorem Rp.p5_3 {G : mG} {N : Mem} {Γ : Adr} {ς : Sg} {M : Mem} (h : Rp G N Γ ς M) {i v : Nat} (hi : isR ς i) : Rp G N Γ (st ς 3 i v) (va_up M (Γ 5 i) (some (.inr (3, [.ref (Γ 6 i), .ref (Γ 7 i), .ref (Γ 8 i), .int (nI v), .int (nI (ς 1 i)), .int (nI (ς 2 i))])))) := by
  refine h.upS (k := 5) (by decide) (fun cp => by unfold Dm; simp [hi]) ⟨Or.inl rfl, rfl⟩ (by decide) (fun Λ cp h0 => ?_)
  show _ = _
  rw [h0 6 _ (by decide), h0 7 _ (by decide), h0 8 _ (by decide)]
  simp only [st_s, st_f (show (1 : Nat) ≠ 3 by decide), st_f (show (2 : Nat) ≠ 3 by decide)]

theorem Rp.p5_1 {G : mG} {N : Mem} {Γ : Adr} {ς : Sg} {M : Mem} (h : Rp G N Γ ς M) {i v : Nat} (hi : isR ς i) : Rp G N Γ (st ς 1 i v) (va_up M (Γ 5 i) (some (.inr (3, [.ref (Γ 6 i), .ref (Γ 7 i), .ref (Γ 8 i), .int (nI (ς 3 i)), .int (nI v), .int (nI (ς 2 i))])))) := by
  refine h.upS (k := 5) (by decide) (fun cp => by unfold Dm; simp [hi]) ⟨Or.inr (Or.inl rfl), rfl⟩ (by decide) (fun Λ cp h0 => ?_)
  show _ = _
  rw [h0 6 _ (by decide), h0 7 _ (by decide), h0 8 _ (by decide)]
  simp only [st_s, st_f (show (3 : Nat) ≠ 1 by decide), st_f (show (2 : Nat) ≠ 1 by decide)]

theorem Rp.p5_2 {G : mG} {N : Mem} {Γ : Adr} {ς : Sg} {M : Mem} (h : Rp G N Γ ς M) {i v : Nat} (hi : isR ς i) : Rp G N Γ (st ς 2 i v) (va_up M (Γ 5 i) (some (.inr (3, [.ref (Γ 6 i), .ref (Γ 7 i), .ref (Γ 8 i), .int (nI (ς 3 i)), .int (nI (ς 1 i)), .int (nI v)])))) := by
  refine h.upS (k := 5) (by decide) (fun cp => by unfold Dm; simp [hi]) ⟨Or.inr (Or.inr rfl), rfl⟩ (by decide) (fun Λ cp h0 => ?_)
  show _ = _
  rw [h0 6 _ (by decide), h0 7 _ (by decide), h0 8 _ (by decide)]
  simp only [st_s, st_f (show (3 : Nat) ≠ 2 by decide), st_f (show (1 : Nat) ≠ 2 by decide)]

theorem Rp.a6 {G : mG} {N : Mem} {Γ : Adr} {ς : Sg} {M : Mem} (h : Rp G N Γ ς M) {i j v : Nat} {f : Nat → Int32} (hi : isR ς i) (hj : j < 6) (hf : ∀ x, x < 6 → f x = nI (ς 4 (6 * i + x))) : Rp G N Γ (st ς 4 (6 * i + j) v) (va_up M (Γ 6 i) (some (eI (G.2.1 0) 6 (upd f j (nI v))))) := by
  refine h.upS (k := 6) (by decide) (fun cp => by unfold Dm; simp [hi]) ⟨rfl, by omega, by omega⟩ (by decide) (fun Λ cp h0 => ⟨_, rfl, fun x hx => ?_⟩)
  by_cases z : x = j
  · subst z; simp [upd, st_s]
  · simp only [upd, if_neg z, st_i (show 6 * i + x ≠ 6 * i + j by omega)]; exact hf x hx

theorem Rp.a7 {G : mG} {N : Mem} {Γ : Adr} {ς : Sg} {M : Mem} (h : Rp G N Γ ς M) {i j v : Nat} {f : Nat → Int32} (hi : isR ς i) (hj : j < 6) (hf : ∀ x, x < 6 → f x = nI (ς 5 (6 * i + x))) : Rp G N Γ (st ς 5 (6 * i + j) v) (va_up M (Γ 7 i) (some (eI (G.2.1 0) 6 (upd f j (nI v))))) := by
  refine h.upS (k := 7) (by decide) (fun cp => by unfold Dm; simp [hi]) ⟨rfl, by omega, by omega⟩ (by decide) (fun Λ cp h0 => ⟨_, rfl, fun x hx => ?_⟩)
  by_cases z : x = j
  · subst z; simp [upd, st_s]
  · simp only [upd, if_neg z, st_i (show 6 * i + x ≠ 6 * i + j by omega)]; exact hf x hx

theorem Rp.a8 {G : mG} {N : Mem} {Γ : Adr} {ς : Sg} {M : Mem} (h : Rp G N Γ ς M) {i j v : Nat} {f : Nat → Int32} (hi : isR ς i) (hj : j < 6) (hf : ∀ x, x < 6 → f x = nI (ς 6 (6 * i + x))) : Rp G N Γ (st ς 6 (6 * i + j) v) (va_up M (Γ 8 i) (some (eI (G.2.1 0) 6 (upd f j (nI v))))) := by
  refine h.upS (k := 8) (by decide) (fun cp => by unfold Dm; simp [hi]) ⟨rfl, by omega, by omega⟩ (by decide) (fun Λ cp h0 => ⟨_, rfl, fun x hx => ?_⟩)
  by_cases z : x = j
  · subst z; simp [upd, st_s]
  · simp only [upd, if_neg z, st_i (show 6 * i + x ≠ 6 * i + j by omega)]; exact hf x hx
