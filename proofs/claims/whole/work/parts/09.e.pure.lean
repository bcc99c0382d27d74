/-! THE OFFICE, A WHOLE DAY, A LETTER POSTED (mine) -/
theorem opn_ok {σ : Sg} {k : Nat} (hV : RV σ) (hl : σ 18 (σ 19 k) < 190) : RV (opn σ k) ∧ Sm σ (opn σ k) (σ 19 k) ∧ (∀ g j, g ≠ 12 → g ≠ 17 → g ≠ 18 → opn σ k g j = σ g j) ∧ (opn σ k 12 (σ 19 k) = 6 ∨ opn σ k 12 (σ 19 k) = 7) ∧ (opn σ k 18 (σ 19 k) ≤ σ 18 (σ 19 k) + 2 ∧ σ 18 (σ 19 k) ≤ opn σ k 18 (σ 19 k)) ∧ (hasP σ (σ 19 k) → hasP (opn σ k) (σ 19 k)) := by
  have h10 : σ 10 (σ 19 k) ≤ 9 ∨ σ 10 (σ 19 k) = 4294967295 := hV 10 _
  by_cases c : σ 10 (σ 19 k) = 4294967295
  · have e : opn σ k = wr (st σ 12 (σ 19 k) 7) (σ 19 k) 42 := by unfold opn; rw [if_pos c]
    rw [e]
    refine ⟨(hV.xst (f := 12) (by decide : (7 : Nat) ≤ 8)).xwr (by decide), (Sm.xst (by decide) (by decide) (by decide)).tr (Sm.xwr (by rw [st_f (by decide)]; omega)), fun g j a b d => by rw [wr_f ⟨b, d⟩, st_f a], Or.inr (by rw [wr_12, st_s]), ⟨by rw [wr_18, st_f (by decide)]; omega, by rw [wr_18, st_f (by decide)]; omega⟩, fun h => (h.xst (by decide) (by decide)).xwr⟩
  · have e : opn σ k = wr (wr (st σ 12 (σ 19 k) 6) (σ 19 k) 60) (σ 19 k) (65 + σ 10 (σ 19 k)) := by unfold opn; rw [if_neg c]
    rw [e]
    refine ⟨((hV.xst (f := 12) (by decide : (6 : Nat) ≤ 8)).xwr (by decide)).xwr (by omega), ((Sm.xst (by decide) (by decide) (by decide)).tr (Sm.xwr (by rw [st_f (by decide)]; omega))).tr (Sm.xwr (by rw [wr_18, st_f (by decide)]; omega)), fun g j a b d => by rw [wr_f ⟨b, d⟩, wr_f ⟨b, d⟩, st_f a], Or.inl (by rw [wr_12, wr_12, st_s]), ⟨by rw [wr_18, wr_18, st_f (by decide)]; omega, by rw [wr_18, wr_18, st_f (by decide)]; omega⟩, fun h => (h.xst (by decide) (by decide)).xwr.xwr⟩
theorem opN_ok {σ : Sg} (hV : RV σ) (hS : LX 19 20 5 σ) (hL : ∀ i, i < σ 8 0 → σ 12 i = 5 → σ 18 i ≤ 120 ∧ hasP σ i) : ∀ k, k ≤ σ 20 0 →
    RV (opN σ k) ∧ (∀ g j, g ≠ 12 → g ≠ 17 → g ≠ 18 → opN σ k g j = σ g j) ∧ (∀ i, (∀ j, j < k → σ 19 j ≠ i) → opN σ k 12 i = σ 12 i ∧ opN σ k 18 i = σ 18 i ∧ ∀ q, 200 * i ≤ q → q < 200 * i + 200 → opN σ k 17 q = σ 17 q) ∧
    (∀ j, j < k → (opN σ k 12 (σ 19 j) = 6 ∨ opN σ k 12 (σ 19 j) = 7) ∧ (opN σ k 18 (σ 19 j) ≤ σ 18 (σ 19 j) + 2 ∧ σ 18 (σ 19 j) ≤ opN σ k 18 (σ 19 j)) ∧ hasP (opN σ k) (σ 19 j)) := by
  intro k
  induction k with
  | zero => exact fun _ => ⟨hV, fun _ _ _ _ _ => rfl, fun i _ => ⟨rfl, rfl, fun _ _ _ => rfl⟩, fun j hj => absurd hj (Nat.not_lt_zero j)⟩
  | succ k ih =>
    intro hk
    obtain ⟨a1, a2, a3, a4⟩ := ih (by omega)
    have e19 : opN σ k 19 k = σ 19 k := a2 19 k (by decide) (by decide) (by decide)
    obtain ⟨m1, m2⟩ := hS.mem (show k < σ 20 0 by omega)
    obtain ⟨b1, b2, b3⟩ := a3 (σ 19 k) (fun j hj => hS.inj hj (by omega))
    obtain ⟨l1, l2⟩ := hL _ m1 m2
    obtain ⟨c1, c2, c3, c4, c5, c6⟩ := opn_ok (σ := opN σ k) (k := k) a1 (by rw [e19, b2]; omega)
    rw [e19] at c2 c4 c5 c6
    show RV (opn (opN σ k) k) ∧ _
    refine ⟨c1, fun g j x y z => (c3 g j x y z).trans (a2 g j x y z), fun i hi => ?_, fun j hj => ?_⟩
    · have hne : i ≠ σ 19 k := fun z => hi k (Nat.lt_succ_self k) z.symm
      obtain ⟨d1, d2, d3⟩ := a3 i (fun j hj => hi j (Nat.lt_succ_of_lt hj))
      exact ⟨(c2.2.1 12 i (by decide) (by decide) (by decide) hne).trans d1, (c2.2.1 18 i (by decide) (by decide) (by decide) hne).trans d2, fun q x y => (c2.2.2 q (by omega)).trans (d3 q x y)⟩
    · by_cases e : j = k
      · subst e
        rw [b2] at c5
        exact ⟨c4, c5, c6 (l2.of b3 b2 (by omega))⟩
      · obtain ⟨d1, d2, d3⟩ := a4 j (by omega)
        have hne : σ 19 j ≠ σ 19 k := hS.inj (show j < k by omega) (by omega)
        have e12 := c2.2.1 12 (σ 19 j) (by decide) (by decide) (by decide) hne
        have e18 := c2.2.1 18 (σ 19 j) (by decide) (by decide) (by decide) hne
        obtain ⟨m3, m4⟩ := hS.mem (show j < σ 20 0 by omega)
        obtain ⟨l3, l4⟩ := hL _ m3 m4
        exact ⟨by rw [show opN σ (k + 1) 12 (σ 19 j) = opN σ k 12 (σ 19 j) from e12]; exact d1, by rw [show opN σ (k + 1) 18 (σ 19 j) = opN σ k 18 (σ 19 j) from e18]; exact d2, d3.of (fun q x y => c2.2.2 q (by omega)) e18 (by omega)⟩
theorem off_ok {σ : Sg} (hV : RV σ) (hS : LX 19 20 5 σ) (hD : LX 21 22 1 σ) (hL : ∀ i, i < σ 8 0 → LI σ (σ 24 0) i) : RV (off σ) ∧ LX 19 20 5 (off σ) ∧ LX 21 22 1 (off σ) ∧ (∀ i, i < σ 8 0 → LI (off σ) (σ 24 0) i) ∧ (∀ g j, g ≠ 12 → g ≠ 17 → g ≠ 18 → g ≠ 20 → off σ g j = σ g j) ∧ (∀ i, σ 8 0 ≤ i → off σ 18 i = σ 18 i) := by
  obtain ⟨a1, a2, a3, a4⟩ := opN_ok hV hS (fun i hi h5 => by obtain ⟨_, _, c, _, _, f⟩ := hL i hi; exact ⟨f.2.2.2.1 h5, c⟩) (σ 20 0) (Nat.le_refl _)
  have o : ∀ g j, g ≠ 20 → off σ g j = opN σ (σ 20 0) g j := fun g j h => st_f h
  have s : ∀ g j, g ≠ 12 → g ≠ 17 → g ≠ 18 → g ≠ 20 → off σ g j = σ g j := fun g j x y z w => (o g j w).trans (a2 g j x y z)
  -- a letter is dead, and was opened, or is as it was
  have key : ∀ i, i < σ 8 0 → (σ 12 i = 5 ∧ (off σ 12 i = 6 ∨ off σ 12 i = 7) ∧ (off σ 18 i ≤ σ 18 i + 2 ∧ σ 18 i ≤ off σ 18 i) ∧ hasP (off σ) i) ∨ (σ 12 i ≠ 5 ∧ off σ 12 i = σ 12 i ∧ off σ 18 i = σ 18 i ∧ ∀ q, 200 * i ≤ q → q < 200 * i + 200 → off σ 17 q = σ 17 q) := by
    intro i hi
    by_cases h5 : σ 12 i = 5
    · obtain ⟨k, hk, rfl⟩ := hS.ex hi h5
      obtain ⟨d1, d2, d3⟩ := a4 k hk
      refine Or.inl ⟨h5, by rw [o 12 _ (by decide)]; exact d1, by rw [o 18 _ (by decide)]; exact d2, d3.xst (by decide) (by decide)⟩
    · have hn : ∀ j, j < σ 20 0 → σ 19 j ≠ i := fun j hj z => h5 (by rw [← z]; exact (hS.mem hj).2)
      obtain ⟨d1, d2, d3⟩ := a3 i hn
      exact Or.inr ⟨h5, by rw [o 12 _ (by decide)]; exact d1, by rw [o 18 _ (by decide)]; exact d2, fun q x y => by rw [o 17 _ (by decide)]; exact d3 q x y⟩
  refine ⟨a1.xst (f := 20) trivial, ?_, ?_, fun i hi => ?_, s, fun i hi => ?_⟩
  · intro P
    rw [show off σ 20 0 = 0 from st_s, s 8 0 (by decide) (by decide) (by decide) (by decide)]
    rw [cnt_congr (Q := fun _ => false) (σ 8 0) (fun i hi => by
      rcases key i hi with ⟨_, h, _⟩ | ⟨h, h2, _⟩
      · rcases h with h | h <;> simp [h]
      · rw [h2]; simp [h])]
    show 0 = _
    have : ∀ n, cnt (fun _ => false) n = 0 := fun n => by
      induction n with
      | zero => rfl
      | succ n ih => unfold cnt; rw [ih]; rfl
    rw [this]
  · intro P
    rw [s 22 0 (by decide) (by decide) (by decide) (by decide), s 8 0 (by decide) (by decide) (by decide) (by decide)]
    rw [show (fun k => P (off σ 21 k)) = fun k => P (σ 21 k) from funext fun k => by rw [s 21 k (by decide) (by decide) (by decide) (by decide)]]
    rw [hD P]
    refine cnt_congr _ (fun i hi => ?_)
    rcases key i hi with ⟨h5, h, _⟩ | ⟨h, h2, _⟩
    · rcases h with h | h <;> simp [h, h5]
    · rw [h2]
  · obtain ⟨l1, l2, l3, l4, l5, l6⟩ := hL i hi
    have e0 := s 0 0 (by decide) (by decide) (by decide) (by decide)
    have e9 := s 9 i (by decide) (by decide) (by decide) (by decide)
    have e11 := s 11 i (by decide) (by decide) (by decide) (by decide)
    have e15 := s 15 i (by decide) (by decide) (by decide) (by decide)
    rcases key i hi with ⟨h5, h, h18, hp⟩ | ⟨h5, h, h18, h17⟩
    · have := l6.2.2.2.1 h5
      exact ⟨by rw [e9, e0]; exact l1, by rw [e11]; exact l2, hp, by omega, by omega, fun z => by omega, fun z => by omega, fun z => by omega, fun z => by omega, by omega⟩
    · refine ⟨by rw [e9, e0]; exact l1, by rw [e11]; exact l2, l3.of h17 h18 (by have := l6.2.2.2.2; omega), by omega, by omega, ?_⟩
      unfold lenB
      rw [h, h18, e15, e11]
      exact l6
  · have hn : ∀ j, j < σ 20 0 → σ 19 j ≠ i := fun j hj z => by have := (hS.mem hj).1; omega
    rw [o 18 _ (by decide)]
    exact (a3 i hn).2.1
theorem IM.of {σ : Sg} (h : IV σ) (hd : σ 24 0 < 1000) : IM (st σ 24 0 (σ 24 0 + 1)) 0 := by
  obtain ⟨h1, h2, h3, h4, h5, -⟩ := h
  refine ⟨h1.xst (f := 24) (by show _ ≤ 1000; omega), ?_, ?_, fun i hi => absurd hi (Nat.not_lt_zero i), fun i _ hi => ?_, fun i hi => ?_, by rw [st_s]; omega⟩
  · exact h2
  · exact h3
  · rw [st_s, Nat.add_sub_cancel]
    exact h4 i hi
  · exact h5 i hi
theorem IM.go {σ : Sg} (h : IM σ 0) : ∀ n, n ≤ σ 8 0 → IM (daN σ n) n ∧ (∀ g j, (g < 12 ∨ 22 < g) → daN σ n g j = σ g j)
  | 0, _ => ⟨h, fun _ _ _ => rfl⟩
  | n + 1, hn => by
    obtain ⟨h1, h2⟩ := IM.go h n (by omega)
    obtain ⟨h3, h4⟩ := h1.step (by rw [h2 8 0 (Or.inl (by decide))]; omega)
    exact ⟨h3, fun g j z => (h4.1 g j z).trans (h2 g j z)⟩
theorem dyA_ok {σ : Sg} (h : IV σ) (hd : σ 24 0 < 1000) : IV (dyA σ) ∧ (∀ g j, g < 12 → dyA σ g j = σ g j) ∧ dyA σ 24 0 = σ 24 0 + 1 ∧ (∀ j, dyA σ 23 j = σ 23 j) ∧ ∀ j, dyA σ 25 j = σ 25 j := by
  obtain ⟨h1, h2⟩ := IM.go (IM.of h hd) (σ 8 0) (Nat.le_refl _)
  obtain ⟨a1, a2, a3, a4, a5, a6, a7⟩ := h1
  have e8 : dyA σ 8 0 = σ 8 0 := h2 8 0 (Or.inl (by decide))
  have e24 : dyA σ 24 0 = σ 24 0 + 1 := (h2 24 0 (Or.inr (by decide))).trans st_s
  have elo : ∀ g j, g < 12 → dyA σ g j = σ g j := fun g j hg => (h2 g j (Or.inl hg)).trans (st_f (by omega))
  refine ⟨⟨a1, a2, a3, fun i hi => a4 i (by rw [← e8]; exact hi) hi, a6, h.2.2.2.2.2.of (fun g j hg => elo g j (by omega))⟩, elo, e24, fun j => (h2 23 j (Or.inr (by decide))).trans (st_f (by decide)), fun j => (h2 25 j (Or.inr (by decide))).trans (st_f (by decide))⟩
theorem dy_ok {σ : Sg} (h : IV σ) (hd : σ 24 0 < 1000) : IV (dy σ) ∧ (∀ g j, g < 12 → dy σ g j = σ g j) ∧ dy σ 24 0 = σ 24 0 + 1 ∧ (∀ j, dy σ 23 j = σ 23 j) ∧ ∀ j, dy σ 25 j = σ 25 j := by
  obtain ⟨⟨a1, a2, a3, a4, a5, a6⟩, b1, b2, b3, b4⟩ := dyA_ok h hd
  unfold dy
  split
  · obtain ⟨c1, c2, c3, c4, c5, c6⟩ := off_ok a1 a2 a3 a4
    have e8 : off (dyA σ) 8 0 = dyA σ 8 0 := c5 8 0 (by decide) (by decide) (by decide) (by decide)
    have e24 : off (dyA σ) 24 0 = dyA σ 24 0 := c5 24 0 (by decide) (by decide) (by decide) (by decide)
    refine ⟨⟨c1, c2, c3, fun i hi => by rw [e24]; exact c4 i (by rw [← e8]; exact hi), fun i hi => ?_, a6.of (fun g j hg => c5 g j (by omega) (by omega) (by omega) (by omega))⟩, fun g j hg => (c5 g j (by omega) (by omega) (by omega) (by omega)).trans (b1 g j hg), e24.trans b2, fun j => (c5 23 j (by decide) (by decide) (by decide) (by decide)).trans (b3 j), fun j => (c5 25 j (by decide) (by decide) (by decide) (by decide)).trans (b4 j)⟩
    rw [e8] at hi
    obtain ⟨d1, d2⟩ := a5 i hi
    exact ⟨(c6 i hi).trans d1, (c5 15 i (by decide) (by decide) (by decide) (by decide)).trans d2⟩
  · exact ⟨⟨a1, a2, a3, a4, a5, a6⟩, b1, b2, b3, b4⟩
theorem dyN_ok {σ : Sg} (h : IV σ) : ∀ n, σ 24 0 + n ≤ 1000 → IV (dyN σ n) ∧ (∀ g j, g < 12 → dyN σ n g j = σ g j) ∧ dyN σ n 24 0 = σ 24 0 + n ∧ (∀ j, dyN σ n 23 j = σ 23 j) ∧ ∀ j, dyN σ n 25 j = σ 25 j
  | 0, _ => ⟨h, fun _ _ _ => rfl, rfl, fun _ => rfl, fun _ => rfl⟩
  | n + 1, hn => by
    obtain ⟨a1, a2, a3, a4, a5⟩ := dyN_ok h n (by omega)
    obtain ⟨b1, b2, b3, b4, b5⟩ := dy_ok a1 (by omega)
    exact ⟨b1, fun g j hg => (b2 g j hg).trans (a2 g j hg), by show dy (dyN σ n) 24 0 = _; rw [b3, a3]; omega, fun j => (b4 j).trans (a4 j), fun j => (b5 j).trans (a5 j)⟩
theorem da_pre {σ : Sg} {i : Nat} (h : IM σ i) (hi : i < σ 8 0) : σ 18 i ≤ 125 ∧ ((cmes σ i ∨ lies σ i) → σ 20 0 < 40 ∧ σ 22 0 < 40) ∧ hasP σ i := by
  obtain ⟨h1, h2, h3, h4, h5, h6, h7⟩ := h
  obtain ⟨a, b, c, d, e, f1, f2, f3, f4, f5⟩ := h5 i (Nat.le_refl i) hi
  have h8 : σ 8 0 ≤ 40 := h1 8 0
  refine ⟨f5, fun z => ?_, c⟩
  have hst : σ 12 i ≠ 1 ∧ σ 12 i ≠ 5 := by
    rcases z with ⟨z, -, -⟩ | z | z | z <;> omega
  have := h2.lt hi hst.2
  have := h3.lt hi hst.1
  omega
/-- a letter posted: the state before it is handled -/
def poW (σ : Sg) (p s h : Nat) : Sg := wDay (wr (poN σ p s h) (σ 8 0) (65 + p)) (σ 8 0)
theorem poN_f {σ : Sg} {p s h g j : Nat} (hg : g ≠ 8 ∧ g ≠ 9 ∧ g ≠ 10 ∧ g ≠ 11 ∧ g ≠ 12 ∧ g ≠ 13) : poN σ p s h g j = σ g j := by
  unfold poN
  rw [st_f hg.2.2.2.2.1, st_f hg.2.2.2.2.2, st_f hg.2.2.2.1, st_f hg.2.2.1, st_f hg.2.1, st_f hg.1]
theorem poN_o {σ : Sg} {p s h g j : Nat} (hg : g ≠ 8) (hj : j ≠ σ 8 0) : poN σ p s h g j = σ g j := by
  unfold poN
  rw [st_i hj, st_i hj, st_i hj, st_i hj, st_i hj, st_f hg]
theorem poN_8 {σ : Sg} {p s h : Nat} : poN σ p s h 8 0 = σ 8 0 + 1 := by
  unfold poN
  rw [st_f (by decide), st_f (by decide), st_f (by decide), st_f (by decide), st_f (by decide), st_s]
theorem poN_i {σ : Sg} {p s h : Nat} : poN σ p s h 9 (σ 8 0) = s ∧ poN σ p s h 10 (σ 8 0) = h ∧ poN σ p s h 11 (σ 8 0) = σ 24 0 ∧ poN σ p s h 13 (σ 8 0) = p ∧ poN σ p s h 12 (σ 8 0) = 8 := by
  unfold poN
  refine ⟨?_, ?_, ?_, ?_, ?_⟩
  · rw [st_f (by decide), st_f (by decide), st_f (by decide), st_f (by decide), st_s]
  · rw [st_f (by decide), st_f (by decide), st_f (by decide), st_s]
  · rw [st_f (by decide), st_f (by decide), st_s]
  · rw [st_f (by decide), st_s]
  · rw [st_s]
theorem RV.xpoN {σ : Sg} {p s h : Nat} (hV : RV σ) (h8 : σ 8 0 < 40) (hp : p < 10) (hs : s < 8) (hh : h < 10 ∨ h = 4294967295) : RV (poN σ p s h) :=
  (((((hV.xst (f := 8) (by show _ ≤ 40; omega)).xst (f := 9) (by show _ ≤ 7; omega)).xst (f := 10) (by show _ ≤ 9 ∨ _; omega)).xst (f := 11) (hV 24 0)).xst (f := 13) (by show _ ≤ 9; omega)).xst (f := 12) (by decide : (8 : Nat) ≤ 8)
theorem poW_ok {σ : Sg} {p s h : Nat} (hI : IV σ) (h8 : σ 8 0 < 40) (hp : p < 10) (hs : s < σ 0 0) (hh : h < 10 ∨ h = 4294967295) : RV (poW σ p s h) ∧ HR (poW σ p s h) (σ 8 0) ∧ Sm (poN σ p s h) (poW σ p s h) (σ 8 0) ∧ (∀ g j, g ≠ 17 ∧ g ≠ 18 → poW σ p s h g j = poN σ p s h g j) ∧ poW σ p s h 18 (σ 8 0) ≤ 5 := by
  obtain ⟨h1, h2, h3, h4, h5, h6⟩ := hI
  have hb0 : σ 0 0 ≤ 8 := h1 0 0
  obtain ⟨z18, z15⟩ := h5 (σ 8 0) (Nat.le_refl _)
  have hV := h1.xpoN (s := s) h8 hp (by omega) hh
  have e18 : poN σ p s h 18 (σ 8 0) = 0 := by rw [poN_f (by decide)]; exact z18
  have e15 : poN σ p s h 15 (σ 8 0) = 0 := by rw [poN_f (by decide)]; exact z15
  have w18 : wr (poN σ p s h) (σ 8 0) (65 + p) 18 (σ 8 0) = 1 := by rw [wr_18, e18]
  have hp1 : hasP (wr (poN σ p s h) (σ 8 0) (65 + p)) (σ 8 0) := hasP.new ⟨by omega, by omega⟩
  have hd18 := wDay_18 (σ := wr (poN σ p s h) (σ 8 0) (65 + p)) (i := σ 8 0)
  have ef : ∀ g j, g ≠ 17 ∧ g ≠ 18 → poW σ p s h g j = poN σ p s h g j := fun g j z => by unfold poW; rw [wDay_f z, wr_f z]
  obtain ⟨q9, q10, q11, q13, q12⟩ := poN_i (σ := σ) (p := p) (s := s) (h := h)
  have e24 : poW σ p s h 24 0 = σ 24 0 := by rw [ef _ _ (by decide), poN_f (by decide)]
  have hlast : poW σ p s h 18 (σ 8 0) ≤ 5 ∧ 2 ≤ poW σ p s h 18 (σ 8 0) := by
    unfold poW
    refine ⟨by omega, ?_⟩
    have := wDg_18 (σ := wDg (wDg (wDg (wr (poN σ p s h) (σ 8 0) (65 + p)) (σ 8 0) 1000) (σ 8 0) 100) (σ 8 0) 10) (i := σ 8 0) (u := 1)
    have a1 := wDg_18 (σ := wr (poN σ p s h) (σ 8 0) (65 + p)) (i := σ 8 0) (u := 1000)
    have a2 := wDg_18 (σ := wDg (wr (poN σ p s h) (σ 8 0) (65 + p)) (σ 8 0) 1000) (i := σ 8 0) (u := 100)
    have a3 := wDg_18 (σ := wDg (wDg (wr (poN σ p s h) (σ 8 0) (65 + p)) (σ 8 0) 1000) (σ 8 0) 100) (i := σ 8 0) (u := 10)
    have e : wDay (wr (poN σ p s h) (σ 8 0) (65 + p)) (σ 8 0) 18 (σ 8 0) = wDg (wDg (wDg (wr (poN σ p s h) (σ 8 0) (65 + p)) (σ 8 0) 1000) (σ 8 0) 100) (σ 8 0) 10 18 (σ 8 0) + 1 := by
      show (if _ then _ else _ : Sg) 18 (σ 8 0) = _
      rw [if_pos (Or.inr rfl), wr_18]
    rw [e]
    omega
  have hm : Sm (poN σ p s h) (poW σ p s h) (σ 8 0) := (Sm.xwr (by omega)).tr (Sm.xwDay (by omega))
  refine ⟨(hV.xwr (by omega)).xwDay, ⟨?_, ?_, ?_, ?_, ?_, ?_, hlast.2, ?_, ?_⟩, hm, ef, hlast.1⟩
  · rw [ef _ _ (by decide), poN_8]; omega
  · rw [ef _ _ (by decide), ef _ _ (by decide), q9, poN_f (by decide)]; exact hs
  · rw [ef _ _ (by decide), e24, q11]; omega
  · rw [e24, ef 11 _ (by decide), q11]; omega
  · rw [ef _ _ (by decide), q12]; decide
  · exact hp1.xwDay
  · rw [ef 12 _ (by decide), q12]; intro z; omega
  · intro _; omega
theorem po_ok {σ : Sg} {p s h : Nat} (hI : IV σ) (h8 : σ 8 0 < 40) (hp : p < 10) (hs : s < σ 0 0) (hh : h < 10 ∨ h = 4294967295) : IV (po σ p s h) := by
  obtain ⟨b1, b2, b3, b4, b5⟩ := poW_ok hI h8 hp hs hh
  obtain ⟨c1, c2, c3⟩ := ha_ok b1 b2
  obtain ⟨h1, h2, h3, h4, h5, h6⟩ := hI
  obtain ⟨q9, q10, q11, q13, q12⟩ := poN_i (σ := σ) (p := p) (s := s) (h := h)
  have e8 : poW σ p s h 8 0 = σ 8 0 + 1 := by rw [b4 _ _ (by decide), poN_8]
  have e24 : poW σ p s h 24 0 = σ 24 0 := by rw [b4 _ _ (by decide), poN_f (by decide)]
  have l12 : poW σ p s h 12 (σ 8 0) = 8 := by rw [b4 _ _ (by decide), q12]
  -- the lists, before the handling
  have hL : ∀ f n v, f ≠ 8 → f ≠ 9 → f ≠ 10 → f ≠ 11 → f ≠ 12 → f ≠ 13 → f ≠ 17 → f ≠ 18 → n ≠ 8 → n ≠ 9 → n ≠ 10 → n ≠ 11 → n ≠ 12 → n ≠ 13 → n ≠ 17 → n ≠ 18 → v ≠ 8 → LX f n v σ → LX f n v (poW σ p s h) := by
    intro f n v f8 f9 f10 f11 f12 f13 f17 f18 n8 n9 n10 n11 n12 n13 n17 n18 hv hX P
    have ef : ∀ j, poW σ p s h f j = σ f j := fun j => by rw [b4 f j ⟨f17, f18⟩, poN_f ⟨f8, f9, f10, f11, f12, f13⟩]
    rw [show (fun k => P (poW σ p s h f k)) = fun k => P (σ f k) from funext fun k => by rw [ef], b4 n 0 ⟨n17, n18⟩, poN_f ⟨n8, n9, n10, n11, n12, n13⟩, hX P, e8]
    show _ = cnt (fun i => decide (poW σ p s h 12 i = v) && P i) (σ 8 0) + (if (decide (poW σ p s h 12 (σ 8 0) = v) && P (σ 8 0)) = true then 1 else 0)
    rw [if_neg (by rw [l12, decide_eq_false (Ne.symm hv)]; simp), Nat.add_zero]
    exact cnt_congr _ (fun i hi => by rw [b4 12 i (by decide), poN_o (by decide) (by omega)])
  have hS := hL 19 20 5 (by decide) (by decide) (by decide) (by decide) (by decide) (by decide) (by decide) (by decide) (by decide) (by decide) (by decide) (by decide) (by decide) (by decide) (by decide) (by decide) (by decide) h2
  have hD := hL 21 22 1 (by decide) (by decide) (by decide) (by decide) (by decide) (by decide) (by decide) (by decide) (by decide) (by decide) (by decide) (by decide) (by decide) (by decide) (by decide) (by decide) (by decide) h3
  obtain ⟨r1, r2⟩ := LX.both c1 c2 hS hD (by omega) (by omega) (by omega)
  have g8 := c1.f.2.1
  have g24 := c1.f.2.2.1
  show IV (ha (poW σ p s h) (σ 8 0))
  refine ⟨b1.xha (by omega), r1, r2, fun i hi => ?_, fun i hi => ?_, h6.of (fun g j hg => ?_)⟩
  · rw [g24]
    by_cases e : i = σ 8 0
    · subst e; exact c3
    · refine LI.other c1 e ?_
      have hi8 : i < σ 8 0 := by omega
      rw [e24]
      obtain ⟨l1, l2, l3, l4, l5, l6⟩ := h4 i hi8
      have m0 : poW σ p s h 0 0 = σ 0 0 := by rw [b4 _ _ (by decide), poN_f (by decide)]
      have mo : ∀ g, g ≠ 8 → g ≠ 17 → g ≠ 18 → poW σ p s h g i = σ g i := fun g a b c => by rw [b4 _ _ ⟨b, c⟩, poN_o a e]
      have m18 : poW σ p s h 18 i = σ 18 i := (b3.2.1 18 i (by decide) (by decide) (by decide) e).trans (poN_f (by decide))
      refine ⟨by rw [mo 9 (by decide) (by decide) (by decide), m0]; exact l1, by rw [mo 11 (by decide) (by decide) (by decide)]; exact l2, l3.of (fun q x y => (b3.2.2 q (by omega)).trans (poN_f (by decide))) m18 (by have := l6.2.2.2.2; omega), by rw [m18]; exact l4, by rw [mo 12 (by decide) (by decide) (by decide)]; exact l5, ?_⟩
      unfold lenB
      rw [mo 12 (by decide) (by decide) (by decide), mo 11 (by decide) (by decide) (by decide), mo 15 (by decide) (by decide) (by decide), m18]
      exact l6
  · have hne : i ≠ σ 8 0 := by omega
    obtain ⟨d1, d2⟩ := h5 i (by omega)
    rw [c1.2.1 18 i (by decide) (by decide) (by decide) hne, c1.2.1 15 i (by decide) (by decide) (by decide) hne, b3.2.1 18 i (by decide) (by decide) (by decide) hne, b3.2.1 15 i (by decide) (by decide) (by decide) hne, poN_f (by decide), poN_f (by decide)]
    exact ⟨d1, d2⟩
  · rw [c1.1 g j (Or.inl (by omega)), b4 g j ⟨by omega, by omega⟩, poN_f ⟨by omega, by omega, by omega, by omega, by omega, by omega⟩]
