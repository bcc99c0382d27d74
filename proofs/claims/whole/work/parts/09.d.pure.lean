/-! A DAY (mine) -/
/-- in the middle of a day: the letters below n have been looked at today, the others yesterday -/
def IM (σ : Sg) (n : Nat) : Prop := RV σ ∧ LX 19 20 5 σ ∧ LX 21 22 1 σ ∧ (∀ i, i < n → i < σ 8 0 → LI σ (σ 24 0) i) ∧ (∀ i, n ≤ i → i < σ 8 0 → LI σ (σ 24 0 - 1) i) ∧ (∀ i, σ 8 0 ≤ i → σ 18 i = 0 ∧ σ 15 i = 0) ∧ 1 ≤ σ 24 0
/-- routes: the calls' days rise; what isn't there yet is empty -/
def RI (σ : Sg) : Prop := (∀ r k, k < σ 3 r → σ 5 (6 * r + k) ≤ σ 6 (6 * r + k) ∧ ∀ j, j < k → σ 6 (6 * r + j) < σ 5 (6 * r + k)) ∧ (∀ s, σ 0 0 ≤ s → σ 7 s = 0 ∧ σ 3 (21 * s + 20) = 0)
def IV (σ : Sg) : Prop := RV σ ∧ LX 19 20 5 σ ∧ LX 21 22 1 σ ∧ (∀ i, i < σ 8 0 → LI σ (σ 24 0) i) ∧ (∀ i, σ 8 0 ≤ i → σ 18 i = 0 ∧ σ 15 i = 0) ∧ RI σ
theorem RI.of {σ σ' : Sg} (h : RI σ) (he : ∀ g j, g < 8 → σ' g j = σ g j) : RI σ' := by
  obtain ⟨h1, h2⟩ := h
  refine ⟨fun r k hk => ?_, fun s hs => ?_⟩
  · rw [he 3 _ (by decide)] at hk
    obtain ⟨a, b⟩ := h1 r k hk
    rw [he 5 _ (by decide), he 6 _ (by decide)]
    exact ⟨a, fun j hj => by rw [he 6 _ (by decide)]; exact b j hj⟩
  · rw [he 0 _ (by decide)] at hs
    rw [he 7 _ (by decide), he 3 _ (by decide)]
    exact h2 s hs
theorem daA_ok {σ : Sg} {i : Nat} (hl : σ 18 i < 180) : Sm σ (daA σ i) i ∧ (∀ g j, g ≠ 17 ∧ g ≠ 18 → daA σ i g j = σ g j) ∧ (hasP σ i → hasP (daA σ i) i) ∧ σ 18 i ≤ daA σ i 18 i ∧ (cmes σ i → daA σ i 18 i ≤ σ 18 i + 4) ∧ (¬ cmes σ i → daA σ i = σ) := by
  unfold daA
  by_cases c : cmes σ i
  · rw [if_pos c]
    have h := wDay_18 (σ := σ) (i := i)
    exact ⟨Sm.xwDay (by omega), fun g j z => wDay_f z, fun h => h.xwDay, h.1, fun _ => h.2, fun z => absurd c z⟩
  · rw [if_neg c]
    exact ⟨Sm.rf, fun _ _ _ => rfl, fun h => h, Nat.le_refl _, fun z => absurd z c, fun _ => rfl⟩
theorem RV.xdaA {σ : Sg} {i : Nat} (h : RV σ) : RV (daA σ i) := by
  unfold daA
  split
  · exact h.xwDay
  · exact h
/-- the letter is active: it comes, or it lies -/
theorem LI.act {σ : Sg} {i : Nat} (h : LI σ (σ 24 0 - 1) i) (h1 : 1 ≤ σ 24 0) (hV : RV σ) : σ 18 i < 120 ∨ (¬ cmes σ i ∧ ¬ lies σ i) := by
  obtain ⟨a, b, c, d, e, f1, f2, f3, f4, f5⟩ := h
  have h15 : σ 15 i ≤ 6 := hV 15 i
  by_cases z : cmes σ i ∨ lies σ i
  · left
    rcases z with ⟨z, -, -⟩ | z | z | z
    · have := f3 z; omega
    · have := f1 z; omega
    · have := f2 (Or.inl z); omega
    · have := f2 (Or.inr z); omega
  · right
    exact ⟨fun y => z (Or.inl y), fun y => z (Or.inr y)⟩
theorem da_ok {σ : Sg} {i : Nat} (hV : RV σ) (hi : i < σ 8 0) (h1 : 1 ≤ σ 24 0) (h : LI σ (σ 24 0 - 1) i) (hS : LX 19 20 5 σ) (hD : LX 21 22 1 σ) : RV (da σ i) ∧ Sm σ (da σ i) i ∧ LI (da σ i) (σ 24 0) i ∧ LX 19 20 5 (da σ i) ∧ LX 21 22 1 (da σ i) := by
  have h8 : σ 8 0 ≤ 40 := hV 8 0
  have h15 : σ 15 i ≤ 6 := hV 15 i
  obtain ⟨a, b, c, d, e, f1, f2, f3, f4, f5⟩ := id h
  have hl : σ 18 i < 180 := by omega
  obtain ⟨g1, g2, g3, g4, g5, g6⟩ := daA_ok (σ := σ) (i := i) hl
  have q12 : daA σ i 12 i = σ 12 i := g2 12 i (by decide)
  have q15 : daA σ i 15 i = σ 15 i := g2 15 i (by decide)
  have q11 : daA σ i 11 i = σ 11 i := g2 11 i (by decide)
  have q24 : daA σ i 24 0 = σ 24 0 := g2 24 0 (by decide)
  have q8 : daA σ i 8 0 = σ 8 0 := g2 8 0 (by decide)
  have q9 : daA σ i 9 i = σ 9 i := g2 9 i (by decide)
  have q0 : daA σ i 0 0 = σ 0 0 := g2 0 0 (by decide)
  by_cases z : cmes σ i ∨ lies σ i
  · have hst : σ 12 i ≠ 1 ∧ σ 12 i ≠ 5 ∧ σ 12 i ≠ 6 ∧ σ 12 i ≠ 7 := by
      rcases z with ⟨z, -, -⟩ | z | z | z <;> omega
    have hS' : LX 19 20 5 (daA σ i) := hS.keep (i := i) (fun j => g2 19 j (by decide)) (g2 20 0 (by decide)) q8 (fun j _ => g2 12 j (by decide)) hst.2.1 (by rw [q12]; exact hst.2.1)
    have hD' : LX 21 22 1 (daA σ i) := hD.keep (i := i) (fun j => g2 21 j (by decide)) (g2 22 0 (by decide)) q8 (fun j _ => g2 12 j (by decide)) hst.1 (by rw [q12]; exact hst.1)
    have hlA : daA σ i 18 i ≤ 124 - 3 := by
      by_cases y : cmes σ i
      · have := g5 y; have := f3 y.1; omega
      · rw [g6 y]
        rcases z with z | z | z | z
        · exact absurd z y
        · have := f1 z; omega
        · have := f2 (Or.inl z); omega
        · have := f2 (Or.inr z); omega
    by_cases y : 60 ≤ σ 24 0 - σ 11 i
    · have e1 : da σ i = di (daA σ i) i := by unfold da; rw [if_pos ⟨z, y⟩]
      rw [e1]
      obtain ⟨a1, a2, a3, a4, a5, a6⟩ := di_ok (σ := daA σ i) (i := i) (by omega)
      have hm := g1.tr a1
      obtain ⟨r1, r2⟩ := LX.both a1 a2 hS' hD' (by omega) (by omega) (by omega)
      refine ⟨hV.xdaA.xdi (by omega), hm, ⟨by rw [hm.f.2.2.2.1, hm.f.1]; exact a, by rw [hm.f.2.2.2.2.2]; omega, a6 (g3 c), by omega, by omega, ?_⟩, r1, r2⟩
      unfold lenB
      rw [a3, a4]
      have hcap : daA σ i 18 i ≤ 119 := by
        by_cases y : cmes σ i
        · have := g5 y; have := f3 y.1; omega
        · rw [g6 y]
          rcases z with z | z | z | z
          · exact absurd z y
          · have := f1 z; omega
          · have := f2 (Or.inl z); omega
          · have := f2 (Or.inr z); omega
      exact ⟨fun z => by omega, fun z => by omega, fun z => by omega, fun z => by omega, by omega⟩
    · have e1 : da σ i = ha (daA σ i) i := by unfold da; rw [if_neg (fun w => y w.2), if_pos z]
      rw [e1]
      have hr : HR (daA σ i) i := by
        refine ⟨by omega, by rw [q9, q0]; exact a, by rw [q11, q24]; omega, by rw [q11, q24]; omega, by rw [q12]; exact hst, g3 c, by omega, ?_, ?_⟩
        · rw [q12, q15, q11, q24]
          intro w
          have hn : ¬ cmes σ i := fun v => by have := v.1; omega
          rw [g6 hn]
          have := f1 w
          omega
        · rw [q12, q15, q11, q24]
          intro w
          by_cases v : cmes σ i
          · have := g5 v
            have := f3 v.1
            omega
          · rw [g6 v]
            rcases z with z | z | z | z
            · exact absurd z v
            · exact absurd z w
            · have := f2 (Or.inl z); omega
            · have := f2 (Or.inr z); omega
      obtain ⟨a1, a2, a3⟩ := ha_ok hV.xdaA hr
      obtain ⟨r1, r2⟩ := LX.both a1 a2 hS' hD' (by omega) (by omega) (by omega)
      rw [q24] at a3
      exact ⟨hV.xdaA.xha (by omega), g1.tr a1, a3, r1, r2⟩
  · have e1 : da σ i = σ := by
      unfold da
      rw [if_neg (fun w => z w.1), if_neg z]
      exact g6 (fun w => z (Or.inl w))
    rw [e1]
    refine ⟨hV, Sm.rf, ⟨a, by omega, c, d, e, fun w => absurd (Or.inr (Or.inl w)) z, fun w => absurd (Or.inr (by rcases w with w | w; exact Or.inr (Or.inl w); exact Or.inr (Or.inr w))) z, fun w => ?_, f4, f5⟩, hS, hD⟩
    have := f3 w
    omega
theorem IM.step {σ : Sg} {n : Nat} (h : IM σ n) (hn : n < σ 8 0) : IM (da σ n) (n + 1) ∧ Sm σ (da σ n) n := by
  obtain ⟨h1, h2, h3, h4, h5, h6, h7⟩ := h
  obtain ⟨r1, r2, r3, r4, r5⟩ := da_ok h1 hn h7 (h5 n (Nat.le_refl n) hn) h2 h3
  have e8 := r2.f.2.1
  have e24 := r2.f.2.2.1
  refine ⟨⟨r1, r4, r5, fun i hi hi8 => ?_, fun i hi hi8 => ?_, fun i hi => ?_, by rw [e24]; exact h7⟩, r2⟩
  · rw [e24]
    rw [e8] at hi8
    by_cases e : i = n
    · subst e; exact r3
    · exact (h4 i (by omega) hi8).other r2 e
  · rw [e24]
    rw [e8] at hi8
    exact (h5 i (by omega) hi8).other r2 (by omega)
  · rw [e8] at hi
    rw [r2.2.1 18 i (by decide) (by decide) (by decide) (by omega), r2.2.1 15 i (by decide) (by decide) (by decide) (by omega)]
    exact h6 i hi
