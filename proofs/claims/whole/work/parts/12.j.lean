/-! WHAT A LETTER'S DAY NEEDS, WHAT IS FINAL; THE FIRST CALLS (mine) -/
theorem da_hr {σ : Sg} {i : Nat} (hV : RV σ) (hi : i < σ 8 0) (h1 : 1 ≤ σ 24 0) (h : LI σ (σ 24 0 - 1) i) (hS : LX 19 20 5 σ) (hD : LX 21 22 1 σ) (z : cmes σ i ∨ lies σ i) : (σ 12 i ≠ 1 ∧ σ 12 i ≠ 5 ∧ σ 12 i ≠ 6 ∧ σ 12 i ≠ 7) ∧ LX 19 20 5 (daA σ i) ∧ LX 21 22 1 (daA σ i) ∧ daA σ i 18 i ≤ 124 - 3 ∧ (¬ 60 ≤ σ 24 0 - σ 11 i → HR (daA σ i) i) := by
  have h8 : σ 8 0 ≤ 40 := hV 8 0
  have h15 : σ 15 i ≤ 6 := hV 15 i
  obtain ⟨a, b, c, d, e, f1, f2, f3, f4, f5⟩ := id h
  have hl : σ 18 i < 180 := by omega
  obtain ⟨g1, g2, g3, g4, g5, g6⟩ := daA_ok (σ := σ) (i := i) hl
  have q12 : daA σ i 12 i = σ 12 i := g2 12 i (by decide)
  have q15 : daA σ i 15 i = σ 15 i := g2 15 i (by decide)
  have q11 : daA σ i 11 i = σ 11 i := g2 11 i (by decide)
  have q24 : daA σ i 24 0 = σ 24 0 := g2 24 0 (by decide)
  have q8 : daA σ i 8 0 = σ 8 0 := g2 8 0 (by decide)
  have q9 : daA σ i 9 i = σ 9 i := g2 9 i (by decide)
  have q0 : daA σ i 0 0 = σ 0 0 := g2 0 0 (by decide)
  have hst : σ 12 i ≠ 1 ∧ σ 12 i ≠ 5 ∧ σ 12 i ≠ 6 ∧ σ 12 i ≠ 7 := by
    rcases z with ⟨z, -, -⟩ | z | z | z <;> omega
  have hS' : LX 19 20 5 (daA σ i) := hS.keep (i := i) (fun j => g2 19 j (by decide)) (g2 20 0 (by decide)) q8 (fun j _ => g2 12 j (by decide)) hst.2.1 (by rw [q12]; exact hst.2.1)
  have hD' : LX 21 22 1 (daA σ i) := hD.keep (i := i) (fun j => g2 21 j (by decide)) (g2 22 0 (by decide)) q8 (fun j _ => g2 12 j (by decide)) hst.1 (by rw [q12]; exact hst.1)
  have hlA : daA σ i 18 i ≤ 124 - 3 := by
    by_cases y : cmes σ i
    · have := g5 y; have := f3 y.1; omega
    · rw [g6 y]
      rcases z with z | z | z | z
      · exact absurd z y
      · have := f1 z; omega
      · have := f2 (Or.inl z); omega
      · have := f2 (Or.inr z); omega
  refine ⟨hst, hS', hD', hlA, fun y => ?_⟩
  have hr : HR (daA σ i) i := by
    refine ⟨by omega, by rw [q9, q0]; exact a, by rw [q11, q24]; omega, by rw [q11, q24]; omega, by rw [q12]; exact hst, g3 c, by omega, ?_, ?_⟩
    · rw [q12, q15, q11, q24]
      intro w
      have hn : ¬ cmes σ i := fun v => by have := v.1; omega
      rw [g6 hn]
      have := f1 w
      omega
    · rw [q12, q15, q11, q24]
      intro w
      by_cases v : cmes σ i
      · have := g5 v
        have := f3 v.1
        omega
      · rw [g6 v]
        rcases z with z | z | z | z
        · exact absurd z v
        · exact absurd z w
        · have := f2 (Or.inl z); omega
        · have := f2 (Or.inr z); omega
  exact hr
theorem ha_67 {σ : Sg} {i : Nat} (hV : RV σ) (h : HR σ i) : ha σ i 12 i ≠ 6 ∧ ha σ i 12 i ≠ 7 := by
  obtain ⟨h1, h2, h3, h4, h5, h6, h7, h8, h9⟩ := h
  have h15 : σ 15 i ≤ 6 := hV 15 i
  have hl : σ 18 i < 170 := by
    by_cases z : σ 12 i = 0
    · have := h8 z; omega
    · have := h9 z; omega
  by_cases c1 : shut σ (σ 13 i)
  · rw [ha_1 c1]
    have := (hld_ok (σ := σ) (i := i) (by omega)).2.2.1
    omega
  · by_cases c2 : plS σ (σ 9 i) = σ 13 i
    · rw [ha_2 c1 c2]
      have := (dlv_ok (σ := σ) (i := i) (by omega)).2.2.1
      omega
    · by_cases c3 : woS σ (σ 13 i) (σ 9 i) = 4294967295
      · rw [ha_5 c1 c2 (Or.inl c3), st_s]; decide
      · by_cases c4 : chF σ (6 * roW σ i) (σ 13 i) (σ 3 (roW σ i)) = true
        · rw [ha_3 c1 c2 c3 c4, st_s]; decide
        · by_cases c5 : meS σ i = 4294967295
          · rw [ha_5 c1 c2 (Or.inr ⟨c4, c5⟩), st_s]; decide
          · rw [ha_4 c1 c2 c3 c4 c5]
            by_cases c6 : σ 15 i = 6
            · have e : go σ i (σ 4 (meS σ i)) = di σ i := by unfold go; rw [if_pos c6]
              rw [e]
              have := (di_ok (σ := σ) (i := i) (by omega)).2.2.1
              omega
            · have := (go_ok (σ := σ) (i := i) (p := σ 4 (meS σ i)) (by omega) h6 (hV 4 _) c6).2.2.1
              omega
/-- letters that are final -/
abbrev fnl (v : Nat) : Bool := decide (v = 1 ∨ v = 5 ∨ v = 6 ∨ v = 7)
def fin (σ : Sg) : Nat := cnt (fun i => fnl (σ 12 i)) (σ 8 0)
theorem fin_le {σ : Sg} (hV : RV σ) : fin σ ≤ 40 := Nat.le_trans (cnt_le _) (hV 8 0)
theorem fin_da {σ : Sg} {i : Nat} (hV : RV σ) (hi : i < σ 8 0) (h1 : 1 ≤ σ 24 0) (h : LI σ (σ 24 0 - 1) i) (hS : LX 19 20 5 σ) (hD : LX 21 22 1 σ) : fin (da σ i) = fin σ + (if (cmes σ i ∨ lies σ i) ∧ (da σ i 12 i = 1 ∨ da σ i 12 i = 5) then 1 else 0) := by
  obtain ⟨-, hm, hL, -, -⟩ := da_ok hV hi h1 h hS hD
  have e8 : da σ i 8 0 = σ 8 0 := hm.f.2.1
  by_cases z : cmes σ i ∨ lies σ i
  · have hst := (da_hr hV hi h1 h hS hD z).1
    have hk := cnt_up (P := fun j => fnl (σ 12 j)) (Q := fun j => fnl (da σ i 12 j)) (x := i) (by simp only [fnl, decide_eq_false_iff_not]; omega) (σ 8 0) (fun j _ hne => by rw [hm.2.1 12 j (by decide) (by decide) (by decide) hne])
    unfold fin
    rw [e8, hk]
    have hn67 : da σ i 12 i ≠ 6 ∧ da σ i 12 i ≠ 7 := by
      by_cases y : 60 ≤ σ 24 0 - σ 11 i
      · have e1 : da σ i = di (daA σ i) i := by unfold da; rw [if_pos ⟨z, y⟩]
        obtain ⟨g1, g2, g3, g4, g5, g6⟩ := daA_ok (σ := σ) (i := i) (by obtain ⟨a, b, c, d, e, f1, f2, f3, f4, f5⟩ := id h; omega)
        have := (di_ok (σ := daA σ i) (i := i) (by have := (da_hr hV hi h1 h hS hD z).2.2.2.1; omega)).2.2.1
        rw [e1]; omega
      · have e1 : da σ i = ha (daA σ i) i := by unfold da; rw [if_neg (fun w => y w.2), if_pos z]
        have hr := (da_hr hV hi h1 h hS hD z).2.2.2.2 y
        have := ha_67 hV.xdaA hr
        rw [e1]; exact this
    by_cases w : da σ i 12 i = 1 ∨ da σ i 12 i = 5
    · rw [if_pos (show (cmes σ i ∨ lies σ i) ∧ (da σ i 12 i = 1 ∨ da σ i 12 i = 5) from ⟨z, w⟩), if_pos (show i < σ 8 0 ∧ fnl (da σ i 12 i) = true from ⟨hi, decide_eq_true (by omega)⟩)]
    · rw [if_neg (show ¬ ((cmes σ i ∨ lies σ i) ∧ (da σ i 12 i = 1 ∨ da σ i 12 i = 5)) from fun v => w v.2), if_neg (show ¬ (i < σ 8 0 ∧ fnl (da σ i 12 i) = true) from fun v => by have := of_decide_eq_true v.2; omega)]
  · have e1 : da σ i = σ := by
      obtain ⟨a, b, c, d, e, f1, f2, f3, f4, f5⟩ := id h
      unfold da
      rw [if_neg (fun w => z w.1), if_neg z]
      exact (daA_ok (σ := σ) (i := i) (by omega)).2.2.2.2.2 (fun w => z (Or.inl w))
    rw [if_neg (show ¬ ((cmes σ i ∨ lies σ i) ∧ (da σ i 12 i = 1 ∨ da σ i 12 i = 5)) from fun v => z v.1), e1]
    rfl
/-- the first call that holds is the last one, as calls come one behind another -/
theorem FS.c {P P' : Nat → Prop} {f f' : Nat → Nat} {n z v : Nat} (h : FS P f n z v) (hP : ∀ j, j < n → (P' j ↔ P j)) (hf : ∀ j, j < n → f' j = f j) : FS P' f' n z v := by
  rcases h with ⟨i, h1, h2, h3, h4⟩ | ⟨h1, h2⟩
  · exact Or.inl ⟨i, h1, (hP i h1).mpr h2, fun j hj z => h3 j hj ((hP j (by omega)).mp z), by rw [hf i h1]; exact h4⟩
  · exact Or.inr ⟨fun j hj z => h1 j hj ((hP j hj).mp z), h2⟩
theorem plF_FS {σ : Sg} {b : Nat} : ∀ n, (∀ k, k < n → σ 5 (b + k) ≤ σ 6 (b + k) ∧ ∀ j, j < k → σ 6 (b + j) < σ 5 (b + k)) → FS (fun j => σ 5 (b + j) ≤ σ 24 0 ∧ σ 24 0 ≤ σ 6 (b + j)) (fun j => σ 4 (b + j)) n 4294967295 (plF σ b n)
  | 0, _ => Or.inr ⟨fun j hj => by omega, rfl⟩
  | n + 1, h => by
    have ih := plF_FS n (fun k hk => h k (by omega))
    unfold plF
    by_cases c : σ 5 (b + n) ≤ σ 24 0 ∧ σ 24 0 ≤ σ 6 (b + n)
    · rw [if_pos c]
      exact Or.inl ⟨n, by omega, c, fun j hj z => by have := (h n (by omega)).2 j hj; have := z.2; omega, rfl⟩
    · rw [if_neg c]
      rcases ih with ⟨i, h1, h2, h3, h4⟩ | ⟨h1, h2⟩
      · exact Or.inl ⟨i, by omega, h2, h3, h4⟩
      · refine Or.inr ⟨fun j hj => ?_, h2⟩
        by_cases e : j = n
        · rw [e]; exact c
        · exact h1 j (by omega)
theorem chF_FS {σ : Sg} {b q : Nat} : ∀ n, FS (fun j => σ 4 (b + j) = q ∧ σ 24 0 < σ 5 (b + j)) (fun _ => 1) n 0 (if chF σ b q n = true then 1 else 0)
  | 0 => Or.inr ⟨fun j hj => by omega, rfl⟩
  | n + 1 => by
    have ih := chF_FS (σ := σ) (b := b) (q := q) n
    have e : chF σ b q (n + 1) = (chF σ b q n || (decide (σ 4 (b + n) = q) && decide (σ 24 0 < σ 5 (b + n)))) := rfl
    rw [e]
    rcases ih with ⟨i, h1, h2, h3, h4⟩ | ⟨h1, h2⟩
    · have h4 : (if chF σ b q n = true then 1 else 0) = 1 := h4
      have : chF σ b q n = true := by
        by_cases z : chF σ b q n = true
        · exact z
        · rw [if_neg z] at h4; omega
      exact Or.inl ⟨i, by omega, h2, h3, by rw [this]; rfl⟩
    · have hn : chF σ b q n = false := by
        by_cases z : chF σ b q n = true
        · rw [if_pos z] at h2; omega
        · simpa using z
      rw [hn, Bool.false_or]
      by_cases c : σ 4 (b + n) = q ∧ σ 24 0 < σ 5 (b + n)
      · exact Or.inl ⟨n, by omega, c, h1, by simp [c]⟩
      · refine Or.inr ⟨fun j hj => ?_, ?_⟩
        · by_cases e : j = n
          · rw [e]; exact c
          · exact h1 j (by omega)
        · rw [if_neg (fun z => c (by simpa using z))]
theorem mtF_FS {σ : Sg} {b q : Nat} (hb : b < 2000) : ∀ n, n ≤ 6 → (∀ k, k < n → σ 5 (b + k) ≤ σ 6 (b + k) ∧ ∀ j, j < k → σ 6 (b + j) < σ 5 (b + k)) → (∃ i, i < n ∧ (σ 4 (b + i) ≠ q ∧ thr σ q (b + i) ≤ σ 6 (b + i)) ∧ (∀ j, j < i → ¬ (σ 4 (b + j) ≠ q ∧ thr σ q (b + j) ≤ σ 6 (b + j))) ∧ (mtF σ b q n).1 = b + i ∧ (mtF σ b q n).2 = mtg σ q (b + i)) ∨ ((∀ j, j < n → ¬ (σ 4 (b + j) ≠ q ∧ thr σ q (b + j) ≤ σ 6 (b + j))) ∧ (mtF σ b q n).1 = 4294967295)
  | 0, _, _ => Or.inr ⟨fun j hj => by omega, rfl⟩
  | n + 1, h6, h => by
    have ih := mtF_FS (q := q) hb n (by omega) (fun k hk => h k (by omega))
    have e : mtF σ b q (n + 1) = if σ 4 (b + n) ≠ q ∧ thr σ q (b + n) ≤ σ 6 (b + n) ∧ ((mtF σ b q n).1 = 4294967295 ∨ mtg σ q (b + n) < (mtF σ b q n).2) then (b + n, mtg σ q (b + n)) else mtF σ b q n := rfl
    rcases ih with ⟨i, h1, h2, h3, h4, h5⟩ | ⟨h1, h2⟩
    · have hs := (h n (by omega)).2 i h1
      have hs2 := (h i (by omega)).1
      have hm : mtg σ q (b + i) ≤ σ 6 (b + i) := by unfold mtg; split; exact h2.2; exact hs2
      have hm2 : σ 5 (b + n) ≤ mtg σ q (b + n) := by unfold mtg; split <;> omega
      rw [e, if_neg (fun z => by rcases z.2.2 with w | w; omega; omega)]
      exact Or.inl ⟨i, by omega, h2, h3, h4, h5⟩
    · by_cases c : σ 4 (b + n) ≠ q ∧ thr σ q (b + n) ≤ σ 6 (b + n)
      · rw [e, if_pos ⟨c.1, c.2, Or.inl h2⟩]
        exact Or.inl ⟨n, by omega, c, h1, rfl, rfl⟩
      · rw [e, if_neg (fun z => c ⟨z.1, z.2.1⟩)]
        refine Or.inr ⟨fun j hj => ?_, h2⟩
        by_cases e : j = n
        · rw [e]; exact c
        · exact h1 j (by omega)
theorem woF_lt {σ : Sg} {q u : Nat} : ∀ n, woF σ q u n = 4294967295 ∨ woF σ q u n < n
  | 0 => Or.inl rfl
  | n + 1 => by
    unfold woF
    split
    · exact Or.inr (by omega)
    · rcases woF_lt (σ := σ) (q := q) (u := u) n with h | h
      · exact Or.inl h
      · exact Or.inr (by omega)
/-- the class's calls are the reference's where they are read; a ship's draft is its route whose number is next -/
def Cr (σ ρ : Sg) : Prop := (∀ u n, n < σ 7 u → ρ 3 (21 * u + n) = σ 3 (21 * u + n) ∧ (ρ 1 (21 * u + n) = σ 1 (21 * u + n) ∧ ρ 2 (21 * u + n) = σ 2 (21 * u + n)) ∧ ∀ k, k < σ 3 (21 * u + n) → ρ 4 (6 * (21 * u + n) + k) = σ 4 (6 * (21 * u + n) + k) ∧ ρ 5 (6 * (21 * u + n) + k) = σ 5 (6 * (21 * u + n) + k) ∧ ρ 6 (6 * (21 * u + n) + k) = σ 6 (6 * (21 * u + n) + k)) ∧ (∀ u, u < σ 0 0 → ρ 3 (21 * u + σ 7 u) = σ 3 (21 * u + 20) ∧ ∀ k, k < σ 3 (21 * u + 20) → ρ 4 (6 * (21 * u + σ 7 u) + k) = σ 4 (6 * (21 * u + 20) + k) ∧ ρ 5 (6 * (21 * u + σ 7 u) + k) = σ 5 (6 * (21 * u + 20) + k) ∧ ρ 6 (6 * (21 * u + σ 7 u) + k) = σ 6 (6 * (21 * u + 20) + k)) ∧ ∀ j, ρ 1 j ≤ 9 ∧ ρ 2 j ≤ 1000 ∧ ρ 3 j ≤ 6 ∧ ρ 4 j ≤ 9 ∧ ρ 5 j ≤ 1000 ∧ ρ 6 j ≤ 1030
theorem Cr.of {σ σ' ρ : Sg} (h : Cr σ ρ) (he : ∀ g j, g < 8 → σ' g j = σ g j) : Cr σ' ρ := by
  obtain ⟨h1, h2, h3⟩ := h
  have e1 := fun j => he 1 j (by decide)
  have e2 := fun j => he 2 j (by decide)
  have e3 := fun j => he 3 j (by decide)
  have e4 := fun j => he 4 j (by decide)
  have e5 := fun j => he 5 j (by decide)
  have e6 := fun j => he 6 j (by decide)
  have e7 := fun j => he 7 j (by decide)
  have e0 := he 0 0 (by decide)
  refine ⟨fun u n hn => ?_, fun u hu => ?_, h3⟩
  · rw [e7] at hn
    obtain ⟨a, b, c⟩ := h1 u n hn
    rw [e3, e1, e2]
    exact ⟨a, b, fun k hk => by rw [e4, e5, e6]; exact c k hk⟩
  · rw [e0] at hu
    obtain ⟨a, b⟩ := h2 u hu
    rw [e7, e3]
    exact ⟨a, fun k hk => by rw [e4, e5, e6]; exact b k hk⟩
theorem cs_woF {σ ρ : Sg} {q u : Nat} (h : Cr σ ρ) : ∀ n, n ≤ σ 7 u → woF (cs σ ρ) q u n = woF σ q u n
  | 0, _ => rfl
  | n + 1, hn => by
    show (if ρ 2 (21 * u + n) + wdd (ρ 1 (21 * u + n)) q ≤ σ 24 0 then n else woF (cs σ ρ) q u n) = _
    rw [cs_woF h n (by omega), (h.1 u n (by omega)).2.1.1, (h.1 u n (by omega)).2.1.2]
    rfl
theorem cs_30t {σ ρ : Sg} {u : Nat} (hu : u < 10) : cs σ ρ 30 (10 + u) = σ 7 u := by
  show lnC σ (10 + u) = _
  unfold lnC
  rw [if_neg (by omega), if_neg (by omega), if_neg (by omega), if_neg (by omega), if_pos (by omega), show 10 + u - 10 = u by omega]
theorem cs_30r {σ ρ : Sg} {u : Nat} : cs σ ρ 30 (20 + u) = rcF σ u (σ 22 0) := by
  show lnC σ (20 + u) = _
  unfold lnC
  rw [if_neg (by omega), if_neg (by omega), if_neg (by omega), if_neg (by omega), if_neg (by omega), show 20 + u - 20 = u by omega]
theorem cs_31r {σ ρ : Sg} {u j : Nat} (hj : j < 64) : cs σ ρ 31 (64 * (20 + u) + j) = dvF σ u j (σ 22 0) := by
  show elC σ (64 * (20 + u) + j) = _
  unfold elC
  rw [if_neg (by omega), if_neg (by omega), if_neg (by omega), show (64 * (20 + u) + j) / 64 - 20 = u by omega, show (64 * (20 + u) + j) % 64 = j by omega]
theorem cs_31d {σ ρ : Sg} {j : Nat} (hj : j < 64) : cs σ ρ 31 (64 * 2 + j) = σ 19 j := by
  show elC σ (64 * 2 + j) = _
  unfold elC
  rw [if_neg (by omega), if_pos (by omega), show 64 * 2 + j - 128 = j by omega]
