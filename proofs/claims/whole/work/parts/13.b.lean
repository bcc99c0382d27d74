/-! THE CLASS: what its answers are, over the reference's state (mine) -/
/-- a public method: it throws, or answers rs and nx is the state -/
def pXi (l : Launch) (y : MethodName) (ws : List Cond) (L mc ms : Nat) (G : mG) (N : Mem) (Γ : Adr) (σ ρ : Sg) (av : List Value) (th rs : Nat) (nx : Sg) (xs : List String) : Prop :=
  ∀ (M : Mem) (sz : Nat), Rp G N Γ (cs σ ρ) M → cXi l y ws L mc ms G M sz av (fun r M' => th = 0 ∧ r = nI rs ∧ ∃ (Γ' : Adr) (ρ' : Sg), Γ' 0 0 = Γ 0 0 ∧ Rp G N Γ' (cs nx ρ') M' ∧ HS nx ρ') (xOk th xs)
theorem vSail (l : Launch) (G : mG) (N : Mem) (Γ : Adr) (σ ρ : Sg) (u : Nat) (hH : HS σ ρ) (hu : u < σ 0 0) (M : Mem) (sz : Nat) (hR : Rp G N Γ (cs σ ρ) M) : cMi l yX3_portOn wsX3_portOn 3 0 0 G M sz [.ref (Γ 4 u), .int (nI (σ 24 0))] (fun y9 M' => y9 = nI (plS σ u) ∧ M' = M) := by
  obtain ⟨⟨hV, hS, hD, hL, hZ, hI⟩, -, hC⟩ := hH
  have b0 : σ 0 0 ≤ 8 := hV 0 0
  have b24 : σ 24 0 ≤ 1000 := hV 24 0
  have b7 : σ 7 u ≤ 20 := hV 7 u
  have hb : ∀ r j, ρ 4 (6 * r + j) < 10 ∧ ρ 5 (6 * r + j) < 2147483648 ∧ ρ 6 (6 * r + j) < 2147483648 := fun r j => by have := hC.2.2 (6 * r + j); omega
  refine kSailC l G N Γ (cs σ ρ) u (σ 24 0) (plS σ u) hu b0 (by omega) ?_ M sz hR
  rw [cs_30t (by omega)]
  by_cases z : σ 7 u = 0
  · refine Or.inl ⟨z, ?_⟩
    unfold plS
    rw [if_neg (by omega)]
  · obtain ⟨c3, -, c4⟩ := hC.1 u (σ 7 u - 1) (by omega)
    refine Or.inr ⟨σ 7 u - 1, by omega, by omega, (hC.2.2 _).2.2.1, fun j _ => hb _ j, ?_⟩
    have e : plS σ u = plF σ (6 * (21 * u + (σ 7 u - 1))) (σ 3 (21 * u + (σ 7 u - 1))) := by
      unfold plS
      rw [if_pos (by omega)]
    rw [e, show cs σ ρ 3 (21 * u + (σ 7 u - 1)) = σ 3 (21 * u + (σ 7 u - 1)) from c3]
    refine (plF_FS _ (hI.1 _)).c (fun j hj => ?_) (fun j hj => (c4 j hj).1)
    show (ρ 5 (6 * (21 * u + (σ 7 u - 1)) + j) ≤ σ 24 0 ∧ σ 24 0 ≤ ρ 6 (6 * (21 * u + (σ 7 u - 1)) + j)) ↔ _
    rw [(c4 j hj).2.1, (c4 j hj).2.2]
theorem vWord (l : Launch) (G : mG) (N : Mem) (Γ : Adr) (σ ρ : Sg) (u q : Nat) (hH : HS σ ρ) (hu : u < σ 0 0) (hq : q < 10) (M : Mem) (sz : Nat) (hR : Rp G N Γ (cs σ ρ) M) : cMi l yX3_wordIn wsX3_wordIn 3 0 0 G M sz [.ref (Γ 4 u), .int (nI q), .int (nI (σ 24 0))] (fun y9 M' => y9 = nI (woS σ q u) ∧ M' = M) := by
  obtain ⟨⟨hV, hS, hD, hL, hZ, hI⟩, -, hC⟩ := hH
  have b0 : σ 0 0 ≤ 8 := hV 0 0
  have b24 : σ 24 0 ≤ 1000 := hV 24 0
  have b7 : σ 7 u ≤ 20 := hV 7 u
  have h := kWordIn l G N Γ (cs σ ρ) u q hu b0 hq (by rw [cs_30t (by omega)]; exact b7) (fun r _ => ⟨(hC.2.2 r).1, (hC.2.2 r).2.1⟩) b24 M sz hR
  rw [cs_30t (by omega), cs_woF hC _ (Nat.le_refl _)] at h
  exact h
theorem vPlace (l : Launch) (G : mG) (N : Mem) (Γ : Adr) (σ ρ : Sg) (i : Nat) (hi : i < σ 8 0) (h7 : σ 12 i ≤ 7) (M : Mem) (sz : Nat) (hR : Rp G N Γ (cs σ ρ) M) : cMi l yX1_place wsX1_place 0 0 0 G M sz [.ref (Γ 9 i)] (fun y9 M' => y9 = nI (whS σ i) ∧ M' = M) := by
  have e12 : cs σ ρ 12 i = σ 12 i := if_neg (by omega)
  have h := kPlace l G N Γ (cs σ ρ) i hi (by omega) M sz hR
  have e : plC (cs σ ρ) i = whS σ i := by
    unfold plC whS
    rw [e12]
    rfl
  rw [e] at h
  exact h
theorem lpF_or {σ : Sg} {i : Nat} : ∀ n, (lpF σ i n < n ∧ isPM (σ 17 (200 * i + lpF σ i n))) ∨ lpF σ i n = 4294967295
  | 0 => Or.inr rfl
  | n + 1 => by
    unfold lpF
    by_cases c : isPM (σ 17 (200 * i + n))
    · rw [if_pos c]; exact Or.inl ⟨by omega, c⟩
    · rw [if_neg c]
      rcases lpF_or (σ := σ) (i := i) n with h | h
      · exact Or.inl ⟨by omega, h.2⟩
      · exact Or.inr h
theorem hasP.pm {σ : Sg} {i : Nat} (h : hasP σ i) (h18 : σ 18 i ≤ 1000) : isPM (σ 17 (200 * i + lpS σ i)) := by
  rcases lpF_or (σ := σ) (i := i) (σ 18 i) with h1 | h1
  · exact h1.2
  · have := h.lp
    have e : lpS σ i = 4294967295 := h1
    omega
theorem ptS_0 {σ : Sg} {i : Nat} : ptF σ i 0 (σ 18 i) = lpS σ i := ptF_0 _
theorem cs_ptF {σ ρ : Sg} {i : Nat} : ∀ n k, ptF (cs σ ρ) i k n = ptF σ i k n
  | 0, _ => rfl
  | n + 1, k => by
    show (if isPM (σ 17 (200 * i + n)) then (if k = 0 then n else ptF (cs σ ρ) i (k - 1) n) else ptF (cs σ ρ) i k n) = _
    rw [cs_ptF n, cs_ptF n]
    rfl
theorem vRead (l : Launch) (G : mG) (N : Mem) (Γ : Adr) (σ ρ : Sg) (i : Nat) (hH : HS σ ρ) (hi : i < σ 8 0) (M : Mem) (sz : Nat) (hR : Rp G N Γ (cs σ ρ) M) : cMi l yX0_placeRead wsX0_placeRead 1 0 0 G M sz [.ref (Γ 10 i)] (fun y9 M' => y9 = nI (wmS σ i) ∧ M' = M) := by
  obtain ⟨⟨hV, hS, hD, hL, hZ, hI⟩, -, hC⟩ := hH
  obtain ⟨l1, l2, l3, l4, l5, l6⟩ := hL i hi
  have l7 : σ 18 i ≤ 125 := l6.2.2.2.2
  have hpm := l3.pm (by omega)
  have hlp := l3.lp
  have h := kRead l G N Γ (cs σ ρ) i (lpS σ i) hi (by show σ 18 i ≤ 128; omega) (fun j _ => hV 17 _) (by rw [cs_ptF]; exact ptS_0) hlp l4 hpm.1 M sz hR
  have e : wmC (cs σ ρ) i (lpS σ i) = wmS σ i := by
    unfold wmC wmS
    show (if σ 17 (200 * i + (σ 18 i - 1)) = 33 then 4294967293 else if σ 17 (200 * i + (σ 18 i - 1)) = 43 ∨ σ 17 (200 * i + (σ 18 i - 1)) = 42 then 4294967292 else if lpS σ i = σ 18 i - 1 ∧ σ 17 (200 * i + (lpS σ i - 1)) = 62 then 4294967294 else σ 17 (200 * i + lpS σ i) - 65) = _
    rw [show 200 * i + (σ 18 i - 1) = 200 * i + σ 18 i - 1 by omega]
    by_cases c : lpS σ i = σ 18 i - 1
    · rw [show 200 * i + (lpS σ i - 1) = 200 * i + lpS σ i - 1 by omega]
    · rw [if_neg (show ¬ (lpS σ i = σ 18 i - 1 ∧ σ 17 (200 * i + (lpS σ i - 1)) = 62) from fun z => c z.1), if_neg (show ¬ (lpS σ i = σ 18 i - 1 ∧ σ 17 (200 * i + lpS σ i - 1) = 62) from fun z => c z.1)]
  rw [e] at h
  exact h
theorem cnt_dv {σ : Sg} {u : Nat} {Q : Nat → Bool} (h21 : ∀ j, σ 21 j < 4294967295) : ∀ n, cnt (fun j => Q (dvF σ u j n)) (rcF σ u n) = cnt (fun k => decide (σ 9 (σ 21 k) = u) && Q (σ 21 k)) n
  | 0 => rfl
  | n + 1 => by
    have ih := cnt_dv (u := u) (Q := Q) h21 n
    have hold : ∀ j, j < rcF σ u n → dvF σ u j (n + 1) = dvF σ u j n := fun j hj => by
      show (if dvF σ u j n ≠ 4294967295 then dvF σ u j n else _) = _
      rw [if_pos ((dvF_lt h21 n).mpr hj)]
    have e : cnt (fun k => decide (σ 9 (σ 21 k) = u) && Q (σ 21 k)) (n + 1) = cnt (fun k => decide (σ 9 (σ 21 k) = u) && Q (σ 21 k)) n + (if (decide (σ 9 (σ 21 n) = u) && Q (σ 21 n)) = true then 1 else 0) := rfl
    have er : rcF σ u (n + 1) = rcF σ u n + (if σ 9 (σ 21 n) = u then 1 else 0) := rfl
    rw [e, er, ← ih]
    by_cases c : σ 9 (σ 21 n) = u
    · rw [if_pos c]
      have en : dvF σ u (rcF σ u n) (n + 1) = σ 21 n := by
        show (if dvF σ u (rcF σ u n) n ≠ 4294967295 then dvF σ u (rcF σ u n) n else if σ 9 (σ 21 n) = u ∧ rcF σ u n = rcF σ u n then σ 21 n else 4294967295) = _
        rw [if_neg (fun z => absurd ((dvF_lt h21 n).mp z) (Nat.lt_irrefl _)), if_pos ⟨c, rfl⟩]
      show cnt (fun j => Q (dvF σ u j (n + 1))) (rcF σ u n) + (if Q (dvF σ u (rcF σ u n) (n + 1)) = true then 1 else 0) = _
      rw [en, cnt_congr (Q := fun j => Q (dvF σ u j n)) _ (fun j hj => by rw [hold j hj])]
      simp [c]
    · rw [if_neg c, if_neg (show ¬ (decide (σ 9 (σ 21 n) = u) && Q (σ 21 n)) = true by simp [c])]
      exact cnt_congr _ (fun j hj => by rw [hold j hj])
theorem cnt_cut {P : Nat → Bool} {i : Nat} : ∀ n, i ≤ n → cnt (fun x => P x && decide (x < i)) n = cnt P i
  | 0, h => by
    have : i = 0 := by omega
    subst this
    rfl
  | n + 1, h => by
    by_cases c : i = n + 1
    · subst c
      exact cnt_congr _ (fun j hj => by simp [hj])
    · show cnt (fun x => P x && decide (x < i)) n + (if (P n && decide (n < i)) = true then 1 else 0) = _
      rw [cnt_cut n (by omega), if_neg (by simp; omega), Nat.add_zero]
theorem ov_eq {σ ρ : Sg} {i : Nat} (hH : HS σ ρ) (hi : i < σ 8 0) : ovC (cs σ ρ) (σ 9 i) i (cs σ ρ 30 (20 + σ 9 i)) = ovF σ i i := by
  have hct := hH.cnt
  obtain ⟨⟨hV, hS, hD, hL, hZ, hI⟩, -, hC⟩ := hH
  have hle := rcF_le (σ := σ) (u := σ 9 i) (σ 22 0)
  rw [cs_30r]
  have h21 : ∀ j, σ 21 j < 4294967295 := fun j => by have : σ 21 j < 40 := hV 21 j; omega
  have e1 : ∀ n, n ≤ 40 → ovC (cs σ ρ) (σ 9 i) i n = cnt (fun j => decide (dvF σ (σ 9 i) j (σ 22 0) < i ∧ σ 16 i < σ 16 (dvF σ (σ 9 i) j (σ 22 0)))) n := by
    intro n
    induction n with
    | zero => intro _; rfl
    | succ n ih =>
      intro hn
      show ovC (cs σ ρ) (σ 9 i) i n + (if cs σ ρ 31 (64 * (20 + σ 9 i) + n) < i ∧ σ 16 i < σ 16 (cs σ ρ 31 (64 * (20 + σ 9 i) + n)) then 1 else 0) = cnt (fun j => decide (dvF σ (σ 9 i) j (σ 22 0) < i ∧ σ 16 i < σ 16 (dvF σ (σ 9 i) j (σ 22 0)))) n + (if decide (dvF σ (σ 9 i) n (σ 22 0) < i ∧ σ 16 i < σ 16 (dvF σ (σ 9 i) n (σ 22 0))) = true then 1 else 0)
      rw [ih (by omega), cs_31r (by omega)]
      simp only [decide_eq_true_eq]
  have e2 : ∀ n, cnt (fun x => decide (σ 12 x = 1) && (decide (σ 9 x = σ 9 i) && decide (σ 16 i < σ 16 x))) n = ovF σ i n := by
    intro n
    induction n with
    | zero => rfl
    | succ n ih =>
      show cnt (fun x => decide (σ 12 x = 1) && (decide (σ 9 x = σ 9 i) && decide (σ 16 i < σ 16 x))) n + _ = ovF σ i n + (if σ 9 n = σ 9 i ∧ σ 12 n = 1 ∧ σ 16 i < σ 16 n then 1 else 0)
      rw [ih]
      congr 1
      by_cases c : σ 9 n = σ 9 i ∧ σ 12 n = 1 ∧ σ 16 i < σ 16 n
      · rw [if_pos c, if_pos (by simp [c])]
      · rw [if_neg c, if_neg (fun z => c (by simp at z; exact ⟨z.2.1, z.1, z.2.2⟩))]
  rw [e1 _ (by omega), cnt_dv (Q := fun x => decide (x < i ∧ σ 16 i < σ 16 x)) h21, hD (fun x => decide (σ 9 x = σ 9 i) && decide (x < i ∧ σ 16 i < σ 16 x)), ← e2 i, ← cnt_cut (P := fun x => decide (σ 12 x = 1) && (decide (σ 9 x = σ 9 i) && decide (σ 16 i < σ 16 x))) (σ 8 0) (by omega)]
  refine cnt_congr _ (fun x _ => ?_)
  by_cases a : x < i <;> by_cases b : σ 16 i < σ 16 x <;> by_cases c : σ 9 x = σ 9 i <;> by_cases d : σ 12 x = 1 <;> simp [a, b, c, d]
theorem vOver (l : Launch) (G : mG) (N : Mem) (Γ : Adr) (σ ρ : Sg) (i : Nat) (hH : HS σ ρ) (hi : i < σ 8 0) (M : Mem) (sz : Nat) (hR : Rp G N Γ (cs σ ρ) M) : cMi l yX3_countOvertakenBy wsX3_countOvertakenBy 3 0 0 G M sz [.ref (Γ 4 (σ 9 i)), .ref (Γ 9 i)] (fun y9 M' => y9 = nI (ovF σ i i) ∧ M' = M) := by
  have hct := hH.cnt
  have hcl := hH.cl
  have heq := ov_eq hH hi
  obtain ⟨⟨hV, hS, hD, hL, hZ, hI⟩, -, hC⟩ := hH
  have b8 : σ 8 0 ≤ 40 := hV 8 0
  have hle := rcF_le (σ := σ) (u := σ 9 i) (σ 22 0)
  have h := kOver l G N Γ (cs σ ρ) (σ 9 i) i (hL i hi).1 hi (by omega) (by rw [cs_30r]; omega) (fun j hj => by
    have h1 := hcl.2.2.2.1 (20 + σ 9 i) j (Or.inr (by omega)) (isL_r (hL i hi).1) hj
    have h2 : cs σ ρ 33 1 = σ 8 0 := rfl
    exact ⟨by omega, h1⟩) (fun x _ => by have : σ 16 x ≤ 1000 := hV 16 x; show σ 16 x < _; omega) M sz hR
  rw [heq] at h
  exact h
