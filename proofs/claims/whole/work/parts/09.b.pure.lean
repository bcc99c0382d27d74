/-! COUNTS; A LETTER'S INVARIANT; WHAT A HANDLING DOES TO IT (mine) -/
def cnt (P : Nat → Bool) : Nat → Nat
  | 0 => 0
  | n + 1 => cnt P n + (if P n = true then 1 else 0)
theorem cnt_le {P : Nat → Bool} : ∀ n, cnt P n ≤ n
  | 0 => Nat.le_refl 0
  | n + 1 => by
    have := cnt_le (P := P) n
    unfold cnt
    split <;> omega
theorem cnt_true : ∀ n, cnt (fun _ => true) n = n
  | 0 => rfl
  | n + 1 => by
    unfold cnt
    rw [cnt_true n, if_pos rfl]
theorem cnt_congr {P Q : Nat → Bool} : ∀ n, (∀ i, i < n → P i = Q i) → cnt P n = cnt Q n
  | 0, _ => rfl
  | n + 1, h => by
    unfold cnt
    rw [cnt_congr n (fun i hi => h i (Nat.lt_succ_of_lt hi)), h n (Nat.lt_succ_self n)]
theorem cnt_mono {P Q : Nat → Bool} : ∀ n, (∀ i, i < n → P i = true → Q i = true) → cnt P n ≤ cnt Q n
  | 0, _ => Nat.le_refl 0
  | n + 1, h => by
    have h1 := cnt_mono (P := P) (Q := Q) n (fun i hi => h i (Nat.lt_succ_of_lt hi))
    have h2 := h n (Nat.lt_succ_self n)
    unfold cnt
    by_cases hp : P n = true
    · rw [if_pos hp, if_pos (h2 hp)]; omega
    · rw [if_neg hp]; omega
theorem cnt_pos {P : Nat → Bool} : ∀ n, 0 < cnt P n → ∃ i, i < n ∧ P i = true
  | 0, h => absurd h (Nat.lt_irrefl 0)
  | n + 1, h => by
    by_cases hp : P n = true
    · exact ⟨n, Nat.lt_succ_self n, hp⟩
    · unfold cnt at h
      rw [if_neg hp] at h
      obtain ⟨i, h1, h2⟩ := cnt_pos n h
      exact ⟨i, Nat.lt_succ_of_lt h1, h2⟩
theorem cnt_ge1 {P : Nat → Bool} {j : Nat} : ∀ n, j < n → P j = true → 1 ≤ cnt P n
  | 0, h, _ => absurd h (Nat.not_lt_zero j)
  | n + 1, h, hp => by
    unfold cnt
    by_cases e : j = n
    · subst e; rw [if_pos hp]; omega
    · have := cnt_ge1 (P := P) (j := j) n (by omega) hp
      omega
theorem cnt_ge2 {P : Nat → Bool} {j k : Nat} (hjk : j < k) (hj : P j = true) (hk : P k = true) : ∀ n, k < n → 2 ≤ cnt P n
  | 0, h => absurd h (Nat.not_lt_zero k)
  | n + 1, h => by
    unfold cnt
    by_cases e : k = n
    · subst e
      have := cnt_ge1 (P := P) (j := j) k hjk hj
      rw [if_pos hk]; omega
    · have := cnt_ge2 hjk hj hk n (by omega)
      omega
theorem cnt_one {Q : Nat → Bool} {x : Nat} : ∀ n, cnt (fun i => Q i && decide (i = x)) n ≤ 1 ∧ (n ≤ x → cnt (fun i => Q i && decide (i = x)) n = 0)
  | 0 => ⟨Nat.zero_le 1, fun _ => rfl⟩
  | n + 1 => by
    obtain ⟨h1, h2⟩ := cnt_one (Q := Q) (x := x) n
    unfold cnt
    by_cases e : n = x
    · subst e
      have h3 := h2 (Nat.le_refl n)
      refine ⟨by rw [h3]; split <;> omega, fun z => by omega⟩
    · rw [if_neg (by simp [e])]
      exact ⟨by omega, fun z => by rw [h2 (by omega)]⟩
/-- one place that didn't count counts now, or not -/
theorem cnt_up {P Q : Nat → Bool} {x : Nat} (hx : P x = false) : ∀ n, (∀ i, i < n → i ≠ x → Q i = P i) → cnt Q n = cnt P n + (if x < n ∧ Q x = true then 1 else 0)
  | 0, _ => by rw [if_neg (fun z => Nat.not_lt_zero x z.1)]; rfl
  | n + 1, h => by
    have ih := cnt_up (P := P) (Q := Q) hx n (fun i hi hne => h i (Nat.lt_succ_of_lt hi) hne)
    unfold cnt
    by_cases e : n = x
    · subst e
      rw [ih]
      simp [hx]
    · have e2 : (if x < n + 1 ∧ Q x = true then 1 else 0) = (if x < n ∧ Q x = true then 1 else 0) := by
        by_cases z : x < n
        · simp [z, show x < n + 1 by omega]
        · simp [z, show ¬ x < n + 1 by omega]
      rw [ih, h n (Nat.lt_succ_self n) e, e2]
      omega
/-- the list f of length n names the letters in state v, each once -/
def LX (f n v : Nat) (σ : Sg) : Prop := ∀ P : Nat → Bool, cnt (fun k => P (σ f k)) (σ n 0) = cnt (fun i => decide (σ 12 i = v) && P i) (σ 8 0)
theorem LX.lt {f n v : Nat} {σ : Sg} (h : LX f n v σ) {i : Nat} (hi : i < σ 8 0) (hv : σ 12 i ≠ v) : σ n 0 < σ 8 0 := by
  have h1 := h (fun _ => true)
  rw [cnt_true] at h1
  have h2 : cnt (fun i => decide (σ 12 i = v) && true) (σ 8 0) < σ 8 0 := by
    have h3 := cnt_up (P := fun j => decide (j ≠ i) && (decide (σ 12 j = v) && true)) (Q := fun j => decide (j ≠ i)) (x := i) (by simp) (σ 8 0)
    have h4 : cnt (fun j => decide (σ 12 j = v) && true) (σ 8 0) ≤ cnt (fun j => decide (j ≠ i)) (σ 8 0) := cnt_mono _ (fun j _ hj => by
      simp only [Bool.and_true, decide_eq_true_eq] at hj ⊢
      intro z; subst z; exact hv hj)
    have h5 := cnt_up (P := fun j => decide (j ≠ i)) (Q := fun _ => true) (x := i) (by simp) (σ 8 0) (fun j _ hne => by simp [hne])
    rw [cnt_true, if_pos ⟨hi, rfl⟩] at h5
    omega
  omega
theorem LX.mem {f n v : Nat} {σ : Sg} (h : LX f n v σ) {k : Nat} (hk : k < σ n 0) : σ f k < σ 8 0 ∧ σ 12 (σ f k) = v := by
  have h1 := h (fun i => decide (i = σ f k))
  have h2 := cnt_ge1 (P := fun j => decide (σ f j = σ f k)) (j := k) _ hk (by simp)
  rw [h1] at h2
  obtain ⟨i, h3, h4⟩ := cnt_pos _ h2
  simp only [Bool.and_eq_true, decide_eq_true_eq] at h4
  obtain ⟨h5, h6⟩ := h4
  subst h6
  exact ⟨h3, h5⟩
theorem LX.inj {f n v : Nat} {σ : Sg} (h : LX f n v σ) {j k : Nat} (hjk : j < k) (hk : k < σ n 0) : σ f j ≠ σ f k := by
  intro e
  have h1 := h (fun i => decide (i = σ f k))
  have h2 := cnt_ge2 (P := fun j => decide (σ f j = σ f k)) hjk (by simp [e]) (by simp) _ hk
  have h3 := (cnt_one (Q := fun i => decide (σ 12 i = v)) (x := σ f k) (σ 8 0)).1
  omega
theorem LX.ex {f n v : Nat} {σ : Sg} (h : LX f n v σ) {i : Nat} (hi : i < σ 8 0) (hv : σ 12 i = v) : ∃ k, k < σ n 0 ∧ σ f k = i := by
  have h1 := h (fun j => decide (j = i))
  have h2 := cnt_ge1 (P := fun j => decide (σ 12 j = v) && decide (j = i)) (j := i) _ hi (by simp [hv])
  rw [← h1] at h2
  obtain ⟨k, h3, h4⟩ := cnt_pos _ h2
  exact ⟨k, h3, by simpa using h4⟩
/-- what a handling may do with the lists -/
def Ls (σ σ' : Sg) (i : Nat) : Prop :=
  (σ' 12 i ≠ 1 ∧ σ' 12 i ≠ 5 ∧ ∀ g j, 19 ≤ g → g ≤ 22 → σ' g j = σ g j) ∨
  (σ' 12 i = 1 ∧ (∀ j, σ' 19 j = σ 19 j) ∧ (∀ j, σ' 20 j = σ 20 j) ∧ σ' 22 0 = σ 22 0 + 1 ∧ σ' 21 (σ 22 0) = i ∧ ∀ k, k < σ 22 0 → σ' 21 k = σ 21 k) ∨
  (σ' 12 i = 5 ∧ (∀ j, σ' 21 j = σ 21 j) ∧ (∀ j, σ' 22 j = σ 22 j) ∧ σ' 20 0 = σ 20 0 + 1 ∧ σ' 19 (σ 20 0) = i ∧ ∀ k, k < σ 20 0 → σ' 19 k = σ 19 k)
theorem LX.keep {f n v : Nat} {σ σ' : Sg} {i : Nat} (h : LX f n v σ) (hf : ∀ j, σ' f j = σ f j) (hn : σ' n 0 = σ n 0) (h8 : σ' 8 0 = σ 8 0) (h12 : ∀ j, j ≠ i → σ' 12 j = σ 12 j) (hv : σ 12 i ≠ v) (hv' : σ' 12 i ≠ v) : LX f n v σ' := by
  intro P
  rw [hn, h8]
  rw [show (fun k => P (σ' f k)) = fun k => P (σ f k) from funext fun k => by rw [hf]]
  rw [h P]
  refine cnt_congr _ (fun j _ => ?_)
  by_cases e : j = i
  · subst e
    rw [decide_eq_false hv, decide_eq_false hv']
  · rw [h12 j e]
theorem LX.push {f n v : Nat} {σ σ' : Sg} {i : Nat} (h : LX f n v σ) (hf : ∀ k, k < σ n 0 → σ' f k = σ f k) (hi : σ' f (σ n 0) = i) (hn : σ' n 0 = σ n 0 + 1) (h8 : σ' 8 0 = σ 8 0) (h12 : ∀ j, j ≠ i → σ' 12 j = σ 12 j) (hlt : i < σ 8 0) (hv : σ 12 i ≠ v) (hv' : σ' 12 i = v) : LX f n v σ' := by
  intro P
  rw [hn, h8]
  show cnt (fun k => P (σ' f k)) (σ n 0) + (if P (σ' f (σ n 0)) = true then 1 else 0) = _
  rw [cnt_congr (Q := fun k => P (σ f k)) _ (fun k hk => by rw [hf k hk]), h P, hi]
  have h1 := cnt_up (P := fun j => decide (σ 12 j = v) && P j) (Q := fun j => decide (σ' 12 j = v) && P j) (x := i) (by simp [hv]) (σ 8 0) (fun j _ hne => by rw [h12 j hne])
  rw [h1]
  congr 1
  by_cases hp : P i = true
  · rw [if_pos hp, if_pos ⟨hlt, by simp [hv', hp]⟩]
  · rw [if_neg hp, if_neg (fun z => hp (by have := z.2; simp only [Bool.and_eq_true] at this; exact this.2))]
theorem LX.both {σ σ' : Sg} {i : Nat} (hm : Sm σ σ' i) (hl : Ls σ σ' i) (h1 : LX 19 20 5 σ) (h2 : LX 21 22 1 σ) (hi : i < σ 8 0) (hv1 : σ 12 i ≠ 1) (hv5 : σ 12 i ≠ 5) : LX 19 20 5 σ' ∧ LX 21 22 1 σ' := by
  have h8 : σ' 8 0 = σ 8 0 := hm.1 8 0 (Or.inl (by decide))
  have h12 : ∀ j, j ≠ i → σ' 12 j = σ 12 j := fun j hj => hm.2.1 12 j (by decide) (by decide) (by decide) hj
  rcases hl with ⟨a, b, c⟩ | ⟨a, b, c, d, e, f⟩ | ⟨a, b, c, d, e, f⟩
  · exact ⟨h1.keep (i := i) (fun j => c 19 j (by decide) (by decide)) (c 20 0 (by decide) (by decide)) h8 h12 hv5 b, h2.keep (i := i) (fun j => c 21 j (by decide) (by decide)) (c 22 0 (by decide) (by decide)) h8 h12 hv1 a⟩
  · exact ⟨h1.keep (i := i) b (c 0) h8 h12 hv5 (by rw [a]; decide), h2.push f e d h8 h12 hi hv1 a⟩
  · exact ⟨h1.push f e d h8 h12 hi hv5 a, h2.keep (i := i) b (c 0) h8 h12 hv1 (by rw [a]; decide)⟩
/-- how many marks a letter may bear on day t -/
def lenB (σ : Sg) (t i : Nat) : Prop := (σ 12 i = 0 → t - σ 11 i ≤ 59 ∧ σ 18 i ≤ 7 + 7 * σ 15 i + (t - σ 11 i)) ∧ ((σ 12 i = 2 ∨ σ 12 i = 4) → t - σ 11 i ≤ 59 ∧ σ 18 i ≤ 6 + 7 * σ 15 i + (t - σ 11 i)) ∧ (σ 12 i = 3 → σ 18 i ≤ 2 + 7 * σ 15 i + (t - σ 11 i) ∧ σ 18 i ≤ 61 + 7 * σ 15 i) ∧ (σ 12 i = 5 → σ 18 i ≤ 120) ∧ σ 18 i ≤ 125
def LI (σ : Sg) (t i : Nat) : Prop := σ 9 i < σ 0 0 ∧ σ 11 i ≤ t ∧ hasP σ i ∧ 2 ≤ σ 18 i ∧ σ 12 i ≤ 7 ∧ lenB σ t i
/-- ready to be handled today -/
def HR (σ : Sg) (i : Nat) : Prop := i < σ 8 0 ∧ σ 9 i < σ 0 0 ∧ σ 11 i ≤ σ 24 0 ∧ σ 24 0 - σ 11 i ≤ 59 ∧ (σ 12 i ≠ 1 ∧ σ 12 i ≠ 5 ∧ σ 12 i ≠ 6 ∧ σ 12 i ≠ 7) ∧ hasP σ i ∧ 2 ≤ σ 18 i ∧ (σ 12 i = 0 → σ 18 i ≤ 6 + 7 * σ 15 i + (σ 24 0 - σ 11 i)) ∧ (σ 12 i ≠ 0 → σ 18 i ≤ 5 + 7 * σ 15 i + (σ 24 0 - σ 11 i))
theorem LI.other {σ σ' : Sg} {i j t : Nat} (hm : Sm σ σ' i) (hij : j ≠ i) (h : LI σ t j) : LI σ' t j := by
  obtain ⟨h1, h2, h3, h4, h5, h6⟩ := h
  have e0 : σ' 0 0 = σ 0 0 := hm.1 0 0 (Or.inl (by decide))
  have e9 : σ' 9 j = σ 9 j := hm.1 9 j (Or.inl (by decide))
  have e11 : σ' 11 j = σ 11 j := hm.1 11 j (Or.inl (by decide))
  have e12 : σ' 12 j = σ 12 j := hm.2.1 12 j (by decide) (by decide) (by decide) hij
  have e15 : σ' 15 j = σ 15 j := hm.2.1 15 j (by decide) (by decide) (by decide) hij
  have e18 : σ' 18 j = σ 18 j := hm.2.1 18 j (by decide) (by decide) (by decide) hij
  unfold LI lenB
  rw [e0, e9, e11, e12, e15, e18]
  refine ⟨h1, h2, h3.of (fun k a b => hm.2.2 k (by omega)) e18 ?_, h4, h5, h6⟩
  have := h6.2.2.2.2
  omega
