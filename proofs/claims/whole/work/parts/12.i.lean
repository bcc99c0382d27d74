/-! THE CLASS'S STATE OUT OF THE REFERENCE'S (mine): σ the reference's state, ρ the class's calls (rows 1 to 6), which agree with σ's where they are read -/
def lnC (σ : Sg) (x : Nat) : Nat := if x = 0 then σ 0 0 else if x = 1 then σ 8 0 else if x = 2 then σ 20 0 else if x < 10 then 0 else if x < 20 then σ 7 (x - 10) else rcF σ (x - 20) (σ 22 0)
def elC (σ : Sg) (a : Nat) : Nat := if a < 128 then 0 else if a < 192 then σ 19 (a - 128) else if a < 1280 then 0 else dvF σ (a / 64 - 20) (a % 64) (σ 22 0)
def cs (σ ρ : Sg) : Sg := fun f j => match f with
  | 12 => if σ 12 j = 8 then 4294967295 else σ 12 j
  | 13 => if σ 12 j = 6 then σ 10 j else σ 13 j
  | 1 => ρ 1 j
  | 2 => ρ 2 j
  | 3 => ρ 3 j
  | 4 => ρ 4 j
  | 5 => ρ 5 j
  | 6 => ρ 6 j
  | 30 => lnC σ j
  | 31 => elC σ j
  | 33 => if j = 0 then σ 0 0 else σ 8 0
  | 35 => σ 7 j
  | 0 => 0
  | 7 => 0
  | 8 => 0
  | 19 => 0
  | 20 => 0
  | 21 => 0
  | 25 => 0
  | f => σ f j
abbrev pl (g : Nat) : Prop := g = 11 ∨ (14 ≤ g ∧ g ≤ 18) ∨ g = 23 ∨ g = 24
theorem cs_pl {σ ρ : Sg} {g j : Nat} (h : pl g) : cs σ ρ g j = σ g j := by
  have : g = 11 ∨ g = 14 ∨ g = 15 ∨ g = 16 ∨ g = 17 ∨ g = 18 ∨ g = 23 ∨ g = 24 := by unfold pl at h; omega
  rcases this with rfl | rfl | rfl | rfl | rfl | rfl | rfl | rfl <;> rfl
theorem rcF_c {σ σ' : Sg} {u : Nat} (h9 : ∀ j, σ' 9 j = σ 9 j) : ∀ n, (∀ j, j < n → σ' 21 j = σ 21 j) → rcF σ' u n = rcF σ u n
  | 0, _ => rfl
  | n + 1, h => by
    show rcF σ' u n + (if σ' 9 (σ' 21 n) = u then 1 else 0) = rcF σ u n + (if σ 9 (σ 21 n) = u then 1 else 0)
    rw [rcF_c h9 n (fun j hj => h j (by omega)), h n (by omega), h9]
theorem dvF_c {σ σ' : Sg} {u k : Nat} (h9 : ∀ j, σ' 9 j = σ 9 j) : ∀ n, (∀ j, j < n → σ' 21 j = σ 21 j) → dvF σ' u k n = dvF σ u k n
  | 0, _ => rfl
  | n + 1, h => by
    show (if dvF σ' u k n ≠ 4294967295 then dvF σ' u k n else if σ' 9 (σ' 21 n) = u ∧ rcF σ' u n = k then σ' 21 n else 4294967295) = _
    rw [dvF_c h9 n (fun j hj => h j (by omega)), rcF_c h9 n (fun j hj => h j (by omega)), h n (by omega), h9]
    rfl
/-- what is changed besides the plain rows is nothing -/
theorem cs_core {σ σ' ρ : Sg} (h : ∀ g j, ¬ pl g → σ' g j = σ g j) (g j : Nat) : cs σ' ρ g j = if pl g then σ' g j else cs σ ρ g j := by
  by_cases hp : pl g
  · rw [if_pos hp, cs_pl hp]
  · rw [if_neg hp]
    have e0 : σ' 0 0 = σ 0 0 := h 0 0 (by decide)
    have e8 : σ' 8 0 = σ 8 0 := h 8 0 (by decide)
    have e20 : σ' 20 0 = σ 20 0 := h 20 0 (by decide)
    have e22 : σ' 22 0 = σ 22 0 := h 22 0 (by decide)
    have e7 : ∀ x, σ' 7 x = σ 7 x := fun x => h 7 x (by decide)
    have e9 : ∀ x, σ' 9 x = σ 9 x := fun x => h 9 x (by decide)
    have e10 : ∀ x, σ' 10 x = σ 10 x := fun x => h 10 x (by decide)
    have e12 : ∀ x, σ' 12 x = σ 12 x := fun x => h 12 x (by decide)
    have e13 : ∀ x, σ' 13 x = σ 13 x := fun x => h 13 x (by decide)
    have e19 : ∀ x, σ' 19 x = σ 19 x := fun x => h 19 x (by decide)
    have e21 : ∀ x, σ' 21 x = σ 21 x := fun x => h 21 x (by decide)
    have er : ∀ u n, rcF σ' u n = rcF σ u n := fun u n => rcF_c e9 n (fun x _ => e21 x)
    have ed : ∀ u k n, dvF σ' u k n = dvF σ u k n := fun u k n => dvF_c e9 n (fun x _ => e21 x)
    unfold cs
    split
    · rw [e12]
    · rw [e12, e10, e13]
    · rfl
    · rfl
    · rfl
    · rfl
    · rfl
    · rfl
    · unfold lnC; rw [e0, e8, e20, e7, er, e22]
    · unfold elC; rw [e19, ed, e22]
    · rw [e0, e8]
    · exact e7 _
    · rfl
    · rfl
    · rfl
    · rfl
    · rfl
    · rfl
    · rfl
    · exact h _ _ hp
theorem cs_st {σ ρ : Sg} {f i v : Nat} (hf : pl f) : cs (st σ f i v) ρ = st (cs σ ρ) f i v := by
  funext g j
  rw [cs_core (σ := σ) (fun g j hg => st_f (fun z => hg (z ▸ hf))) g j]
  by_cases a : g = f ∧ j = i
  · obtain ⟨rfl, rfl⟩ := a
    rw [if_pos hf, st_s, st_s]
  · rw [show st (cs σ ρ) f i v g j = cs σ ρ g j from if_neg a, show st σ f i v g j = σ g j from if_neg a]
    split
    · exact (cs_pl ‹_›).symm
    · rfl
theorem cs_wr {σ ρ : Sg} {i c : Nat} : cs (wr σ i c) ρ = wr (cs σ ρ) i c := by
  unfold wr
  rw [cs_st (by decide), cs_st (by decide)]
  rfl
theorem cs_wDg {σ ρ : Sg} {i u : Nat} : cs (wDg σ i u) ρ = wDg (cs σ ρ) i u := by
  unfold wDg
  rw [show cs σ ρ 24 0 = σ 24 0 from rfl]
  split
  · exact cs_wr
  · rfl
theorem cs_wDay {σ ρ : Sg} {i : Nat} : cs (wDay σ i) ρ = wDay (cs σ ρ) i := by
  unfold wDay
  rw [cs_wDg, cs_wDg, cs_wDg, cs_wDg]
theorem cs_lpF {σ ρ : Sg} {i : Nat} : ∀ n, lpF (cs σ ρ) i n = lpF σ i n
  | 0 => rfl
  | n + 1 => by
    show (if isPM (σ 17 (200 * i + n)) then n else lpF (cs σ ρ) i n) = _
    rw [cs_lpF n]
    rfl
theorem cs_lpS {σ ρ : Sg} {i : Nat} : lpS (cs σ ρ) i = lpS σ i := cs_lpF _
theorem cs_shS {σ ρ : Sg} {i : Nat} : cs (shS σ i) ρ = shS (cs σ ρ) i := by
  funext g j
  rw [cs_core (σ := σ) (fun g j hg => shS_f ⟨fun z => hg (by unfold pl; omega), fun z => hg (by unfold pl; omega)⟩) g j]
  unfold shS
  rw [cs_lpS]
  show _ = if g = 17 ∧ 200 * i + lpS σ i < j ∧ j ≤ 200 * i + σ 18 i then σ 17 (j - 1) else if g = 17 ∧ j = 200 * i + lpS σ i then 45 else if g = 18 ∧ j = i then σ 18 i + 1 else cs σ ρ g j
  by_cases hp : pl g
  · rw [if_pos hp, cs_pl hp]
  · rw [if_neg hp, if_neg (fun z => hp (by unfold pl; omega)), if_neg (fun z => hp (by unfold pl; omega)), if_neg (fun z => hp (by unfold pl; omega))]
/-- a cell of row 12 or 13 -/
theorem cs_12 {σ ρ : Sg} {i v : Nat} (h : σ 12 i ≠ 6) (h6 : v ≠ 6) (h8 : v ≠ 8) : cs (st σ 12 i v) ρ = st (cs σ ρ) 12 i v := by
  have er : ∀ u n, rcF (st σ 12 i v) u n = rcF σ u n := fun u n => rcF_c (fun _ => st_f (by decide)) n (fun x _ => st_f (by decide))
  have ed : ∀ u k n, dvF (st σ 12 i v) u k n = dvF σ u k n := fun u k n => dvF_c (fun _ => st_f (by decide)) n (fun x _ => st_f (by decide))
  funext g j
  by_cases a : g = 12
  · subst a
    show (if st σ 12 i v 12 j = 8 then 4294967295 else st σ 12 i v 12 j) = _
    by_cases b : j = i
    · subst b; rw [st_s, st_s, if_neg h8]
    · rw [st_i b, st_i b]; rfl
  · rw [st_f a]
    by_cases a2 : g = 13
    · subst a2
      show (if st σ 12 i v 12 j = 6 then st σ 12 i v 10 j else st σ 12 i v 13 j) = if σ 12 j = 6 then σ 10 j else σ 13 j
      by_cases b : j = i
      · subst b; rw [st_s, if_neg h6, if_neg h, st_f (by decide)]
      · rw [st_i b, st_f (by decide), st_f (by decide)]
    · unfold cs
      split <;> first | (exact absurd rfl a) | (exact absurd rfl a2) | rfl | (unfold lnC; rw [er]; rfl) | (unfold elC; rw [ed]; rfl) | exact st_f a
theorem cs_6 {σ ρ : Sg} {i : Nat} : cs (st σ 12 i 6) ρ = st (st (cs σ ρ) 12 i 6) 13 i (σ 10 i) := by
  have er : ∀ u n, rcF (st σ 12 i 6) u n = rcF σ u n := fun u n => rcF_c (fun _ => st_f (by decide)) n (fun x _ => st_f (by decide))
  have ed : ∀ u k n, dvF (st σ 12 i 6) u k n = dvF σ u k n := fun u k n => dvF_c (fun _ => st_f (by decide)) n (fun x _ => st_f (by decide))
  funext g j
  by_cases a2 : g = 13
  · subst a2
    show (if st σ 12 i 6 12 j = 6 then st σ 12 i 6 10 j else st σ 12 i 6 13 j) = _
    by_cases b : j = i
    · subst b; rw [st_s, if_pos rfl, st_f (by decide), st_s]
    · simp only [st_i b, st_f (show (10 : Nat) ≠ 12 by decide), st_f (show (13 : Nat) ≠ 12 by decide)]; rfl
  · rw [st_f a2]
    by_cases a : g = 12
    · subst a
      show (if st σ 12 i 6 12 j = 8 then 4294967295 else st σ 12 i 6 12 j) = _
      by_cases b : j = i
      · subst b; rw [st_s, st_s, if_neg (by decide)]
      · rw [st_i b, st_i b]; rfl
    · rw [st_f a]
      unfold cs
      split <;> first | (exact absurd rfl a) | (exact absurd rfl a2) | rfl | (unfold lnC; rw [er]; rfl) | (unfold elC; rw [ed]; rfl) | exact st_f a
theorem cs_13 {σ ρ : Sg} {i v : Nat} (h : σ 12 i ≠ 6) : cs (st σ 13 i v) ρ = st (cs σ ρ) 13 i v := by
  have er : ∀ u n, rcF (st σ 13 i v) u n = rcF σ u n := fun u n => rcF_c (fun _ => st_f (by decide)) n (fun x _ => st_f (by decide))
  have ed : ∀ u k n, dvF (st σ 13 i v) u k n = dvF σ u k n := fun u k n => dvF_c (fun _ => st_f (by decide)) n (fun x _ => st_f (by decide))
  funext g j
  by_cases a2 : g = 13
  · subst a2
    show (if st σ 13 i v 12 j = 6 then st σ 13 i v 10 j else st σ 13 i v 13 j) = _
    rw [st_f (show (12 : Nat) ≠ 13 by decide), st_f (show (10 : Nat) ≠ 13 by decide)]
    by_cases b : j = i
    · subst b; rw [if_neg h, st_s, st_s]
    · rw [st_i b, st_i b]; rfl
  · rw [st_f a2]
    unfold cs
    split <;> first | (exact absurd rfl a2) | rfl | (unfold lnC; rw [er]; rfl) | (unfold elC; rw [ed]; rfl) | exact st_f a2
/-- the lists grow -/
theorem cs_dead {σ ρ : Sg} {n i : Nat} (hn : σ 20 0 = n) (h64 : n < 64) : cs (st (st σ 19 n i) 20 0 (n + 1)) ρ = st (st (cs σ ρ) 31 (64 * 2 + n) i) 30 2 (n + 1) := by
  have er : ∀ u m, rcF (st (st σ 19 n i) 20 0 (n + 1)) u m = rcF σ u m := fun u m => rcF_c (fun _ => (st_f (by decide)).trans (st_f (by decide))) m (fun x _ => (st_f (by decide)).trans (st_f (by decide)))
  have ed : ∀ u k m, dvF (st (st σ 19 n i) 20 0 (n + 1)) u k m = dvF σ u k m := fun u k m => dvF_c (fun _ => (st_f (by decide)).trans (st_f (by decide))) m (fun x _ => (st_f (by decide)).trans (st_f (by decide)))
  funext g j
  by_cases a : g = 30
  · subst a
    show lnC (st (st σ 19 n i) 20 0 (n + 1)) j = _
    by_cases b : j = 2
    · subst b; rw [st_s]; exact (st_s : st (st σ 19 n i) 20 0 (n + 1) 20 0 = n + 1)
    · rw [st_i b, st_f (by decide)]
      show _ = lnC σ j
      unfold lnC
      rw [er, if_neg b, if_neg b]
      rfl
  · rw [st_f a]
    by_cases a2 : g = 31
    · subst a2
      show elC (st (st σ 19 n i) 20 0 (n + 1)) j = _
      unfold elC
      rw [ed, st_f (show (22 : Nat) ≠ 20 by decide), st_f (show (22 : Nat) ≠ 19 by decide), st_f (show (19 : Nat) ≠ 20 by decide)]
      by_cases b : j = 64 * 2 + n
      · subst b
        rw [if_neg (by omega), if_pos (by omega), st_s, show 64 * 2 + n - 128 = n by omega, st_s]
      · rw [st_i b]
        show _ = elC σ j
        unfold elC
        by_cases c : j < 128
        · rw [if_pos c, if_pos c]
        · rw [st_i (show j - 128 ≠ n by omega)]
    · rw [st_f a2]
      unfold cs
      split <;> first | (exact absurd rfl a) | (exact absurd rfl a2) | rfl | exact (st_f (by assumption)).trans (st_f (by assumption))
theorem cs_open {σ ρ : Sg} : cs (st σ 20 0 0) ρ = st (cs σ ρ) 30 2 0 := by
  have er : ∀ u m, rcF (st σ 20 0 0) u m = rcF σ u m := fun u m => rcF_c (fun _ => (st_f (by decide))) m (fun x _ => (st_f (by decide)))
  have ed : ∀ u k m, dvF (st σ 20 0 0) u k m = dvF σ u k m := fun u k m => dvF_c (fun _ => (st_f (by decide))) m (fun x _ => (st_f (by decide)))
  funext g j
  by_cases a : g = 30
  · subst a
    show lnC (st σ 20 0 0) j = _
    by_cases b : j = 2
    · subst b; rw [st_s]; exact (st_s : st σ 20 0 0 20 0 = 0)
    · rw [st_i b]
      show _ = lnC σ j
      unfold lnC
      rw [er, if_neg b, if_neg b]
      rfl
  · rw [st_f a]
    unfold cs
    split <;> first | (exact absurd rfl a) | rfl | (unfold elC; rw [ed]; rfl) | exact st_f (by assumption)
theorem rcF_le {σ : Sg} {u : Nat} : ∀ n, rcF σ u n ≤ n
  | 0 => Nat.le_refl 0
  | n + 1 => by
    show rcF σ u n + (if σ 9 (σ 21 n) = u then 1 else 0) ≤ n + 1
    have := rcF_le (σ := σ) (u := u) n
    split <;> omega
/-- the k-th of a ship's letters is there just when k is below their count -/
theorem dvF_lt {σ : Sg} {u k : Nat} (h21 : ∀ j, σ 21 j < 4294967295) : ∀ n, (dvF σ u k n ≠ 4294967295 ↔ k < rcF σ u n)
  | 0 => ⟨fun z => absurd rfl z, fun z => absurd z (Nat.not_lt_zero k)⟩
  | n + 1 => by
    have ih := dvF_lt (u := u) (k := k) h21 n
    show (if dvF σ u k n ≠ 4294967295 then dvF σ u k n else if σ 9 (σ 21 n) = u ∧ rcF σ u n = k then σ 21 n else 4294967295) ≠ 4294967295 ↔ k < rcF σ u n + (if σ 9 (σ 21 n) = u then 1 else 0)
    by_cases a : dvF σ u k n ≠ 4294967295
    · rw [if_pos a]
      have := ih.mp a
      exact ⟨fun _ => by omega, fun _ => a⟩
    · rw [if_neg a]
      have hk : ¬ k < rcF σ u n := fun z => a (ih.mpr z)
      by_cases b : σ 9 (σ 21 n) = u
      · rw [if_pos b]
        by_cases c : rcF σ u n = k
        · rw [if_pos ⟨b, c⟩]
          have := h21 n
          exact ⟨fun _ => by omega, fun _ => by omega⟩
        · rw [if_neg (fun z => c z.2)]
          exact ⟨fun z => absurd rfl z, fun z => by omega⟩
      · rw [if_neg (fun z => b z.1), if_neg b]
        exact ⟨fun z => absurd rfl z, fun z => by omega⟩
theorem dvF_v {σ : Sg} {u k : Nat} {P : Nat → Prop} : ∀ n, (∀ j, j < n → P (σ 21 j)) → dvF σ u k n = 4294967295 ∨ P (dvF σ u k n)
  | 0, _ => Or.inl rfl
  | n + 1, h => by
    show (if dvF σ u k n ≠ 4294967295 then dvF σ u k n else if σ 9 (σ 21 n) = u ∧ rcF σ u n = k then σ 21 n else 4294967295) = 4294967295 ∨ P (if dvF σ u k n ≠ 4294967295 then dvF σ u k n else if σ 9 (σ 21 n) = u ∧ rcF σ u n = k then σ 21 n else 4294967295)
    have ih := dvF_v (u := u) (k := k) n (fun j hj => h j (by omega))
    split
    · exact ih
    · split
      · exact Or.inr (h n (by omega))
      · exact Or.inl rfl
theorem cs_del {σ ρ : Sg} {n i u k : Nat} (hn : σ 22 0 = n) (h64 : n < 64) (hi : i < 4294967295) (h21 : ∀ j, σ 21 j < 4294967295) (hu : σ 9 i = u) (hk : rcF σ u n = k) : cs (st (st σ 21 n i) 22 0 (n + 1)) ρ = st (st (st (cs σ ρ) 31 (64 * (20 + u) + k) i) 30 (20 + u) (k + 1)) 22 0 (n + 1) := by
  have h9 : ∀ j, st (st σ 21 n i) 22 0 (n + 1) 9 j = σ 9 j := fun _ => (st_f (by decide)).trans (st_f (by decide))
  have h1 : ∀ j, j < n → st (st σ 21 n i) 22 0 (n + 1) 21 j = σ 21 j := fun j hj => (st_f (by decide)).trans (st_i (by omega))
  have h2 : st (st σ 21 n i) 22 0 (n + 1) 21 n = i := (st_f (by decide)).trans st_s
  have hkn : k ≤ n := by rw [← hk]; exact rcF_le n
  have er : ∀ u', rcF (st (st σ 21 n i) 22 0 (n + 1)) u' (n + 1) = rcF σ u' n + (if u = u' then 1 else 0) := by
    intro u'
    show rcF (st (st σ 21 n i) 22 0 (n + 1)) u' n + (if st (st σ 21 n i) 22 0 (n + 1) 9 (st (st σ 21 n i) 22 0 (n + 1) 21 n) = u' then 1 else 0) = _
    rw [rcF_c h9 n h1, h2, h9, hu]
  have ed : ∀ u' k', dvF (st (st σ 21 n i) 22 0 (n + 1)) u' k' (n + 1) = if u = u' ∧ k = k' then i else dvF σ u' k' n := by
    intro u' k'
    show (if dvF (st (st σ 21 n i) 22 0 (n + 1)) u' k' n ≠ 4294967295 then dvF (st (st σ 21 n i) 22 0 (n + 1)) u' k' n else if st (st σ 21 n i) 22 0 (n + 1) 9 (st (st σ 21 n i) 22 0 (n + 1) 21 n) = u' ∧ rcF (st (st σ 21 n i) 22 0 (n + 1)) u' n = k' then st (st σ 21 n i) 22 0 (n + 1) 21 n else 4294967295) = _
    rw [dvF_c h9 n h1, rcF_c h9 n h1, h2, h9, hu]
    have hlt := dvF_lt (u := u') (k := k') h21 n
    by_cases a : dvF σ u' k' n ≠ 4294967295
    · have := hlt.mp a
      rw [if_pos a, if_neg (fun z => by obtain ⟨rfl, rfl⟩ := z; omega)]
    · rw [if_neg a]
      by_cases b : u = u' ∧ k = k'
      · obtain ⟨rfl, rfl⟩ := b
        rw [if_pos ⟨rfl, hk⟩, if_pos ⟨rfl, rfl⟩]
      · rw [if_neg b, if_neg (fun z => b ⟨z.1, by rw [← z.2, ← hk, z.1]⟩)]
        exact (Classical.not_not.mp a).symm
  funext g j
  by_cases a3 : g = 22
  · subst a3
    show st (st σ 21 n i) 22 0 (n + 1) 22 j = _
    by_cases b : j = 0
    · subst b; rw [st_s, st_s]
    · rw [st_i b, st_i b, st_f (by decide), st_f (by decide), st_f (by decide)]; rfl
  rw [st_f a3]
  by_cases a : g = 30
  · subst a
    show lnC (st (st σ 21 n i) 22 0 (n + 1)) j = _
    unfold lnC
    rw [show st (st σ 21 n i) 22 0 (n + 1) 22 0 = n + 1 from st_s, er]
    by_cases b : j = 20 + u
    · subst b
      rw [st_s, if_neg (by omega), if_neg (by omega), if_neg (by omega), if_neg (by omega), if_neg (by omega), show 20 + u - 20 = u by omega, if_pos rfl, hk]
    · rw [st_i b, st_f (by decide)]
      show _ = lnC σ j
      unfold lnC
      rw [hn]
      by_cases c : j < 20
      · rw [if_pos c, if_pos c]; rfl
      · rw [if_neg (by omega), if_neg (by omega), if_neg (by omega), if_neg (by omega), if_neg (by omega), if_neg (by omega), if_neg (by omega), if_neg (by omega), if_neg (by omega), if_neg (by omega), if_neg (by omega)]
        rfl
  · rw [st_f a]
    by_cases a2 : g = 31
    · subst a2
      show elC (st (st σ 21 n i) 22 0 (n + 1)) j = _
      unfold elC
      rw [show st (st σ 21 n i) 22 0 (n + 1) 22 0 = n + 1 from st_s, ed]
      by_cases b : j = 64 * (20 + u) + k
      · subst b
        rw [st_s, if_neg (by omega), if_neg (by omega), if_neg (by omega), if_pos ⟨by omega, by omega⟩]
      · rw [st_i b]
        show _ = elC σ j
        unfold elC
        rw [hn]
        by_cases c : j < 1280
        · rw [if_pos c, if_pos c]; rfl
        · rw [if_neg (by omega), if_neg (by omega), if_neg c, if_neg (fun z => b (by omega)), if_neg (by omega), if_neg (by omega), if_neg c]
    · rw [st_f a2]
      unfold cs
      split <;> first | (exact absurd rfl a) | (exact absurd rfl a2) | (exact absurd rfl a3) | rfl | exact (st_f a3).trans (st_f (by assumption))
/-- the handlings -/
theorem cs_hld {σ ρ : Sg} {i : Nat} (h : σ 12 i ≠ 6) : hld (cs σ ρ) i = cs (hld σ i) ρ := by
  unfold hld
  have e : (cs σ ρ 12 i = 0) ↔ σ 12 i = 0 := by
    show (if σ 12 i = 8 then 4294967295 else σ 12 i) = 0 ↔ σ 12 i = 0
    split <;> omega
  by_cases a : σ 12 i = 0
  · rw [if_pos a, if_pos (e.mpr a), cs_12 h (by decide) (by decide)]
  · rw [if_neg a, if_neg (fun z => a (e.mp z)), cs_12 (by rw [wr_12, wr_12]; exact h) (by decide) (by decide), cs_wr, cs_wr]
theorem cs_sd {σ ρ : Sg} {i q : Nat} (h : σ 12 i ≠ 6) (h15 : σ 15 i ≠ 6) : sdC (cs σ ρ) i q = cs (go σ i q) ρ := by
  unfold sdC go
  rw [if_neg h15, cs_st (by decide), cs_12 (by rw [st_f (by decide), st_f (by decide), wr_12, wr_12, shS_f (by decide)]; exact h) (by decide) (by decide), cs_13 (by rw [st_f (by decide), wr_12, wr_12, shS_f (by decide)]; exact h), cs_st (by decide), cs_wr, cs_wr, cs_shS]
  rw [show cs σ ρ 13 i = σ 13 i from if_neg h]
  rfl
theorem cs_bu {σ ρ : Sg} {i : Nat} (h : σ 12 i ≠ 6) (h20 : σ 20 0 < 64) : buC (cs σ ρ) i = cs (di σ i) ρ := by
  unfold di
  rw [cs_dead (by rw [wr_f (by decide), st_f (by decide)]) h20, cs_wr, cs_12 h (by decide) (by decide)]
  rfl
theorem cs_dv {σ ρ : Sg} {i : Nat} (h : σ 12 i ≠ 6) (h22 : σ 22 0 < 64) (hi : i < 4294967295) (h21 : ∀ j, σ 21 j < 4294967295) (h9 : σ 9 i < 10) : dvC (cs σ ρ) i = cs (dlv σ i) ρ := by
  have e : dlv σ i = st (st (wr (st (st σ 12 i 1) 16 i (σ 24 0)) i 33) 21 (σ 22 0) i) 22 0 (σ 22 0 + 1) := by
    unfold dlv
    rw [wr_st (f := 16) (by decide) (by decide)]
  rw [e, cs_del (u := σ 9 i) (k := rcF σ (σ 9 i) (σ 22 0)) (by rw [wr_f (by decide), st_f (by decide), st_f (by decide)]) h22 hi (fun j => by rw [wr_f (by decide), st_f (by decide), st_f (by decide)]; exact h21 j) (by rw [wr_f (by decide), st_f (by decide), st_f (by decide)]) (rcF_c (fun j => by rw [wr_f (by decide), st_f (by decide), st_f (by decide)]) _ (fun j _ => by rw [wr_f (by decide), st_f (by decide), st_f (by decide)])), cs_wr, cs_st (by decide), cs_12 h (by decide) (by decide)]
  have e1 : cs σ ρ 9 i = σ 9 i := rfl
  have e2 : cs σ ρ 30 (20 + σ 9 i) = rcF σ (σ 9 i) (σ 22 0) := by
    show lnC σ (20 + σ 9 i) = _
    unfold lnC
    rw [if_neg (by omega), if_neg (by omega), if_neg (by omega), if_neg (by omega), if_neg (by omega), show 20 + σ 9 i - 20 = σ 9 i by omega]
  unfold dvC
  rw [e1, e2]
  rfl
theorem cs_op {σ ρ : Sg} {k : Nat} (h : σ 12 (σ 19 k) ≠ 6) : opC (cs σ ρ) (σ 19 k) = cs (opn σ k) ρ := by
  unfold opC opn
  rw [show cs σ ρ 10 (σ 19 k) = σ 10 (σ 19 k) from rfl]
  split
  · rw [cs_wr, cs_12 h (by decide) (by decide)]
  · rw [cs_wr, cs_wr, cs_6]
