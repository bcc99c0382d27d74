/-! THE CLASS'S PICTURE GROWS BY NEW OBJECTS (mine) -/
/-- the places that the cell of a place names -/
def rfs (ς : Sg) (k i k' i' : Nat) : Prop :=
  match k with
  | 0 => (k' = 2 ∧ i' < 3) ∨ (k' = 1 ∧ i' = 0)
  | 2 => k' = 3 ∧ i' = i
  | 3 => ∃ j, j < ς 30 i ∧ k' = elk i ∧ i' = eli ς i j
  | 4 => (k' = 2 ∧ (i' = 10 + i ∨ i' = 20 + i)) ∨ (k' = 5 ∧ i' = 21 * i + ς 35 i)
  | 5 => (k' = 6 ∨ k' = 7 ∨ k' = 8) ∧ i' = i
  | 9 => (k' = 4 ∧ i' = ς 9 i) ∨ (k' = 10 ∧ i' = i)
  | 10 => k' = 11 ∧ i' = i
  | _ => False
theorem Pc.adr2 {Λ Λ' : Adr} {G : mG} {ς : Sg} {cp cp' : Nat → Nat} {k i : Nat} {e : va_E} (h : Pc Λ G ς cp k i e) (hl : ∀ k' i', rfs ς k i k' i' → Λ' k' i' = Λ k' i') (hc : k = 3 → cp' i = cp i) : Pc Λ' G ς cp' k i e := by
  unfold Pc at h ⊢
  split at h
  · rw [hl 2 0 (Or.inl ⟨rfl, by decide⟩), hl 2 1 (Or.inl ⟨rfl, by decide⟩), hl 2 2 (Or.inl ⟨rfl, by decide⟩), hl 1 0 (Or.inr ⟨rfl, rfl⟩)]; exact h
  · exact h
  · rw [hl 3 i ⟨rfl, rfl⟩]; exact h
  · obtain ⟨f, h1, h2, h3, h4⟩ := h
    rw [hc rfl]
    exact ⟨f, h1, h2, h3, fun j hj => by rw [hl _ _ ⟨j, hj, rfl, rfl⟩]; exact h4 j hj⟩
  · rw [hl 2 _ (Or.inl ⟨rfl, Or.inl rfl⟩), hl 2 _ (Or.inl ⟨rfl, Or.inr rfl⟩), hl 5 _ (Or.inr ⟨rfl, rfl⟩)]; exact h
  · rw [hl 6 i ⟨Or.inl rfl, rfl⟩, hl 7 i ⟨Or.inr (Or.inl rfl), rfl⟩, hl 8 i ⟨Or.inr (Or.inr rfl), rfl⟩]; exact h
  · exact h
  · exact h
  · exact h
  · rw [hl 4 _ (Or.inl ⟨rfl, rfl⟩), hl 10 i (Or.inr ⟨rfl, rfl⟩)]; exact h
  · rw [hl 11 i ⟨rfl, rfl⟩]; exact h
  · exact h
  · exact h
/-- what is named lies in the picture -/
def Cl (ς : Sg) : Prop := ς 30 0 ≤ ς 33 0 ∧ ς 30 1 ≤ ς 33 1 ∧ (∀ i, i < ς 33 1 → ς 9 i < ς 33 0) ∧ (∀ x j, (x = 2 ∨ 20 ≤ x) → isL ς x → j < ς 30 x → ς 31 (64 * x + j) < ς 33 1) ∧ (∀ u, u < ς 33 0 → ς 30 (10 + u) ≤ 20 ∧ ς 35 u ≤ 20) ∧ ς 33 0 ≤ 8
theorem Cl.ref {ς : Sg} (h : Cl ς) {cp : Nat → Nat} {k i k' i' : Nat} (hd : Dm ς cp k i) (hr : rfs ς k i k' i') : (k = 2 ∧ k' = 3 ∧ i' = i) ∨ (k' ≠ 3 ∧ Dm ς cp k' i') := by
  obtain ⟨c1, c2, c3, c4, c5, c6⟩ := h
  unfold rfs at hr
  split at hr
  · right
    rcases hr with ⟨rfl, h1⟩ | ⟨rfl, rfl⟩
    · exact ⟨by decide, Or.inr (Or.inr (Or.inl ⟨rfl, Or.inl h1⟩))⟩
    · exact ⟨by decide, Or.inr (Or.inl ⟨rfl, rfl⟩)⟩
  · exact Or.inl ⟨rfl, hr.1, hr.2⟩
  · right
    obtain ⟨j, h1, rfl, rfl⟩ := hr
    have hx : isL ς i := by
      unfold Dm at hd
      simp at hd
      exact hd.1
    refine ⟨elk_3 i, ?_⟩
    unfold elk eli
    by_cases a : i = 0
    · rw [if_pos a, if_pos (by omega)]
      subst a
      exact Dm4 (by omega)
    · rw [if_neg a]
      by_cases b : 10 ≤ i ∧ i < 20
      · rw [if_pos b, if_neg (by omega), if_pos b]
        have hu : i - 10 < ς 33 0 := by unfold isL at hx; omega
        have h5 := c5 (i - 10) hu
        rw [show 10 + (i - 10) = i by omega] at h5
        exact Dm5 (isR_of hu (by rw [show 10 + (i - 10) = i by omega]; exact h1) (by omega))
      · rw [if_neg b]
        by_cases d : i ≤ 1
        · rw [if_pos d]
          exact Dm9 (by have : i = 1 := by omega
                        subst this; omega)
        · rw [if_neg d, if_neg b]
          exact Dm9 (c4 i j (by unfold isL at hx; omega) hx h1)
  · right
    have hi : i < ς 33 0 := by unfold Dm at hd; simp at hd; exact hd
    rcases hr with ⟨rfl, rfl | rfl⟩ | ⟨rfl, rfl⟩
    · exact ⟨by decide, by unfold Dm; simp [isL_t hi]⟩
    · exact ⟨by decide, by unfold Dm; simp [isL_r hi]⟩
    · refine ⟨by decide, Dm5 ?_⟩
      have h5 := c5 i hi
      unfold isR
      rw [show (21 * i + ς 35 i) / 21 = i by omega, show (21 * i + ς 35 i) % 21 = ς 35 i by omega]
      exact ⟨hi, Or.inr rfl⟩
  · right
    have hi : isR ς i := by unfold Dm at hd; simp at hd; exact hd
    obtain ⟨h1, rfl⟩ := hr
    rcases h1 with rfl | rfl | rfl <;> exact ⟨by decide, by unfold Dm; simp [hi]⟩
  · right
    have hi : i < ς 33 1 := by unfold Dm at hd; simp at hd; exact hd
    rcases hr with ⟨rfl, rfl⟩ | ⟨rfl, rfl⟩
    · exact ⟨by decide, Dm4 (c3 i hi)⟩
    · exact ⟨by decide, by unfold Dm; simp [hi]⟩
  · right
    have hi : i < ς 33 1 := by unfold Dm at hd; simp at hd; exact hd
    obtain ⟨rfl, rfl⟩ := hr
    exact ⟨by decide, by unfold Dm; simp [hi]⟩
  · exact hr.elim
theorem Rp.new {G : mG} {N : Mem} {Γ Γ' : Adr} {ς ς' : Sg} {M M' : Mem} (K R : Nat → Nat → Prop) [hdec : ∀ i, Decidable (K 2 i)] (hR : Rp G N Γ ς M) (hc : Cl ς) (hK3 : ∀ i, ¬ K 3 i) (hKd : ∀ cp k i, K k i → ¬ Dm ς cp k i) (hRd : ∀ k i, R k i → k ≠ 3 ∧ k ≠ 2 ∧ ∀ cp, Dm ς cp k i)
    (hDm : ∀ cp k i, (∀ x, K 2 x → cp x = 0) → Dm ς' cp k i → K k i ∨ Dm ς cp k i) (hs : ∀ cp k i f j, Dm ς cp k i → ¬ R k i → rds k i f j → ς' f j = ς f j) (h30 : ∀ x, K 2 x → ς' 30 x = 0) (hΓ : ∀ k i, ¬ K k i → Γ' k i = Γ k i)
    (hM : ∀ q e, M q = some e → (∀ k i, R k i → q ≠ Γ k i) → M' q = some e)
    (hnew : ∀ k i, K k i → M (Γ' k i) = none ∧ ∃ e, M' (Γ' k i) = some e ∧ ∀ (Λ : Adr) (cp : Nat → Nat), (∀ k' i', k' ≠ 3 → Λ k' i' = Γ' k' i') → (∀ x, K 2 x → Λ 3 x = G.2.2 0) → Pc Λ G ς' cp k i e)
    (hrep : ∀ k i, R k i → ∃ e, M' (Γ k i) = some e ∧ ∀ (Λ : Adr) (cp : Nat → Nat), (∀ k' i', k' ≠ 3 → Λ k' i' = Γ' k' i') → Pc Λ G ς' cp k i e)
    (hinj : ∀ k i k' i', K k i → K k' i' → Γ' k i = Γ' k' i' → k = k' ∧ i = i') : Rp G N Γ' ς' M' := by
  obtain ⟨Λ, cp, h0, hq⟩ := hR
  obtain ⟨g1, g2, g3, g4⟩ := id hq
  obtain ⟨Λ', eΛ⟩ : ∃ z : Adr, z = fun k i => if k = 3 then (if K 2 i then G.2.2 0 else Λ 3 i) else Γ' k i := ⟨_, rfl⟩
  obtain ⟨cp', ec⟩ : ∃ z : Nat → Nat, z = fun x => if K 2 x then 0 else cp x := ⟨_, rfl⟩
  have l1 : ∀ k i, k ≠ 3 → Λ' k i = Γ' k i := fun k i hk => by rw [eΛ]; exact if_neg hk
  have l2 : ∀ i, K 2 i → Λ' 3 i = G.2.2 0 := fun i hi => by rw [eΛ]; exact (if_pos rfl).trans (if_pos hi)
  have l3 : ∀ i, ¬ K 2 i → Λ' 3 i = Λ 3 i := fun i hi => by rw [eΛ]; exact (if_pos rfl).trans (if_neg hi)
  have c1 : ∀ x, K 2 x → cp' x = 0 := fun x hx => by rw [ec]; exact if_pos hx
  have c2 : ∀ x, ¬ K 2 x → cp' x = cp x := fun x hx => by rw [ec]; exact if_neg hx
  have hod : ∀ k i, Dm ς cp' k i → Dm ς cp k i ∧ (k = 3 → ¬ K 2 i) := by
    intro k i hd
    have hk : k = 3 → ¬ K 2 i := by
      rintro rfl hz
      unfold Dm at hd
      simp [c1 i hz] at hd
    exact ⟨hd.cpo (fun h3 => (c2 i (hk h3)).symm), hk⟩
  have hLo : ∀ k i, Dm ς cp' k i → Λ' k i = Λ k i := by
    intro k i hd
    by_cases h3 : k = 3
    · subst h3
      exact l3 i ((hod _ _ hd).2 rfl)
    · rw [l1 k i h3, hΓ k i (fun z => hKd cp' k i z hd), h0 k i h3]
  refine ⟨Λ', cp', l1, fun k i hd => ?_, fun k i k' i' hd hd' hz => ?_, fun x hx hcx => ?_, fun q e hq' => ?_⟩
  · rcases hDm cp' k i c1 hd with hk | hd0
    · have hk3 : k ≠ 3 := fun z => hK3 i (z ▸ hk)
      obtain ⟨-, e, w1, w2⟩ := hnew k i hk
      exact ⟨e, by rw [l1 k i hk3]; exact w1, w2 Λ' cp' l1 l2⟩
    · have hd1 := (hod k i hd0).1
      by_cases hr : R k i
      · obtain ⟨e, w1, w2⟩ := hrep k i hr
        obtain ⟨hk3, -, -⟩ := hRd k i hr
        exact ⟨e, by rw [hLo k i hd0, h0 k i hk3]; exact w1, w2 Λ' cp' l1⟩
      · obtain ⟨e, p1, p2⟩ := g1 k i hd1
        refine ⟨e, ?_, ?_⟩
        · rw [hLo k i hd0]
          refine hM _ _ p1 (fun k' i' hr' hz => hr ?_)
          obtain ⟨hk3, -, hd'⟩ := hRd k' i' hr'
          rw [← h0 k' i' hk3] at hz
          obtain ⟨rfl, rfl⟩ := g2 _ _ _ _ hd1 (hd' cp) hz
          exact hr'
        · refine Pc.congr (ς := ς) (p2.adr2 (fun k' i' hrf => ?_) (fun h3 => c2 i ((hod k i hd0).2 h3))) (fun f j hrd => hs cp k i f j hd1 hr hrd)
          rcases hc.ref hd0 hrf with ⟨rfl, rfl, rfl⟩ | ⟨-, h2⟩
          · exact l3 _ (fun z => hKd cp' _ _ z hd0)
          · exact hLo _ _ h2
  · rcases hDm cp' k i c1 hd with hk | hd0
    · have hk3 : k ≠ 3 := fun z => hK3 i (z ▸ hk)
      rcases hDm cp' k' i' c1 hd' with hk' | hd0'
      · have hk3' : k' ≠ 3 := fun z => hK3 i' (z ▸ hk')
        rw [l1 k i hk3, l1 k' i' hk3'] at hz
        exact hinj _ _ _ _ hk hk' hz
      · exfalso
        rw [l1 k i hk3, hLo k' i' hd0'] at hz
        obtain ⟨e, p1, -⟩ := g1 k' i' (hod _ _ hd0').1
        rw [← hz, (hnew k i hk).1] at p1
        cases p1
    · rcases hDm cp' k' i' c1 hd' with hk' | hd0'
      · exfalso
        have hk3' : k' ≠ 3 := fun z => hK3 i' (z ▸ hk')
        rw [l1 k' i' hk3', hLo k i hd0] at hz
        obtain ⟨e, p1, -⟩ := g1 k i (hod _ _ hd0).1
        rw [hz, (hnew k' i' hk').1] at p1
        cases p1
      · rw [hLo k i hd0, hLo k' i' hd0'] at hz
        exact g2 _ _ _ _ (hod _ _ hd0).1 (hod _ _ hd0').1 hz
  · by_cases hk : K 2 x
    · exact ⟨l2 x hk, h30 x hk⟩
    · have hd2 : Dm ς' cp' 2 x := by unfold Dm; simp [hx]
      have hd := (hDm cp' 2 x c1 hd2).resolve_left hk
      have hx0 : isL ς x := by unfold Dm at hd; simp at hd; exact hd
      rw [c2 x hk] at hcx
      obtain ⟨p1, p2⟩ := g3 x hx0 hcx
      exact ⟨by rw [l3 x hk]; exact p1, by rw [hs cp' 2 x 30 x hd (fun z => (hRd 2 x z).2.1 rfl) ⟨rfl, rfl⟩]; exact p2⟩
  · obtain ⟨p1, p2⟩ := g4 q e hq'
    refine ⟨hM q e p1 (fun k i hr hz => ?_), fun k i hd hz => ?_⟩
    · obtain ⟨hk3, -, hd'⟩ := hRd k i hr
      rw [← h0 k i hk3] at hz
      exact p2 k i (hd' cp) hz.symm
    · rcases hDm cp' k i c1 hd with hk | hd0
      · have hk3 : k ≠ 3 := fun z => hK3 i (z ▸ hk)
        rw [l1 k i hk3] at hz
        rw [← hz, (hnew k i hk).1] at p1
        cases p1
      · rw [hLo k i hd0] at hz
        exact p2 k i (hod _ _ hd0).1 hz
