/-! THE CLASS: its lists grow and are emptied (mine) -/
theorem elk_k (x : Nat) : elk x = 4 ∨ elk x = 5 ∨ elk x = 9 := by
  unfold elk
  split
  · exact Or.inl rfl
  · split
    · exact Or.inr (Or.inl rfl)
    · exact Or.inr (Or.inr rfl)
theorem elk_3 (x : Nat) : elk x ≠ 3 := by
  rcases elk_k x with h | h | h <;> omega
theorem Rq.obj {G : mG} {N : Mem} {Λ : Adr} {cp : Nat → Nat} {ς : Sg} {M : Mem} (h : Rq G N Λ cp ς M) {k y : Nat} (hk : k = 4 ∨ k = 5 ∨ k = 9) (hd : Dm ς cp k y) : Obj M (Λ k y) := by
  obtain ⟨e, q1, q2⟩ := h.1 _ _ hd
  rcases hk with rfl | rfl | rfl
  · exact ⟨4, _, _, q1.trans (congrArg some (show e = _ from q2)), rfl, by show RX3 ∈ [RX1, RX2, RX3]; exact .tail _ (.tail _ (.head _))⟩
  · exact ⟨3, _, _, q1.trans (congrArg some (show e = _ from q2)), rfl, by show RX2 ∈ [RX1, RX2, RX3]; exact .tail _ (.head _)⟩
  · exact ⟨2, _, _, q1.trans (congrArg some (show e = _ from q2)), rfl, by show RX1 ∈ [RX1, RX2, RX3]; exact .head _⟩
theorem Pc.adr {Λ Λ' : Adr} {G : mG} {ς : Sg} {cp cp' : Nat → Nat} {k i : Nat} {e : va_E} (h : Pc Λ G ς cp k i e) (hl : ∀ k' i', k' ≠ 3 → Λ' k' i' = Λ k' i') (h3 : k = 2 → Λ' 3 i = Λ 3 i) (hc : k = 3 → cp' i = cp i) : Pc Λ' G ς cp' k i e := by
  unfold Pc at h ⊢
  split at h
  · rw [hl 2 _ (by decide), hl 2 _ (by decide), hl 2 _ (by decide), hl 1 _ (by decide)]; exact h
  · exact h
  · rw [h3 rfl]; exact h
  · obtain ⟨f, h1, h2, h3, h4⟩ := h
    rw [hc rfl]
    exact ⟨f, h1, h2, h3, fun j hj => by rw [hl _ _ (elk_3 i)]; exact h4 j hj⟩
  · rw [hl 2 _ (by decide), hl 2 _ (by decide), hl 5 _ (by decide)]; exact h
  · rw [hl 6 _ (by decide), hl 7 _ (by decide), hl 8 _ (by decide)]; exact h
  · exact h
  · exact h
  · exact h
  · rw [hl 4 _ (by decide), hl 10 _ (by decide)]; exact h
  · rw [hl 11 _ (by decide)]; exact h
  · exact h
  · exact h
theorem Dm.cpo {ς : Sg} {cp cp' : Nat → Nat} {k i : Nat} (h : Dm ς cp k i) (hc : k = 3 → cp' i = cp i) : Dm ς cp' k i := by
  unfold Dm at h ⊢
  by_cases z : k = 3
  · subst z
    rw [hc rfl]
    exact h
  · simp only [z, false_and, false_or] at h ⊢
    exact h
theorem eli_o {ς ς' : Sg} {x n j w v : Nat} (he : ς' = st (st ς 31 (64 * x + n) w) 30 x v) (hj : j ≠ n) : eli ς' x j = eli ς x j := by
  unfold eli
  rw [he, st_f (by decide), st_i (by omega)]
theorem Rp.add {G : mG} {N : Mem} {Γ : Adr} {ς : Sg} {M : Mem} (h : Rp G N Γ ς M) (h00 : M (G.2.2 0) = none) {x n w v : Nat} (hx : isL ς x) (hn : ς 30 x = n) (h40 : n ≤ 40) {ς' : Sg} (he : ς' = st (st ς 31 (64 * x + n) w) 30 x (n + 1)) (hv : v = Γ (elk x) (eli ς' x n)) (hel : ∀ cp j, j < n → Dm ς cp (elk x) (eli ς x j)) (hvd : ∀ cp, Dm ς cp (elk x) (eli ς' x n)) (hD : ∀ cp k i, Dm ς' cp k i → Dm ς cp k i) : ∃ (mc : Int32) (a : Nat) (f : Nat → Option Nat), M (Γ 2 x) = some (.inr (0, [.int mc, .ref a, .int (nI n)])) ∧ jD G M a n f ∧ (∀ i, i < n → ∀ y, f i = some y → Obj M y) ∧ Obj M v ∧ ∀ (mc' : Int32) (M' : Mem), jPA G M (Γ 2 x) a n v f mc' M' → Rp G N Γ ς' M' := by
  obtain ⟨Λ, cp, h0, hq⟩ := h
  obtain ⟨g1, g2, g3, g4⟩ := id hq
  have d2 : ∀ cp', Dm ς cp' 2 x := fun cp' => by unfold Dm; simp [hx]
  obtain ⟨e, q1, mc, q2⟩ := g1 2 x (d2 cp)
  have hrow : ∃ f : Nat → Option Nat, jD G M (Λ 3 x) n f ∧ (∀ j, j < n → f j = some (Λ (elk x) (eli ς x j))) ∧ (M (Λ 3 x) ≠ none → 0 < cp x) := by
    by_cases hc : cp x = 0
    · obtain ⟨r1, r2⟩ := g3 x hx hc
      exact ⟨fun _ => none, Or.inl ⟨r1, by omega⟩, fun j hj => by omega, fun hz => absurd (by rw [r1]; exact h00) hz⟩
    · obtain ⟨e', p1, f, p2, p3, p4, p5⟩ := g1 3 x (by unfold Dm; simp [hx]; omega)
      exact ⟨f, Or.inr ⟨cp x, by rw [p1, p2], by omega, by omega, p4⟩, fun j hj => p5 j (by omega), fun _ => by omega⟩
  obtain ⟨f, f1, f2, f3⟩ := hrow
  refine ⟨mc, Λ 3 x, f, ?_, f1, ?_, ?_, fun mc' M' hP => ?_⟩
  · rw [← h0 2 x (by decide), q1, q2, hn]
  · intro i hi y hy
    rw [f2 i hi] at hy
    cases hy
    exact hq.obj (elk_k x) (hel cp i hi)
  · rw [hv, ← h0 _ _ (elk_3 x)]
    exact hq.obj (elk_k x) (hvd cp)
  obtain ⟨a', cap', g, w1, w2, w3, w4, w5, w6, w7, w8⟩ := hP
  rw [← h0 2 x (by decide)] at w1 w8
  have d3 : 0 < cp x → Dm ς cp 3 x := fun hc => by unfold Dm; simp [hx, hc]
  have hfree : ∀ q e', M q = some e' → (0 < cp x → q ≠ Λ 3 x) → q ≠ a' := by
    intro q e' hm hne hz
    rcases w7 with w7 | w7
    · exact hne (f3 (by rw [← w7, ← hz, hm]; exact fun z => by cases z)) (hz.trans w7)
    · rw [hz, w7] at hm; cases hm
  have hne : ∀ k i, Dm ς cp k i → ¬ (k = 3 ∧ i = x) → Λ k i ≠ a' := fun k i hd hno => by
    obtain ⟨e', r1, -⟩ := g1 k i hd
    exact hfree _ e' r1 (fun hc hz => hno (g2 _ _ _ _ hd (d3 hc) hz))
  obtain ⟨Λ', eΛ⟩ : ∃ z : Adr, z = fun k i => if k = 3 ∧ i = x then a' else Λ k i := ⟨_, rfl⟩
  obtain ⟨cp', ec⟩ : ∃ z : Nat → Nat, z = fun y => if y = x then cap' else cp y := ⟨_, rfl⟩
  have hΛ3 : Λ' 3 x = a' := by rw [eΛ]; exact if_pos ⟨rfl, rfl⟩
  have hΛo : ∀ k i, ¬ (k = 3 ∧ i = x) → Λ' k i = Λ k i := fun k i hz => by rw [eΛ]; exact if_neg hz
  have hcx : cp' x = cap' := by rw [ec]; exact if_pos rfl
  have hco : ∀ y, y ≠ x → cp' y = cp y := fun y hy => by rw [ec]; exact if_neg hy
  have e30 : ς' 30 x = n + 1 := by rw [he, st_s]
  have e33 : ς' 33 = ς 33 := by rw [he, st_row (by decide), st_row (by decide)]
  have hDo : ∀ k i, Dm ς' cp' k i → ¬ (k = 3 ∧ i = x) → Dm ς cp k i := fun k i hd hz => (hD _ _ _ hd).cpo (fun hk => (hco i (fun z => hz ⟨hk, z⟩)).symm)
  refine ⟨Λ', cp', fun k i hk => (hΛo k i (fun z => hk z.1)).trans (h0 k i hk), ?_, ?_, ?_, ?_⟩
  · intro k i hd
    by_cases z3 : k = 3 ∧ i = x
    · obtain ⟨rfl, rfl⟩ := z3
      refine ⟨_, by rw [hΛ3]; exact w2, g, by rw [hcx], by rw [e30, hcx]; exact w3, by rw [hcx]; exact w4, fun j hj => ?_⟩
      rw [e30] at hj
      rw [hΛo _ _ (fun z => elk_3 i z.1)]
      by_cases zj : j = n
      · rw [zj, w6, hv, ← h0 _ _ (elk_3 i)]
      · rw [w5 j (by omega), f2 j (by omega), eli_o he zj]
    · by_cases z2 : k = 2 ∧ i = x
      · obtain ⟨rfl, rfl⟩ := z2
        exact ⟨_, by rw [hΛo _ _ z3]; exact w1, mc', by rw [hΛ3, e30]⟩
      · have hd2 := hDo k i hd z3
        obtain ⟨e', r1, r2⟩ := g1 k i hd2
        refine ⟨e', ?_, ?_⟩
        · rw [hΛo _ _ z3, w8 _ (fun z => z2 (g2 _ _ _ _ hd2 (d2 cp) z)) (hne k i hd2 z3)]; exact r1
        · refine Pc.congr (ς := ς) (r2.adr (fun k' i' hk => hΛo k' i' (fun z => hk z.1)) (fun hk => hΛo 3 i (fun z => z2 ⟨hk, z.2⟩)) (fun hk => hco i (fun z => z3 ⟨hk, z⟩))) (fun f' j' hr => ?_)
          rw [he]
          by_cases a : f' = 30
          · subst a
            have hk9 : (k = 2 ∨ k = 3) ∧ j' = i := by
              unfold rds at hr
              split at hr
              · omega
              · omega
              · exact ⟨Or.inl rfl, hr.2⟩
              · rcases hr with hr | hr
                · exact ⟨Or.inr rfl, hr.2⟩
                · omega
              · omega
              · omega
              · omega
              · omega
              · omega
              · omega
              · omega
              · omega
              · exact hr.elim
            rw [st_i (fun z => by rcases hk9.1 with k9 | k9; exact z2 ⟨k9, by omega⟩; exact z3 ⟨k9, by omega⟩), st_f (by decide)]
          · rw [st_f a]
            by_cases b : f' = 31
            · subst b
              obtain ⟨k9, i9⟩ := rds_k hr (by decide)
              have k9 : k = 3 := k9
              have i9 : i = j' / 64 := i9 (by omega)
              rw [st_i (fun z => z3 ⟨k9, by omega⟩)]
            · rw [st_f b]
  · intro k i k' i' hd hd' hz
    by_cases z : k = 3 ∧ i = x
    · by_cases z' : k' = 3 ∧ i' = x
      · exact ⟨by omega, by omega⟩
      · obtain ⟨rfl, rfl⟩ := z
        rw [hΛ3, hΛo _ _ z'] at hz
        exact absurd hz.symm (hne _ _ (hDo _ _ hd' z') z')
    · by_cases z' : k' = 3 ∧ i' = x
      · obtain ⟨rfl, rfl⟩ := z'
        rw [hΛ3, hΛo _ _ z] at hz
        exact absurd hz (hne _ _ (hDo _ _ hd z) z)
      · rw [hΛo _ _ z, hΛo _ _ z'] at hz
        exact g2 _ _ _ _ (hDo _ _ hd z) (hDo _ _ hd' z') hz
  · intro y hy hc
    have hyx : y ≠ x := fun z => by rw [z, hcx] at hc; omega
    have hy0 : isL ς y := by unfold isL at hy ⊢; rw [e33] at hy; exact hy
    rw [hco y hyx] at hc
    obtain ⟨r1, r2⟩ := g3 y hy0 hc
    exact ⟨by rw [hΛo _ _ (fun z => hyx z.2)]; exact r1, by rw [he, st_i hyx, st_f (by decide)]; exact r2⟩
  · intro q e' hq'
    obtain ⟨r1, r2⟩ := g4 q e' hq'
    have hqa : q ≠ a' := hfree q e' r1 (fun hc z => r2 3 x (d3 hc) z.symm)
    refine ⟨(w8 q (fun z => r2 2 x (d2 cp) z.symm) hqa).trans r1, fun k i hd => ?_⟩
    by_cases z : k = 3 ∧ i = x
    · obtain ⟨rfl, rfl⟩ := z
      rw [hΛ3]; exact Ne.symm hqa
    · rw [hΛo _ _ z]; exact r2 k i (hDo _ _ hd z)
/-- the list of the dead is emptied -/
theorem Rp.clr {G : mG} {N : Mem} {Γ : Adr} {ς : Sg} {M : Mem} (h : Rp G N Γ ς M) : ∃ (mc : Int32) (a : Nat) (f : Nat → Option Nat), M (Γ 2 2) = some (.inr (0, [.int mc, .ref a, .int (nI (ς 30 2))])) ∧ ((ς 30 2 = 0 ∧ ∀ (M' : Mem), (M' (Γ 2 2) = some (.inr (0, [.int (mc + nI 1), .ref a, .int (nI 0)])) ∧ ∀ y, y ≠ Γ 2 2 → M' y = M y) → Rp G N Γ (st ς 30 2 0) M') ∨ ∃ cap, M a = some (eQ (G.2.1 2) cap f) ∧ ς 30 2 ≤ cap ∧ cap ≤ 64 ∧ ∀ (M' : Mem), (M' (Γ 2 2) = some (.inr (0, [.int (mc + nI 1), .ref a, .int (nI 0)])) ∧ (∃ g, M' a = some (eQ (G.2.1 2) cap g)) ∧ ∀ y, y ≠ Γ 2 2 → y ≠ a → M' y = M y) → Rp G N Γ (st ς 30 2 0) M') := by
  obtain ⟨Λ, cp, h0, hq⟩ := h
  obtain ⟨g1, g2, g3, g4⟩ := id hq
  have hx : isL ς 2 := Or.inl (by decide)
  have d2 : ∀ cp', Dm ς cp' 2 2 := fun cp' => by unfold Dm; simp [hx]
  have hD : ∀ k i, Dm (st ς 30 2 0) cp k i → Dm ς cp k i := by
    intro k i hd
    unfold Dm isL isR at hd ⊢
    rw [st_row (show (33 : Nat) ≠ 30 by decide), st_row (show (35 : Nat) ≠ 30 by decide)] at hd
    rw [st_i (show 10 + i / 21 ≠ 2 by omega)] at hd
    exact hd
  have hL : ∀ y, isL (st ς 30 2 0) y → isL ς y := by
    intro y hy
    unfold isL at hy ⊢
    rw [st_row (show (33 : Nat) ≠ 30 by decide)] at hy
    exact hy
  have hP : ∀ k i e, ¬ (k = 2 ∧ i = 2) → ¬ (k = 3 ∧ i = 2) → Pc Λ G ς cp k i e → Pc Λ G (st ς 30 2 0) cp k i e := by
    intro k i e z2 z3 hp
    refine hp.congr (fun f' j' hr => ?_)
    by_cases a : f' = 30
    · subst a
      have hk9 : (k = 2 ∨ k = 3) ∧ j' = i := by
        unfold rds at hr
        split at hr
        · omega
        · omega
        · exact ⟨Or.inl rfl, hr.2⟩
        · rcases hr with hr | hr
          · exact ⟨Or.inr rfl, hr.2⟩
          · omega
        · omega
        · omega
        · omega
        · omega
        · omega
        · omega
        · omega
        · omega
        · exact hr.elim
      rw [st_i (fun z => by rcases hk9.1 with k9 | k9; exact z2 ⟨k9, by omega⟩; exact z3 ⟨k9, by omega⟩)]
    · rw [st_f a]
  obtain ⟨e, q1, mc, q2⟩ := g1 2 2 (d2 cp)
  have q3 : M (Γ 2 2) = some (.inr (0, [.int mc, .ref (Λ 3 2), .int (nI (ς 30 2))])) := by rw [← h0 2 2 (by decide), q1, q2]
  by_cases hc : cp 2 = 0
  · obtain ⟨r1, r2⟩ := g3 2 hx hc
    refine ⟨mc, Λ 3 2, fun _ => none, q3, Or.inl ⟨r2, fun M' hM' => ?_⟩⟩
    obtain ⟨m1, m2⟩ := hM'
    rw [← h0 2 2 (by decide)] at m1 m2
    refine ⟨Λ, cp, h0, fun k i hd => ?_, fun k i k' i' hd hd' hz => g2 _ _ _ _ (hD _ _ hd) (hD _ _ hd') hz, fun y hy hc' => ?_, fun q e' hq' => ?_⟩
    · have hd0 := hD _ _ hd
      by_cases z2 : k = 2 ∧ i = 2
      · obtain ⟨rfl, rfl⟩ := z2
        exact ⟨_, m1, mc + nI 1, by rw [st_s]⟩
      · have z3 : ¬ (k = 3 ∧ i = 2) := by
          rintro ⟨rfl, rfl⟩
          unfold Dm at hd0
          simp [hc] at hd0
        obtain ⟨e', p1, p2⟩ := g1 k i hd0
        exact ⟨e', (m2 _ (fun z => z2 (g2 _ _ _ _ hd0 (d2 cp) z))).trans p1, hP _ _ _ z2 z3 p2⟩
    · obtain ⟨p1, p2⟩ := g3 y (hL y hy) hc'
      refine ⟨p1, ?_⟩
      by_cases z : y = 2
      · rw [z, st_s]
      · rw [st_i z]; exact p2
    · obtain ⟨p1, p2⟩ := g4 q e' hq'
      exact ⟨(m2 q (fun z => p2 2 2 (d2 cp) z.symm)).trans p1, fun k i hd => p2 k i (hD _ _ hd)⟩
  · have d3 : Dm ς cp 3 2 := by unfold Dm; simp [hx]; omega
    obtain ⟨e', p1, f, p2, p3, p4, p5⟩ := g1 3 2 d3
    refine ⟨mc, Λ 3 2, f, q3, Or.inr ⟨cp 2, by rw [p1, p2], p3, p4, fun M' hM' => ?_⟩⟩
    obtain ⟨m1, ⟨g, m3⟩, m2⟩ := hM'
    rw [← h0 2 2 (by decide)] at m1 m2
    refine ⟨Λ, cp, h0, fun k i hd => ?_, fun k i k' i' hd hd' hz => g2 _ _ _ _ (hD _ _ hd) (hD _ _ hd') hz, fun y hy hc' => ?_, fun q e' hq' => ?_⟩
    · have hd0 := hD _ _ hd
      by_cases z2 : k = 2 ∧ i = 2
      · obtain ⟨rfl, rfl⟩ := z2
        exact ⟨_, m1, mc + nI 1, by rw [st_s]⟩
      · by_cases z3 : k = 3 ∧ i = 2
        · obtain ⟨rfl, rfl⟩ := z3
          exact ⟨_, m3, g, rfl, by rw [st_s]; omega, p4, fun j hj => by rw [st_s] at hj; omega⟩
        · obtain ⟨e', p1, p2⟩ := g1 k i hd0
          exact ⟨e', (m2 _ (fun z => z2 (g2 _ _ _ _ hd0 (d2 cp) z)) (fun z => z3 (g2 _ _ _ _ hd0 d3 z))).trans p1, hP _ _ _ z2 z3 p2⟩
    · obtain ⟨p1, p2⟩ := g3 y (hL y hy) hc'
      refine ⟨p1, ?_⟩
      by_cases z : y = 2
      · rw [z, st_s]
      · rw [st_i z]; exact p2
    · obtain ⟨p1, p2⟩ := g4 q e' hq'
      exact ⟨(m2 q (fun z => p2 2 2 (d2 cp) z.symm) (fun z => p2 3 2 d3 z.symm)).trans p1, fun k i hd => p2 k i (hD _ _ hd)⟩
