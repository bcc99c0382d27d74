/-! WHAT THE STATES STAND ON, over the calls (mine) -/
theorem IV.of7 {σ σ' : Sg} (h : IV σ) (hV : RV σ') (hI : RI σ') (h0 : σ 0 0 ≤ σ' 0 0) (he : ∀ g j, 8 ≤ g → g ≠ 23 → σ' g j = σ g j) : IV σ' := by
  obtain ⟨h1, h2, h3, h4, h5, h6⟩ := h
  have e8 := he 8 0 (by decide) (by decide)
  have hX : ∀ f n v, 8 ≤ f → f ≠ 23 → 8 ≤ n → n ≠ 23 → LX f n v σ → LX f n v σ' := by
    intro f n v f1 f2 n1 n2 hx P
    rw [he n 0 n1 n2, e8, show (fun k => P (σ' f k)) = fun k => P (σ f k) from funext fun k => by rw [he f k f1 f2], hx P]
    exact cnt_congr _ (fun i _ => by rw [he 12 i (by decide) (by decide)])
  refine ⟨hV, hX 19 20 5 (by decide) (by decide) (by decide) (by decide) h2, hX 21 22 1 (by decide) (by decide) (by decide) (by decide) h3, fun i hi => ?_, fun i hi => ?_, hI⟩
  · rw [e8] at hi
    obtain ⟨l1, l2, ⟨k, k1, k2⟩, l4, l5, l6⟩ := h4 i hi
    have e9 := he 9 i (by decide) (by decide)
    have e11 := he 11 i (by decide) (by decide)
    have e12 := he 12 i (by decide) (by decide)
    have e15 := he 15 i (by decide) (by decide)
    have e18 := he 18 i (by decide) (by decide)
    have e24 := he 24 0 (by decide) (by decide)
    refine ⟨by omega, by omega, ⟨k, by omega, by rw [he 17 _ (by decide) (by decide)]; exact k2⟩, by omega, by omega, ?_⟩
    unfold lenB at l6 ⊢
    rw [e12, e11, e15, e18, e24]
    exact l6
  · rw [e8] at hi
    rw [he 18 i (by decide) (by decide), he 15 i (by decide) (by decide)]
    exact h5 i hi
theorem ZV.of {σ σ' : Sg} (h : ZV σ) (h8 : σ 8 0 ≤ σ' 8 0) (he : ∀ i, σ' 8 0 ≤ i → σ' 14 i = σ 14 i ∧ σ' 16 i = σ 16 i ∧ ∀ j, j < 200 → σ' 17 (200 * i + j) = σ 17 (200 * i + j)) : ZV σ' := by
  intro i hi
  obtain ⟨a, b, c⟩ := h i (by omega)
  obtain ⟨a', b', c'⟩ := he i hi
  exact ⟨a'.trans a, b'.trans b, fun j hj => (c' j hj).trans (c j hj)⟩
/-- a ship more -/
theorem HS.ship {σ ρ : Sg} (h : HS σ ρ) (h8 : σ 0 0 < 8) : HS (nxA σ) (ρz ρ (21 * σ 0 0)) := by
  obtain ⟨hI, hZ, c1, c2, c3⟩ := h
  have hV := hI.1
  have hRI := hI.2.2.2.2.2
  have e0 : nxA σ 0 0 = σ 0 0 + 1 := st_s
  have eo : ∀ g j, g ≠ 0 → nxA σ g j = σ g j := fun g j hg => st_f hg
  refine ⟨hI.of7 (hV.xst (f := 0) (by show _ ≤ 8; omega)) ⟨fun r k hk => ?_, fun s hs => ?_⟩ (by omega) (fun g j hg _ => eo g j (by omega)), hZ.of (by rw [eo 8 0 (by decide)]; omega) (fun i _ => ⟨eo _ _ (by decide), eo _ _ (by decide), fun j _ => eo _ _ (by decide)⟩), fun u n hn => ?_, fun u hu => ?_, fun j => ?_⟩
  · simp only [eo 3 _ (by decide), eo 5 _ (by decide), eo 6 _ (by decide)] at hk ⊢
    exact hRI.1 r k hk
  · rw [eo 7 _ (by decide), eo 3 _ (by decide)]
    exact hRI.2 s (by omega)
  · rw [eo 7 _ (by decide)] at hn
    have b7 : σ 7 u ≤ 20 := hV 7 u
    have hu : u < σ 0 0 := by
      by_cases z : u < σ 0 0
      · exact z
      · have := (hRI.2 u (by omega)).1; omega
    obtain ⟨a, b, c⟩ := c1 u n hn
    rw [eo 3 _ (by decide), eo 1 _ (by decide), eo 2 _ (by decide), ρz_c (by decide) (by omega), ρz_c (by decide) (by omega), ρz_c (by decide) (by omega)]
    refine ⟨a, b, fun k hk => ?_⟩
    have b3 : σ 3 (21 * u + n) ≤ 6 := hV 3 _
    rw [eo 4 _ (by decide), eo 5 _ (by decide), eo 6 _ (by decide), ρz_d (i := 21 * u + n) (by decide) (by omega) (by omega), ρz_d (i := 21 * u + n) (by decide) (by omega) (by omega), ρz_d (i := 21 * u + n) (by decide) (by omega) (by omega)]
    exact c k hk
  · rw [e0] at hu
    rw [eo 7 _ (by decide), eo 3 _ (by decide)]
    have b7 : σ 7 u ≤ 20 := hV 7 u
    by_cases z : u = σ 0 0
    · subst z
      obtain ⟨z7, z3⟩ := hRI.2 (σ 0 0) (Nat.le_refl _)
      rw [z7, z3, Nat.add_zero, ρz_a (by decide)]
      exact ⟨rfl, fun k hk => absurd hk (Nat.not_lt_zero k)⟩
    · obtain ⟨a, b⟩ := c2 u (by omega)
      rw [ρz_c (by decide) (by omega)]
      refine ⟨a, fun k hk => ?_⟩
      have b3 : σ 3 (21 * u + 20) ≤ 6 := hV 3 _
      rw [eo 4 _ (by decide), eo 5 _ (by decide), eo 6 _ (by decide), ρz_d (i := 21 * u + σ 7 u) (by decide) (by omega) (by omega), ρz_d (i := 21 * u + σ 7 u) (by decide) (by omega) (by omega), ρz_d (i := 21 * u + σ 7 u) (by decide) (by omega) (by omega)]
      exact b k hk
  · have := c3 j
    have hz : ∀ g, ρz ρ (21 * σ 0 0) g j = 0 ∨ ρz ρ (21 * σ 0 0) g j = ρ g j := fun g => by unfold ρz; split; exact Or.inl rfl; exact Or.inr rfl
    have z1 := hz 1
    have z2 := hz 2
    have z3 := hz 3
    have z4 := hz 4
    have z5 := hz 5
    have z6 := hz 6
    omega
/-- the class's state, where only calls change -/
theorem cs_low {σ σ' ρ ρ' : Sg} (h : ∀ g j, g = 0 ∨ 7 ≤ g → σ' g j = σ g j) (g j : Nat) : cs σ' ρ' g j = if 1 ≤ g ∧ g ≤ 6 then ρ' g j else cs σ ρ g j := by
  by_cases hp : 1 ≤ g ∧ g ≤ 6
  · rw [if_pos hp]
    have : g = 1 ∨ g = 2 ∨ g = 3 ∨ g = 4 ∨ g = 5 ∨ g = 6 := by omega
    rcases this with rfl | rfl | rfl | rfl | rfl | rfl <;> rfl
  · rw [if_neg hp]
    have hg7 : g = 0 ∨ 7 ≤ g := by omega
    have e : ∀ g j, 7 ≤ g → σ' g j = σ g j := fun g j hg => h g j (Or.inr hg)
    have e0 : σ' 0 0 = σ 0 0 := h 0 0 (Or.inl rfl)
    have er : ∀ u n, rcF σ' u n = rcF σ u n := fun u n => rcF_c (fun _ => e 9 _ (by decide)) n (fun x _ => e 21 x (by decide))
    have ed : ∀ u k n, dvF σ' u k n = dvF σ u k n := fun u k n => dvF_c (fun _ => e 9 _ (by decide)) n (fun x _ => e 21 x (by decide))
    unfold cs
    split
    · rw [e 12 _ (by decide)]
    · rw [e 12 _ (by decide), e 10 _ (by decide), e 13 _ (by decide)]
    · exact absurd ⟨by decide, by decide⟩ hp
    · exact absurd ⟨by decide, by decide⟩ hp
    · exact absurd ⟨by decide, by decide⟩ hp
    · exact absurd ⟨by decide, by decide⟩ hp
    · exact absurd ⟨by decide, by decide⟩ hp
    · exact absurd ⟨by decide, by decide⟩ hp
    · unfold lnC; rw [e0, e 8 _ (by decide), e 20 _ (by decide), e 7 _ (by decide), er, e 22 _ (by decide)]
    · unfold elC; rw [e 19 _ (by decide), ed, e 22 _ (by decide)]
    · rw [e0, e 8 _ (by decide)]
    · exact e 7 _ (by decide)
    · rfl
    · rfl
    · rfl
    · rfl
    · rfl
    · rfl
    · rfl
    · rcases hg7 with rfl | hg7
      · exact absurd rfl (by assumption)
      · exact e g j hg7
def ρC (ρ : Sg) (r c q a d : Nat) : Sg := st (st (st (st ρ 4 (6 * r + c) q) 5 (6 * r + c) a) 6 (6 * r + c) d) 3 r (c + 1)
theorem ac_eq {σ ρ : Sg} {u q a d : Nat} (hC : Cr σ ρ) (hu : u < σ 0 0) : acC (cs σ ρ) (21 * u + σ 7 u) q a (a + d) = cs (nxC σ u q a d) (ρC ρ (21 * u + σ 7 u) (σ 3 (21 * u + 20)) q a (a + d)) := by
  have e3 : cs σ ρ 3 (21 * u + σ 7 u) = σ 3 (21 * u + 20) := (hC.2.1 u hu).1
  have hs : ∀ g j, g = 0 ∨ 7 ≤ g → nxC σ u q a d g j = σ g j := by
    intro g j hg
    unfold nxC
    rw [st_f (by omega), st_f (by omega), st_f (by omega), st_f (by omega)]
  funext g j
  rw [cs_low (σ := σ) (ρ := ρ) hs g j]
  unfold acC ρC
  rw [e3]
  by_cases hp : 1 ≤ g ∧ g ≤ 6
  · rw [if_pos hp]
    have e : ∀ f i v (s t : Sg), s g j = t g j → st s f i v g j = st t f i v g j := fun f i v s t h => by
      by_cases z : g = f ∧ j = i
      · obtain ⟨rfl, rfl⟩ := z; rw [st_s, st_s]
      · rw [show st s f i v g j = s g j from if_neg z, show st t f i v g j = t g j from if_neg z]; exact h
    refine e _ _ _ _ _ (e _ _ _ _ _ (e _ _ _ _ _ (e _ _ _ _ _ ?_)))
    have : g = 1 ∨ g = 2 ∨ g = 3 ∨ g = 4 ∨ g = 5 ∨ g = 6 := by omega
    rcases this with rfl | rfl | rfl | rfl | rfl | rfl <;> rfl
  · rw [if_neg hp, st_f (by omega), st_f (by omega), st_f (by omega), st_f (by omega)]
theorem HS.call {σ ρ : Sg} {u q a d : Nat} (h : HS σ ρ) (hu : u < σ 0 0) (hq : q < 10) (ha : a < 1001) (hd : d < 31) (h6 : σ 3 (21 * u + 20) < 6) (hl : σ 3 (21 * u + 20) = 0 ∨ σ 6 (6 * (21 * u + 20) + σ 3 (21 * u + 20) - 1) < a) : HS (nxC σ u q a d) (ρC ρ (21 * u + σ 7 u) (σ 3 (21 * u + 20)) q a (a + d)) := by
  obtain ⟨hI, hZ, c1, c2, c3⟩ := h
  have hV := hI.1
  have hRI := hI.2.2.2.2.2
  have b0 : σ 0 0 ≤ 8 := hV 0 0
  have b7 : ∀ v, σ 7 v ≤ 20 := fun v => hV 7 v
  have b3 : ∀ r, σ 3 r ≤ 6 := fun r => hV 3 r
  obtain ⟨c, ec⟩ : ∃ c, c = σ 3 (21 * u + 20) := ⟨_, rfl⟩
  obtain ⟨r0, er⟩ : ∃ r, r = 21 * u + 20 := ⟨_, rfl⟩
  have en : nxC σ u q a d = st (st (st (st σ 4 (6 * r0 + c) q) 5 (6 * r0 + c) a) 6 (6 * r0 + c) (a + d)) 3 r0 (c + 1) := by unfold nxC; rw [ec, er]
  rw [en]
  rw [← er] at hl h6 ec
  rw [← er, ← ec]
  rw [← ec] at hl h6
  have hs : ∀ g j, g < 3 ∨ 7 ≤ g → st (st (st (st σ 4 (6 * r0 + c) q) 5 (6 * r0 + c) a) 6 (6 * r0 + c) (a + d)) 3 r0 (c + 1) g j = σ g j := by
    intro g j hg
    rw [st_f (by omega), st_f (by omega), st_f (by omega), st_f (by omega)]
  have hV' : RV (st (st (st (st σ 4 (6 * r0 + c) q) 5 (6 * r0 + c) a) 6 (6 * r0 + c) (a + d)) 3 r0 (c + 1)) := (((hV.xst (f := 4) (by show _ ≤ 9; omega)).xst (f := 5) (by show _ ≤ 1000; omega)).xst (f := 6) (by show _ ≤ 1030; omega)).xst (f := 3) (by show _ ≤ 6; omega)
  have g3 : ∀ r, st (st (st (st σ 4 (6 * r0 + c) q) 5 (6 * r0 + c) a) 6 (6 * r0 + c) (a + d)) 3 r0 (c + 1) 3 r = if r = r0 then c + 1 else σ 3 r := by
    intro r
    by_cases z : r = r0
    · subst z; rw [st_s, if_pos rfl]
    · rw [st_i z, st_f (by decide), st_f (by decide), st_f (by decide), if_neg z]
  have g4 : ∀ j, st (st (st (st σ 4 (6 * r0 + c) q) 5 (6 * r0 + c) a) 6 (6 * r0 + c) (a + d)) 3 r0 (c + 1) 4 j = if j = 6 * r0 + c then q else σ 4 j := by
    intro j
    rw [st_f (by decide), st_f (by decide), st_f (by decide)]
    by_cases z : j = 6 * r0 + c
    · subst z; rw [st_s, if_pos rfl]
    · rw [st_i z, if_neg z]
  have g5 : ∀ j, st (st (st (st σ 4 (6 * r0 + c) q) 5 (6 * r0 + c) a) 6 (6 * r0 + c) (a + d)) 3 r0 (c + 1) 5 j = if j = 6 * r0 + c then a else σ 5 j := by
    intro j
    rw [st_f (by decide), st_f (by decide)]
    by_cases z : j = 6 * r0 + c
    · subst z; rw [st_s, if_pos rfl]
    · rw [st_i z, if_neg z, st_f (by decide)]
  have g6 : ∀ j, st (st (st (st σ 4 (6 * r0 + c) q) 5 (6 * r0 + c) a) 6 (6 * r0 + c) (a + d)) 3 r0 (c + 1) 6 j = if j = 6 * r0 + c then a + d else σ 6 j := by
    intro j
    rw [st_f (by decide)]
    by_cases z : j = 6 * r0 + c
    · subst z; rw [st_s, if_pos rfl]
    · rw [st_i z, if_neg z, st_f (by decide), st_f (by decide)]
  have p4 : ∀ r j, ρC ρ r c q a (a + d) 4 j = if j = 6 * r + c then q else ρ 4 j := by
    intro r j
    unfold ρC
    rw [st_f (by decide), st_f (by decide), st_f (by decide)]
    by_cases z : j = 6 * r + c
    · subst z; rw [st_s, if_pos rfl]
    · rw [st_i z, if_neg z]
  have p5 : ∀ r j, ρC ρ r c q a (a + d) 5 j = if j = 6 * r + c then a else ρ 5 j := by
    intro r j
    unfold ρC
    rw [st_f (by decide), st_f (by decide)]
    by_cases z : j = 6 * r + c
    · subst z; rw [st_s, if_pos rfl]
    · rw [st_i z, if_neg z, st_f (by decide)]
  have p6 : ∀ r j, ρC ρ r c q a (a + d) 6 j = if j = 6 * r + c then a + d else ρ 6 j := by
    intro r j
    unfold ρC
    rw [st_f (by decide)]
    by_cases z : j = 6 * r + c
    · subst z; rw [st_s, if_pos rfl]
    · rw [st_i z, if_neg z, st_f (by decide), st_f (by decide)]
  have p3 : ∀ r j, ρC ρ r c q a (a + d) 3 j = if j = r then c + 1 else ρ 3 j := by
    intro r j
    unfold ρC
    by_cases z : j = r
    · subst z; rw [st_s, if_pos rfl]
    · rw [st_i z, st_f (by decide), st_f (by decide), st_f (by decide), if_neg z]
  have p1 : ∀ r g j, g < 3 → ρC ρ r c q a (a + d) g j = ρ g j := by
    intro r g j hg
    unfold ρC
    rw [st_f (by omega), st_f (by omega), st_f (by omega), st_f (by omega)]
  refine ⟨hI.of7 hV' ⟨fun r k hk => ?_, fun s hs9 => ?_⟩ (by rw [hs 0 0 (by decide)]; exact Nat.le_refl _) (fun g j hg _ => hs g j (by omega)), hZ.of (by rw [hs 8 0 (by decide)]; exact Nat.le_refl _) (fun i _ => ⟨hs _ _ (by decide), hs _ _ (by decide), fun j _ => hs _ _ (by decide)⟩), fun v n hn => ?_, fun v hv => ?_, fun j => ?_⟩
  · rw [g3] at hk
    by_cases z : r = r0
    · subst z
      rw [if_pos rfl] at hk
      by_cases zk : k = c
      · subst zk
        rw [g5, g6, if_pos rfl, if_pos rfl]
        refine ⟨by omega, fun j hj => ?_⟩
        rw [g6, if_neg (by omega)]
        rcases hl with hl | hl
        · omega
        · rw [show 6 * r + k - 1 = 6 * r + (k - 1) by omega] at hl
          by_cases zj : j = k - 1
          · subst zj; exact hl
          · have h1 := hRI.1 r (k - 1) (by omega)
            have := h1.2 j (by omega)
            omega
      · have h1 := hRI.1 r k (by omega)
        rw [g5, g6, if_neg (by omega), if_neg (by omega)]
        refine ⟨h1.1, fun j hj => ?_⟩
        rw [g6, if_neg (by omega)]
        exact h1.2 j hj
    · rw [if_neg z] at hk
      have := b3 r
      have h1 := hRI.1 r k hk
      rw [g5, g6, if_neg (by omega), if_neg (by omega)]
      refine ⟨h1.1, fun j hj => ?_⟩
      rw [g6, if_neg (by omega)]
      exact h1.2 j hj
  · rw [hs 0 0 (by decide)] at hs9
    rw [hs 7 _ (by decide), g3, if_neg (by omega)]
    exact hRI.2 s hs9
  · rw [hs 7 _ (by decide)] at hn
    have b7v := b7 v
    have b7u := b7 u
    obtain ⟨w1, w2, w3⟩ := c1 v n hn
    have hne : 21 * v + n ≠ 21 * u + σ 7 u := by
      intro z
      have : v = u := by omega
      subst this
      omega
    rw [g3, if_neg (by omega), p3, if_neg hne, p1 _ _ _ (by decide), p1 _ _ _ (by decide), hs 1 _ (by decide), hs 2 _ (by decide)]
    refine ⟨w1, w2, fun k hk => ?_⟩
    have := b3 (21 * v + n)
    rw [p4, p5, p6, g4, g5, g6, if_neg (by omega), if_neg (by omega), if_neg (by omega), if_neg (by omega), if_neg (by omega), if_neg (by omega)]
    exact w3 k hk
  · rw [hs 0 0 (by decide)] at hv
    rw [hs 7 _ (by decide), p3, g3]
    have b7v := b7 v
    have b7u := b7 u
    obtain ⟨w1, w2⟩ := c2 v hv
    by_cases z : v = u
    · subst z
      rw [if_pos rfl, if_pos (by omega)]
      refine ⟨rfl, fun k hk => ?_⟩
      rw [p4, p5, p6, g4, g5, g6]
      by_cases zk : k = c
      · subst zk
        rw [← er]
        simp
      · rw [← er] at w2
        rw [← er, if_neg (by omega), if_neg (by omega), if_neg (by omega), if_neg (by omega), if_neg (by omega), if_neg (by omega)]
        exact w2 k (by omega)
    · rw [if_neg (by omega), if_neg (by omega)]
      refine ⟨w1, fun k hk => ?_⟩
      have := b3 (21 * v + 20)
      rw [p4, p5, p6, g4, g5, g6, if_neg (by omega), if_neg (by omega), if_neg (by omega), if_neg (by omega), if_neg (by omega), if_neg (by omega)]
      exact w2 k hk
  · have := c3 j
    rw [p1 _ _ _ (by decide), p1 _ _ _ (by decide), p3, p4, p5, p6]
    refine ⟨this.1, this.2.1, ?_, ?_, ?_, ?_⟩ <;> split <;> omega
/-- a strike -/
theorem HS.strike {σ ρ : Sg} {q d : Nat} (h : HS σ ρ) (hd : d < 61) : HS (nxK σ q d) ρ := by
  obtain ⟨hI, hZ, hC⟩ := h
  have hV := hI.1
  have b23 : σ 23 q ≤ 1060 := hV 23 q
  have b24 : σ 24 0 ≤ 1000 := hV 24 0
  have hs : ∀ g j, g ≠ 23 → nxK σ q d g j = σ g j := fun g j hg => st_f hg
  exact ⟨hI.of7 (hV.xst (f := 23) (by show opS σ q d ≤ 1060; unfold opS; split <;> omega)) (hI.2.2.2.2.2.of (fun g j hg => hs g j (by omega))) (by rw [hs 0 0 (by decide)]; exact Nat.le_refl _) (fun g j _ hg => hs g j hg), hZ.of (by rw [hs 8 0 (by decide)]; exact Nat.le_refl _) (fun i _ => ⟨hs _ _ (by decide), hs _ _ (by decide), fun j _ => hs _ _ (by decide)⟩), hC.of (fun g j hg => hs g j (by omega))⟩
theorem ZV.sm {σ σ' : Sg} {n : Nat} (h : ZV σ) (hm : Sm σ σ' n) (hn : n < σ 8 0) : ZV σ' := by
  have e8 : σ' 8 0 = σ 8 0 := hm.f.2.1
  refine h.of (by omega) (fun i hi => ⟨hm.2.1 14 i (by decide) (by decide) (by decide) (by omega), hm.2.1 16 i (by decide) (by decide) (by decide) (by omega), fun j hj => hm.2.2 _ (Or.inr (by omega))⟩)
theorem ZV.dN {σ : Sg} (hM : IM σ 0) (h : ZV σ) : ∀ n, n ≤ σ 8 0 → ZV (daN σ n)
  | 0, _ => h
  | n + 1, hn => by
    have ih := ZV.dN hM h n (by omega)
    obtain ⟨h1, h2⟩ := hM.go n (by omega)
    have e8 : daN σ n 8 0 = σ 8 0 := h2 8 0 (Or.inl (by decide))
    exact ih.sm (h1.step (by omega)).2 (by omega)
