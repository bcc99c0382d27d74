/-! WHAT THE STATES STAND ON: tell, pass, post (mine) -/
theorem cpN_at {S : Sg} {b d : Nat} (g j : Nat) : ∀ m, cpN S b d m g j = if (g = 4 ∨ g = 5 ∨ g = 6) ∧ b ≤ j ∧ j < b + m then S g (d + (j - b)) else S g j
  | 0 => (if_neg (by omega)).symm
  | m + 1 => by
    show st (st (st (cpN S b d m) 4 (b + m) (S 4 (d + m))) 5 (b + m) (S 5 (d + m))) 6 (b + m) (S 6 (d + m)) g j = _
    by_cases z : (g = 4 ∨ g = 5 ∨ g = 6) ∧ j = b + m
    · obtain ⟨zg, rfl⟩ := z
      rw [if_pos ⟨zg, by omega, by omega⟩, show b + m - b = m by omega]
      rcases zg with rfl | rfl | rfl
      · rw [st_f (by decide), st_f (by decide), st_s]
      · rw [st_f (by decide), st_s]
      · rw [st_s]
    · have e : st (st (st (cpN S b d m) 4 (b + m) (S 4 (d + m))) 5 (b + m) (S 5 (d + m))) 6 (b + m) (S 6 (d + m)) g j = cpN S b d m g j := by
        unfold st
        rw [if_neg (by omega), if_neg (by omega), if_neg (by omega)]
      rw [e, cpN_at g j m]
      by_cases y : (g = 4 ∨ g = 5 ∨ g = 6) ∧ b ≤ j ∧ j < b + m
      · rw [if_pos y, if_pos ⟨y.1, y.2.1, by omega⟩]
      · rw [if_neg y, if_neg (fun w => y ⟨w.1, w.2.1, by omega⟩)]
/-- what tell does, place by place -/
theorem nxT_at {σ : Sg} {u q r r0 c : Nat} (hr : r = 21 * u + σ 7 u) (hr0 : r0 = 21 * u + 20) (hc : c = σ 3 r0) (hn : σ 7 u < 20) :
    (∀ j, nxT σ u q 1 j = if j = r then q else σ 1 j) ∧ (∀ j, nxT σ u q 2 j = if j = r then σ 24 0 else σ 2 j) ∧ (∀ j, nxT σ u q 3 j = if j = r0 then 0 else if j = r then c else σ 3 j) ∧ (∀ g j, (g = 4 ∨ g = 5 ∨ g = 6) → nxT σ u q g j = if 6 * r ≤ j ∧ j < 6 * r + c then σ g (6 * r0 + (j - 6 * r)) else σ g j) ∧ (∀ j, nxT σ u q 7 j = if j = u then σ 7 u + 1 else σ 7 j) ∧ ∀ g j, g = 0 ∨ 8 ≤ g → nxT σ u q g j = σ g j := by
  have en : nxT σ u q = st (st (cpN (st (st (st σ 1 r q) 2 r (σ 24 0)) 3 r c) (6 * r) (6 * r0) c) 3 r0 0) 7 u (σ 7 u + 1) := by unfold nxT; rw [hc, hr, hr0]
  rw [en]
  refine ⟨fun j => ?_, fun j => ?_, fun j => ?_, fun g j hg => ?_, fun j => ?_, fun g j hg => ?_⟩
  · rw [st_f (by decide), st_f (by decide), cpN_at, if_neg (by omega), st_f (by decide), st_f (by decide)]
    by_cases z : j = r
    · subst z; rw [st_s, if_pos rfl]
    · rw [st_i z, if_neg z]
  · rw [st_f (by decide), st_f (by decide), cpN_at, if_neg (by omega), st_f (by decide)]
    by_cases z : j = r
    · subst z; rw [st_s, if_pos rfl]
    · rw [st_i z, if_neg z, st_f (by decide)]
  · rw [st_f (by decide)]
    by_cases z0 : j = r0
    · subst z0; rw [st_s, if_pos rfl]
    · rw [st_i z0, if_neg z0, cpN_at, if_neg (by omega)]
      by_cases z : j = r
      · subst z; rw [st_s, if_pos rfl]
      · rw [st_i z, if_neg z, st_f (by decide), st_f (by decide)]
  · rw [st_f (by omega), st_f (by omega), cpN_at]
    have es : ∀ x, st (st (st σ 1 r q) 2 r (σ 24 0)) 3 r c g x = σ g x := fun x => by rw [st_f (by omega), st_f (by omega), st_f (by omega)]
    rw [es, es]
    by_cases y : 6 * r ≤ j ∧ j < 6 * r + c
    · rw [if_pos y, if_pos ⟨hg, y⟩]
    · rw [if_neg y, if_neg (fun w => y w.2)]
  · by_cases z : j = u
    · subst z; rw [st_s, if_pos rfl]
    · rw [st_i z, if_neg z, st_f (by decide), cpN_at, if_neg (by omega), st_f (by decide), st_f (by decide), st_f (by decide)]
  · rw [st_f (by omega), st_f (by omega), cpN_at, if_neg (by omega), st_f (by omega), st_f (by omega), st_f (by omega)]
def ρT (ρ : Sg) (r q d : Nat) : Sg := st (st (ρz ρ (r + 1)) 1 r q) 2 r d
theorem ρT_at {ρ : Sg} {r q d : Nat} : (∀ j, ρT ρ r q d 1 j = if j = r then q else if j = r + 1 then 0 else ρ 1 j) ∧ (∀ j, ρT ρ r q d 2 j = if j = r then d else if j = r + 1 then 0 else ρ 2 j) ∧ (∀ j, ρT ρ r q d 3 j = if j = r + 1 then 0 else ρ 3 j) ∧ (∀ g j, (g = 4 ∨ g = 5 ∨ g = 6) → ρT ρ r q d g j = if 6 * (r + 1) ≤ j ∧ j < 6 * (r + 1) + 6 then 0 else ρ g j) := by
  have hz : ∀ g j, g ≤ 3 → ρz ρ (r + 1) g j = if j = r + 1 then 0 else ρ g j := by
    intro g j hg
    by_cases z : j = r + 1
    · subst z; rw [ρz_a hg, if_pos rfl]
    · rw [ρz_c hg z, if_neg z]
  refine ⟨fun j => ?_, fun j => ?_, fun j => ?_, fun g j hg => ?_⟩
  · unfold ρT
    rw [st_f (by decide)]
    by_cases z : j = r
    · subst z; rw [st_s, if_pos rfl]
    · rw [st_i z, if_neg z, hz _ _ (by decide)]
  · unfold ρT
    by_cases z : j = r
    · subst z; rw [st_s, if_pos rfl]
    · rw [st_i z, if_neg z, st_f (by decide), hz _ _ (by decide)]
  · unfold ρT
    rw [st_f (by decide), st_f (by decide), hz _ _ (by decide)]
  · unfold ρT
    rw [st_f (by omega), st_f (by omega)]
    by_cases y : 6 * (r + 1) ≤ j ∧ j < 6 * (r + 1) + 6
    · rw [if_pos y]; exact if_pos (Or.inr ⟨by omega, y⟩)
    · rw [if_neg y]; exact if_neg (by omega)
theorem HS.tell {σ ρ : Sg} {u q r : Nat} (h : HS σ ρ) (hu : u < σ 0 0) (hq : q < 10) (hn : σ 7 u < 20) (hr : r = 21 * u + σ 7 u) : HS (nxT σ u q) (ρT ρ r q (σ 24 0)) := by
  obtain ⟨hI, hZ, c1, c2, c3⟩ := h
  have hV := hI.1
  have hRI := hI.2.2.2.2.2
  have b0 : σ 0 0 ≤ 8 := hV 0 0
  have b24 : σ 24 0 ≤ 1000 := hV 24 0
  have b7 : ∀ v, σ 7 v ≤ 20 := fun v => hV 7 v
  have b3 : ∀ r, σ 3 r ≤ 6 := fun r => hV 3 r
  obtain ⟨r0, er0⟩ : ∃ r, r = 21 * u + 20 := ⟨_, rfl⟩
  obtain ⟨c, ec⟩ : ∃ c, c = σ 3 r0 := ⟨_, rfl⟩
  obtain ⟨t1, t2, t3, t4, t7, to⟩ := nxT_at (q := q) hr er0 ec hn
  obtain ⟨p1, p2, p3, p4⟩ := ρT_at (ρ := ρ) (r := r) (q := q) (d := σ 24 0)
  have hV' : RV (nxT σ u q) := by
    intro g j
    by_cases g0 : g = 0 ∨ 8 ≤ g
    · rw [to g j g0]; exact hV g j
    · have : g = 1 ∨ g = 2 ∨ g = 3 ∨ (g = 4 ∨ g = 5 ∨ g = 6) ∨ g = 7 := by omega
      rcases this with rfl | rfl | rfl | hg | rfl
      · rw [t1]; split
        · show q ≤ 9; omega
        · exact hV 1 j
      · rw [t2]; split
        · exact b24
        · exact hV 2 j
      · rw [t3]; split
        · show 0 ≤ 6; omega
        · split
          · have := b3 r0; show c ≤ 6; omega
          · exact hV 3 j
      · rw [t4 g j hg]; split
        · exact hV g _
        · exact hV g j
      · rw [t7]; split
        · show σ 7 u + 1 ≤ 20; omega
        · exact hV 7 j
  refine ⟨hI.of7 hV' ⟨fun s k hk => ?_, fun s hs => ?_⟩ (by rw [to 0 0 (by decide)]; exact Nat.le_refl _) (fun g j hg _ => to g j (Or.inr hg)), hZ.of (by rw [to 8 0 (by decide)]; exact Nat.le_refl _) (fun i _ => ⟨to _ _ (by decide), to _ _ (by decide), fun j _ => to _ _ (by decide)⟩), fun v n hvn => ?_, fun v hv => ?_, fun j => ?_⟩
  · rw [t3] at hk
    by_cases z0 : s = r0
    · rw [if_pos z0] at hk; exact absurd hk (Nat.not_lt_zero k)
    · rw [if_neg z0] at hk
      by_cases z : s = r
      · subst z
        rw [if_pos rfl] at hk
        have hb := b3 r0
        obtain ⟨a1, a2⟩ := hRI.1 r0 k (by omega)
        rw [t4 5 _ (by decide), t4 6 _ (by decide), if_pos ⟨by omega, by omega⟩, if_pos ⟨by omega, by omega⟩, show 6 * s + k - 6 * s = k by omega]
        refine ⟨a1, fun j hj => ?_⟩
        rw [t4 6 _ (by decide), if_pos ⟨by omega, by omega⟩, show 6 * s + j - 6 * s = j by omega]
        exact a2 j hj
      · rw [if_neg z] at hk
        have hb := b3 s
        have hb0 := b3 r0
        obtain ⟨a1, a2⟩ := hRI.1 s k hk
        rw [t4 5 _ (by decide), t4 6 _ (by decide), if_neg (by omega), if_neg (by omega)]
        refine ⟨a1, fun j hj => ?_⟩
        rw [t4 6 _ (by decide), if_neg (by omega)]
        exact a2 j hj
  · rw [to 0 0 (by decide)] at hs
    rw [t7, t3, if_neg (by omega), if_neg (by omega), if_neg (by omega)]
    exact hRI.2 s hs
  · rw [t7] at hvn
    have b7v := b7 v
    by_cases zv : v = u
    · subst zv
      rw [if_pos rfl] at hvn
      by_cases zn : n = σ 7 v
      · subst zn
        obtain ⟨w1, w2⟩ := c2 v hu
        rw [← hr, ← er0, ← ec] at w1
        rw [← er0] at w2
        rw [← hr]
        rw [← hr] at w2
        rw [p3, if_neg (by omega), t3, if_neg (by omega), if_pos rfl, p1, p2, t1, t2, if_pos rfl, if_pos rfl, if_pos rfl, if_pos rfl]
        refine ⟨w1, ⟨rfl, rfl⟩, fun k hk => ?_⟩
        have hb := b3 r0
        obtain ⟨x4, x5, x6⟩ := w2 k (by omega)
        rw [p4 4 _ (by decide), p4 5 _ (by decide), p4 6 _ (by decide), t4 4 _ (by decide), t4 5 _ (by decide), t4 6 _ (by decide), if_neg (by omega), if_pos ⟨by omega, by omega⟩, if_neg (by omega), if_pos ⟨by omega, by omega⟩, if_neg (by omega), if_pos ⟨by omega, by omega⟩, show 6 * r + k - 6 * r = k by omega]
        exact ⟨x4, x5, x6⟩
      · obtain ⟨w1, w2, w3⟩ := c1 v n (by omega)
        rw [p3, if_neg (by omega), t3, if_neg (by omega), if_neg (by omega), p1, p2, t1, t2, if_neg (by omega), if_neg (by omega), if_neg (by omega), if_neg (by omega), if_neg (by omega), if_neg (by omega)]
        refine ⟨w1, w2, fun k hk => ?_⟩
        have hb := b3 (21 * v + n)
        have hb0 := b3 r0
        rw [p4 4 _ (by decide), p4 5 _ (by decide), p4 6 _ (by decide), t4 4 _ (by decide), t4 5 _ (by decide), t4 6 _ (by decide), if_neg (by omega), if_neg (by omega), if_neg (by omega), if_neg (by omega), if_neg (by omega), if_neg (by omega)]
        exact w3 k hk
    · rw [if_neg zv] at hvn
      obtain ⟨w1, w2, w3⟩ := c1 v n hvn
      rw [p3, if_neg (by omega), t3, if_neg (by omega), if_neg (by omega), p1, p2, t1, t2, if_neg (by omega), if_neg (by omega), if_neg (by omega), if_neg (by omega), if_neg (by omega), if_neg (by omega)]
      refine ⟨w1, w2, fun k hk => ?_⟩
      have hb := b3 (21 * v + n)
      have hb0 := b3 r0
      rw [p4 4 _ (by decide), p4 5 _ (by decide), p4 6 _ (by decide), t4 4 _ (by decide), t4 5 _ (by decide), t4 6 _ (by decide), if_neg (by omega), if_neg (by omega), if_neg (by omega), if_neg (by omega), if_neg (by omega), if_neg (by omega)]
      exact w3 k hk
  · rw [to 0 0 (by decide)] at hv
    have b7v := b7 v
    rw [t7]
    by_cases zv : v = u
    · subst zv
      rw [if_pos rfl, p3, if_pos (by omega), t3, if_pos (by omega)]
      exact ⟨rfl, fun k hk => absurd hk (Nat.not_lt_zero k)⟩
    · obtain ⟨w1, w2⟩ := c2 v hv
      rw [if_neg zv, p3, if_neg (by omega), t3, if_neg (by omega), if_neg (by omega)]
      refine ⟨w1, fun k hk => ?_⟩
      have hb := b3 (21 * v + 20)
      have hb0 := b3 r0
      rw [p4 4 _ (by decide), p4 5 _ (by decide), p4 6 _ (by decide), t4 4 _ (by decide), t4 5 _ (by decide), t4 6 _ (by decide), if_neg (by omega), if_neg (by omega), if_neg (by omega), if_neg (by omega), if_neg (by omega), if_neg (by omega)]
      exact w2 k hk
  · have := c3 j
    rw [p1, p2, p3, p4 4 _ (by decide), p4 5 _ (by decide), p4 6 _ (by decide)]
    refine ⟨?_, ?_, ?_, ?_, ?_, ?_⟩ <;> (repeat' split) <;> omega
/-- days pass -/
theorem ZV.xoff {σ : Sg} (h : ZV σ) (hV : RV σ) (hS : LX 19 20 5 σ) (hL : ∀ i, i < σ 8 0 → σ 12 i = 5 → σ 18 i ≤ 120 ∧ hasP σ i) : ZV (off σ) := by
  obtain ⟨a1, a2, a3, a4⟩ := opN_ok hV hS hL (σ 20 0) (Nat.le_refl _)
  have o : ∀ g j, g ≠ 20 → off σ g j = opN σ (σ 20 0) g j := fun g j h => st_f h
  have e8 : off σ 8 0 = σ 8 0 := (o 8 0 (by decide)).trans (a2 8 0 (by decide) (by decide) (by decide))
  refine h.of (by omega) (fun i hi => ⟨(o 14 i (by decide)).trans (a2 14 i (by decide) (by decide) (by decide)), (o 16 i (by decide)).trans (a2 16 i (by decide) (by decide) (by decide)), fun j hj => (o 17 _ (by decide)).trans ((a3 i (fun k hk => ?_)).2.2 _ (by omega) (by omega))⟩)
  have := (hS.mem hk).1
  omega
theorem ZV.xdy {σ : Sg} (hI : IV σ) (hd : σ 24 0 < 1000) (h : ZV σ) : ZV (dy σ) := by
  have hM := IM.of hI hd
  have hA : ZV (dyA σ) := ZV.dN hM (h.of (by rw [st_f (by decide)]; exact Nat.le_refl _) (fun i _ => ⟨st_f (by decide), st_f (by decide), fun j _ => st_f (by decide)⟩)) (σ 8 0) (by rw [st_f (by decide)]; exact Nat.le_refl _)
  obtain ⟨k1, k2⟩ := hM.go (σ 8 0) (by rw [st_f (by decide)]; exact Nat.le_refl _)
  obtain ⟨r1, r2, r3, r4, r5, r6, r7⟩ := k1
  have e8 : dyA σ 8 0 = σ 8 0 := (k2 8 0 (Or.inl (by decide))).trans (st_f (by decide))
  unfold dy
  split
  · exact hA.xoff r1 r2 (fun i hi h5 => by obtain ⟨_, _, c, _, _, f⟩ := r4 i (by rw [e8] at hi; exact hi) hi; exact ⟨f.2.2.2.1 h5, c⟩)
  · exact hA
theorem HS.day {σ ρ : Sg} (h : HS σ ρ) (hd : σ 24 0 < 1000) : HS (dy σ) ρ := by
  obtain ⟨hI, hZ, hC⟩ := h
  obtain ⟨d1, d2, d3, d4, d5⟩ := dy_ok hI hd
  exact ⟨d1, ZV.xdy hI hd hZ, hC.of (fun g j hg => d2 g j (by omega))⟩
theorem HS.days {σ ρ : Sg} (h : HS σ ρ) : ∀ n, σ 24 0 + n ≤ 1000 → HS (dyN σ n) ρ ∧ dyN σ n 24 0 = σ 24 0 + n
  | 0, _ => ⟨h, rfl⟩
  | n + 1, hn => by
    obtain ⟨h1, h2⟩ := HS.days h n (by omega)
    have hd : dyN σ n 24 0 < 1000 := by omega
    obtain ⟨d1, d2, d3, d4, d5⟩ := dy_ok h1.1 hd
    refine ⟨h1.day hd, ?_⟩
    show dy (dyN σ n) 24 0 = _
    rw [d3, h2]
    omega
/-- a letter is posted -/
theorem ZV.xpo {σ : Sg} {q u h : Nat} (hI : IV σ) (hZ : ZV σ) (h8 : σ 8 0 < 40) (hq : q < 10) (hu : u < σ 0 0) (hh : h < 10 ∨ h = 4294967295) : ZV (po σ q u h) := by
  obtain ⟨b1, b2, b3, b4, b5⟩ := poW_ok hI h8 hq hu hh
  obtain ⟨c1, c2, c3⟩ := ha_ok b1 b2
  have e8 : poW σ q u h 8 0 = σ 8 0 + 1 := by rw [b4 _ _ (by decide), poN_8]
  have g8 : ha (poW σ q u h) (σ 8 0) 8 0 = poW σ q u h 8 0 := c1.f.2.1
  show ZV (ha (poW σ q u h) (σ 8 0))
  refine hZ.of (by omega) (fun i hi => ?_)
  have hne : i ≠ σ 8 0 := by omega
  refine ⟨?_, ?_, fun j hj => ?_⟩
  · rw [c1.2.1 14 i (by decide) (by decide) (by decide) hne, b4 14 i (by decide), poN_f (by decide)]
  · rw [c1.2.1 16 i (by decide) (by decide) (by decide) hne, b4 16 i (by decide), poN_f (by decide)]
  · rw [c1.2.2 _ (by omega), b3.2.2 _ (by omega), poN_f (by decide)]
theorem HS.post {σ ρ : Sg} {q u h : Nat} (hH : HS σ ρ) (h8 : σ 8 0 < 40) (hq : q < 10) (hu : u < σ 0 0) (hh : h < 10 ∨ h = 4294967295) : HS (po σ q u h) ρ := by
  obtain ⟨hI, hZ, hC⟩ := hH
  obtain ⟨b1, b2, b3, b4, b5⟩ := poW_ok hI h8 hq hu hh
  obtain ⟨c1, c2, c3⟩ := ha_ok b1 b2
  refine ⟨po_ok hI h8 hq hu hh, ZV.xpo hI hZ h8 hq hu hh, hC.of (fun g j hg => ?_)⟩
  show ha (poW σ q u h) (σ 8 0) g j = _
  rw [c1.1 g j (Or.inl (by omega)), b4 g j (by omega), poN_f (by omega)]
