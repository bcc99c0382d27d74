/-! THE CLASS'S PICTURE: the start, a new ship (mine) -/
theorem cs_25 {σ ρ : Sg} {v : Nat} : cs (st σ 25 0 v) ρ = cs σ ρ := by
  have er : ∀ u n, rcF (st σ 25 0 v) u n = rcF σ u n := fun u n => rcF_c (fun _ => st_f (by decide)) n (fun x _ => st_f (by decide))
  have ed : ∀ u k n, dvF (st σ 25 0 v) u k n = dvF σ u k n := fun u k n => dvF_c (fun _ => st_f (by decide)) n (fun x _ => st_f (by decide))
  funext g j
  unfold cs
  split <;> first | rfl | (unfold lnC; rw [er]; rfl) | (unfold elC; rw [ed]; rfl) | exact st_f (by assumption)
theorem cs_33 {σ ρ : Sg} : cs σ ρ 33 0 = σ 0 0 ∧ cs σ ρ 33 1 = σ 8 0 := ⟨rfl, rfl⟩
theorem cs_30 {σ ρ : Sg} : cs σ ρ 30 0 = σ 0 0 ∧ cs σ ρ 30 1 = σ 8 0 ∧ cs σ ρ 30 2 = σ 20 0 := ⟨rfl, rfl, rfl⟩
/-- the picture of a new object -/
theorem Rp.init {G : mG} {N M : Mem} {b a v r q : Nat} (h1 : M b = some (.inr (5, [.ref a, .ref v, .ref r, .ref q, .int (nI 0), .int (nI 0)]))) (h2 : M a = some (.inr (0, [.int (nI 0), .ref (G.2.2 0), .int (nI 0)]))) (h3 : M v = some (.inr (0, [.int (nI 0), .ref (G.2.2 0), .int (nI 0)]))) (h4 : M r = some (.inr (0, [.int (nI 0), .ref (G.2.2 0), .int (nI 0)]))) (h5 : M q = some (eI (G.2.1 0) 10 (fun _ => 0))) (hd : a ≠ v ∧ a ≠ r ∧ v ≠ r) (hN : ∀ x e, N x = some e → M x = some e ∧ x ≠ b ∧ x ≠ a ∧ x ≠ v ∧ x ≠ r ∧ x ≠ q) : ∃ Γ : Adr, Γ 0 0 = b ∧ Rp G N Γ (cs σ0 σ0) M := by
  have hDm : ∀ k i, Dm (cs σ0 σ0) (fun _ => 0) k i → (k = 0 ∧ i = 0) ∨ (k = 1 ∧ i = 0) ∨ (k = 2 ∧ i < 3) := by
    intro k i h
    have c33 : cs σ0 σ0 33 0 = 0 := rfl
    have c331 : cs σ0 σ0 33 1 = 0 := rfl
    unfold Dm isL isR at h
    rw [c33, c331] at h
    dsimp only at h
    omega
  have hba : b ≠ a := fun z => by rw [z, h2] at h1; cases h1
  have hbv : b ≠ v := fun z => by rw [z, h3] at h1; cases h1
  have hbr : b ≠ r := fun z => by rw [z, h4] at h1; cases h1
  have hbq : b ≠ q := fun z => by rw [z, h5] at h1; cases h1
  have hqa : q ≠ a := fun z => by rw [z, h2] at h5; cases h5
  have hqv : q ≠ v := fun z => by rw [z, h3] at h5; cases h5
  have hqr : q ≠ r := fun z => by rw [z, h4] at h5; cases h5
  obtain ⟨Λ, eΛ⟩ : ∃ z : Adr, z = fun k i => if k = 0 then b else if k = 1 then q else if k = 2 then (if i = 0 then a else if i = 1 then v else r) else G.2.2 0 := ⟨_, rfl⟩
  have l0 : Λ 0 0 = b := by rw [eΛ]; rfl
  have l1 : Λ 1 0 = q := by rw [eΛ]; rfl
  have l20 : Λ 2 0 = a := by rw [eΛ]; rfl
  have l21 : Λ 2 1 = v := by rw [eΛ]; rfl
  have l22 : Λ 2 2 = r := by rw [eΛ]; rfl
  have l3 : ∀ x, Λ 3 x = G.2.2 0 := fun x => by rw [eΛ]; rfl
  refine ⟨Λ, l0, Λ, fun _ => 0, fun _ _ _ => rfl, fun k i hk => ?_, fun k i k' i' hk hk' hz => ?_, fun x hx _ => ?_, fun x e hx => ?_⟩
  · rcases hDm k i hk with ⟨rfl, rfl⟩ | ⟨rfl, rfl⟩ | ⟨rfl, hi⟩
    · exact ⟨_, by rw [l0]; exact h1, by show _ = _; rw [l20, l21, l22, l1]; rfl⟩
    · exact ⟨_, by rw [l1]; exact h5, fun _ => 0, rfl, fun j _ => rfl⟩
    · have : i = 0 ∨ i = 1 ∨ i = 2 := by omega
      rcases this with rfl | rfl | rfl
      · exact ⟨_, by rw [l20]; exact h2, nI 0, by rw [l3]; rfl⟩
      · exact ⟨_, by rw [l21]; exact h3, nI 0, by rw [l3]; rfl⟩
      · exact ⟨_, by rw [l22]; exact h4, nI 0, by rw [l3]; rfl⟩
  · have hi3 : ∀ i, i < 3 → i = 0 ∨ i = 1 ∨ i = 2 := fun i h => by omega
    have e : ∀ k i, ((k = 0 ∧ i = 0) ∨ (k = 1 ∧ i = 0) ∨ (k = 2 ∧ i < 3)) → (k = 0 ∧ i = 0 ∧ Λ k i = b) ∨ (k = 1 ∧ i = 0 ∧ Λ k i = q) ∨ (k = 2 ∧ i = 0 ∧ Λ k i = a) ∨ (k = 2 ∧ i = 1 ∧ Λ k i = v) ∨ (k = 2 ∧ i = 2 ∧ Λ k i = r) := by
      rintro k i (⟨rfl, rfl⟩ | ⟨rfl, rfl⟩ | ⟨rfl, h⟩)
      · exact Or.inl ⟨rfl, rfl, l0⟩
      · exact Or.inr (Or.inl ⟨rfl, rfl, l1⟩)
      · rcases hi3 i h with rfl | rfl | rfl
        · exact Or.inr (Or.inr (Or.inl ⟨rfl, rfl, l20⟩))
        · exact Or.inr (Or.inr (Or.inr (Or.inl ⟨rfl, rfl, l21⟩)))
        · exact Or.inr (Or.inr (Or.inr (Or.inr ⟨rfl, rfl, l22⟩)))
    have A := e k i (hDm k i hk)
    have B := e k' i' (hDm k' i' hk')
    rw [hz] at A
    have d1 := hd.1
    have d2 := hd.2.1
    have d3 := hd.2.2
    omega
  · refine ⟨l3 x, ?_⟩
    have hx3 : x < 3 := by
      have c33 : cs σ0 σ0 33 0 = 0 := rfl
      unfold isL at hx
      rw [c33] at hx
      omega
    have : x = 0 ∨ x = 1 ∨ x = 2 := by omega
    rcases this with rfl | rfl | rfl <;> rfl
  · obtain ⟨m1, n1, n2, n3, n4, n5⟩ := hN x e hx
    refine ⟨m1, fun k i hk => ?_⟩
    rcases hDm k i hk with ⟨rfl, rfl⟩ | ⟨rfl, rfl⟩ | ⟨rfl, hi⟩
    · rw [l0]; exact Ne.symm n1
    · rw [l1]; exact Ne.symm n5
    · have : i = 0 ∨ i = 1 ∨ i = 2 := by omega
      rcases this with rfl | rfl | rfl
      · rw [l20]; exact Ne.symm n2
      · rw [l21]; exact Ne.symm n3
      · rw [l22]; exact Ne.symm n4
/-- what the class's state stands on -/
def ZV (σ : Sg) : Prop := ∀ i, σ 8 0 ≤ i → σ 14 i = 0 ∧ σ 16 i = 0 ∧ ∀ j, j < 200 → σ 17 (200 * i + j) = 0
def HS (σ ρ : Sg) : Prop := IV σ ∧ ZV σ ∧ Cr σ ρ
theorem HS.cl {σ ρ : Sg} (h : HS σ ρ) : Cl (cs σ ρ) := by
  obtain ⟨⟨hV, hS, hD, hL, hZ, hI⟩, -, -⟩ := h
  have b0 : σ 0 0 ≤ 8 := hV 0 0
  have b8 : σ 8 0 ≤ 40 := hV 8 0
  have h20 : σ 20 0 ≤ 40 := by
    have := hS (fun _ => true)
    rw [cnt_true] at this
    have := cnt_le (P := fun i => decide (σ 12 i = 5) && true) (σ 8 0)
    omega
  have h22 : σ 22 0 ≤ 40 := by
    have := hD (fun _ => true)
    rw [cnt_true] at this
    have := cnt_le (P := fun i => decide (σ 12 i = 1) && true) (σ 8 0)
    omega
  refine ⟨Nat.le_refl _, Nat.le_refl _, fun i hi => (hL i hi).1, fun x j hx hl hj => ?_, fun u hu => ?_, b0⟩
  · show cs σ ρ 31 (64 * x + j) < σ 8 0
    rcases hx with rfl | hx
    · have hj : j < σ 20 0 := hj
      rw [cs_31d (by omega)]
      exact (hS.mem hj).1
    · obtain ⟨u, rfl⟩ : ∃ u, x = 20 + u := ⟨x - 20, by omega⟩
      rw [cs_30r] at hj
      have hle := rcF_le (σ := σ) (u := u) (σ 22 0)
      rw [cs_31r (by omega)]
      have h1 := (dvF_lt (σ := σ) (u := u) (k := j) (fun j => by have : σ 21 j < 40 := hV 21 j; omega) (σ 22 0)).mpr hj
      rcases dvF_v (σ := σ) (u := u) (k := j) (P := fun x => x < σ 8 0) (σ 22 0) (fun j hj => (hD.mem hj).1) with h2 | h2
      · exact absurd h2 h1
      · exact h2
  · have hu : u < σ 0 0 := hu
    rw [cs_30t (by omega)]
    exact ⟨hV 7 u, hV 7 u⟩
theorem HS.cnt {σ ρ : Sg} (h : HS σ ρ) : σ 20 0 ≤ 40 ∧ σ 22 0 ≤ 40 := by
  obtain ⟨⟨hV, hS, hD, hL, hZ, hI⟩, -, -⟩ := h
  have b8 : σ 8 0 ≤ 40 := hV 8 0
  constructor
  · have := hS (fun _ => true)
    rw [cnt_true] at this
    have := cnt_le (P := fun i => decide (σ 12 i = 5) && true) (σ 8 0)
    omega
  · have := hD (fun _ => true)
    rw [cnt_true] at this
    have := cnt_le (P := fun i => decide (σ 12 i = 1) && true) (σ 8 0)
    omega
/-- the calls of route r of the class are none -/
def ρz (ρ : Sg) (r : Nat) : Sg := fun g j => if (g ≤ 3 ∧ j = r) ∨ (4 ≤ g ∧ 6 * r ≤ j ∧ j < 6 * r + 6) then 0 else ρ g j
theorem ρz_a {ρ : Sg} {r g : Nat} (h : g ≤ 3) : ρz ρ r g r = 0 := if_pos (Or.inl ⟨h, rfl⟩)
theorem ρz_b {ρ : Sg} {r g j : Nat} (h : 4 ≤ g) (hj : j < 6) : ρz ρ r g (6 * r + j) = 0 := if_pos (Or.inr ⟨h, by omega, by omega⟩)
theorem ρz_c {ρ : Sg} {r g j : Nat} (h : g ≤ 3) (hj : j ≠ r) : ρz ρ r g j = ρ g j := if_neg (by omega)
theorem ρz_d {ρ : Sg} {r g i j : Nat} (h : 4 ≤ g) (hi : i ≠ r) (hj : 6 * i ≤ j ∧ j < 6 * i + 6) : ρz ρ r g j = ρ g j := if_neg (by omega)
theorem rcF_0 {σ : Sg} {u : Nat} : ∀ n, (∀ j, j < n → σ 9 (σ 21 j) ≠ u) → rcF σ u n = 0
  | 0, _ => rfl
  | n + 1, h => by
    show rcF σ u n + (if σ 9 (σ 21 n) = u then 1 else 0) = 0
    rw [rcF_0 n (fun j hj => h j (by omega)), if_neg (h n (by omega))]
/-- a ship is made -/
def KS (n k i : Nat) : Prop := (k = 4 ∧ i = n) ∨ (k = 2 ∧ (i = 10 + n ∨ i = 20 + n)) ∨ ((k = 5 ∨ k = 6 ∨ k = 7 ∨ k = 8) ∧ i = 21 * n)
theorem Rp.ship {G : mG} {N : Mem} {Γ : Adr} {σ ρ : Sg} {M M' : Mem} {n b a v r q y t : Nat} (hR : Rp G N Γ (cs σ ρ) M) (hH : HS σ ρ) (hn : σ 0 0 = n) (h8 : n < 8) (f0 : M b = none) (f1 : M a = none) (f2 : M v = none) (f3 : M r = none) (f4 : M q = none) (f5 : M y = none) (f6 : M t = none)
    (m0 : M' b = some (.inr (4, [.ref a, .ref v, .ref r]))) (m1 : M' a = some (.inr (0, [.int (nI 0), .ref (G.2.2 0), .int (nI 0)]))) (m2 : M' v = some (.inr (0, [.int (nI 0), .ref (G.2.2 0), .int (nI 0)]))) (m3 : M' r = some (.inr (3, [.ref q, .ref y, .ref t, .int (nI 0), .int (nI 0), .int (nI 0)]))) (m4 : M' q = some (eI (G.2.1 0) 6 (fun _ => 0))) (m5 : M' y = some (eI (G.2.1 0) 6 (fun _ => 0))) (m6 : M' t = some (eI (G.2.1 0) 6 (fun _ => 0))) (hd : a ≠ v ∧ q ≠ y ∧ q ≠ t ∧ y ≠ t) (hM : ∀ x e, M x = some e → M' x = some e) :
    ∃ Γ' : Adr, Γ' 0 0 = Γ 0 0 ∧ Γ' 2 0 = Γ 2 0 ∧ Γ' 4 n = b ∧ Rp G N Γ' (st (cs (st σ 0 0 (n + 1)) (ρz ρ (21 * n))) 30 0 n) M' := by
  obtain ⟨⟨hV, hS, hD, hL, hZ, hI⟩, -, -⟩ := id hH
  have h7 : σ 7 n = 0 := (hI.2 n (by omega)).1
  have hrc : rcF σ n (σ 22 0) = 0 := rcF_0 _ (fun j hj => by have := (hL _ (hD.mem hj).1).1; omega)
  obtain ⟨Γ', eΓ⟩ : ∃ z : Adr, z = fun k i => if k = 4 ∧ i = n then b else if k = 2 ∧ i = 10 + n then a else if k = 2 ∧ i = 20 + n then v else if k = 5 ∧ i = 21 * n then r else if k = 6 ∧ i = 21 * n then q else if k = 7 ∧ i = 21 * n then y else if k = 8 ∧ i = 21 * n then t else Γ k i := ⟨_, rfl⟩
  have g4 : Γ' 4 n = b := by rw [eΓ]; simp
  have g2a : Γ' 2 (10 + n) = a := by rw [eΓ]; simp
  have g2v : Γ' 2 (20 + n) = v := by rw [eΓ]; simp
  have g5 : Γ' 5 (21 * n) = r := by rw [eΓ]; simp
  have g6 : Γ' 6 (21 * n) = q := by rw [eΓ]; simp
  have g7 : Γ' 7 (21 * n) = y := by rw [eΓ]; simp
  have g8 : Γ' 8 (21 * n) = t := by rw [eΓ]; simp
  have go : ∀ k i, ¬ KS n k i → Γ' k i = Γ k i := by
    intro k i h
    unfold KS at h
    rw [eΓ]
    show (if _ then _ else _) = _
    rw [if_neg (by omega), if_neg (by omega), if_neg (by omega), if_neg (by omega), if_neg (by omega), if_neg (by omega), if_neg (by omega)]
  have hc : ∀ k i, KS n k i → (k = 4 ∧ i = n) ∨ (k = 2 ∧ i = 10 + n) ∨ (k = 2 ∧ i = 20 + n) ∨ (k = 5 ∧ i = 21 * n) ∨ (k = 6 ∧ i = 21 * n) ∨ (k = 7 ∧ i = 21 * n) ∨ (k = 8 ∧ i = 21 * n) := fun k i h => by unfold KS at h; omega
  obtain ⟨ς', eς⟩ : ∃ z : Sg, z = st (cs (st σ 0 0 (n + 1)) (ρz ρ (21 * n))) 30 0 n := ⟨_, rfl⟩
  have er : ∀ u m, rcF (st σ 0 0 (n + 1)) u m = rcF σ u m := fun u m => rcF_c (fun _ => st_f (by decide)) m (fun x _ => st_f (by decide))
  have ed : ∀ u k m, dvF (st σ 0 0 (n + 1)) u k m = dvF σ u k m := fun u k m => dvF_c (fun _ => st_f (by decide)) m (fun x _ => st_f (by decide))
  have s30 : ∀ x, ς' 30 x = cs σ ρ 30 x := by
    intro x
    rw [eς]
    by_cases z : x = 0
    · subst z; rw [st_s]; exact hn.symm
    · rw [st_i z]
      show lnC (st σ 0 0 (n + 1)) x = lnC σ x
      unfold lnC
      rw [er, if_neg z, if_neg z]
      rfl
  have s31 : ∀ x, ς' 31 x = cs σ ρ 31 x := by
    intro x
    rw [eς, st_f (by decide)]
    show elC (st σ 0 0 (n + 1)) x = elC σ x
    unfold elC
    rw [ed]
    rfl
  have s33 : ς' 33 0 = n + 1 := by rw [eς]; rfl
  have s331 : ς' 33 1 = cs σ ρ 33 1 := by rw [eς]; rfl
  have s35 : ∀ x, ς' 35 x = cs σ ρ 35 x := fun x => by rw [eς]; rfl
  have so : ∀ g x, 9 ≤ g → g ≤ 24 → ς' g x = cs σ ρ g x := by
    intro g x h1 h2
    rw [eς, st_f (by omega)]
    have : g = 9 ∨ g = 10 ∨ g = 11 ∨ g = 12 ∨ g = 13 ∨ g = 14 ∨ g = 15 ∨ g = 16 ∨ g = 17 ∨ g = 18 ∨ g = 19 ∨ g = 20 ∨ g = 21 ∨ g = 22 ∨ g = 23 ∨ g = 24 := by omega
    rcases this with rfl | rfl | rfl | rfl | rfl | rfl | rfl | rfl | rfl | rfl | rfl | rfl | rfl | rfl | rfl | rfl <;> rfl
  have sρ : ∀ g x, 1 ≤ g → g ≤ 6 → ς' g x = ρz ρ (21 * n) g x ∧ cs σ ρ g x = ρ g x := by
    intro g x h1 h2
    rw [eς, st_f (by omega)]
    have : g = 1 ∨ g = 2 ∨ g = 3 ∨ g = 4 ∨ g = 5 ∨ g = 6 := by omega
    rcases this with rfl | rfl | rfl | rfl | rfl | rfl <;> exact ⟨rfl, rfl⟩
  have c33 : cs σ ρ 33 0 = n := hn
  have c30n : cs σ ρ 30 (10 + n) = 0 := by rw [cs_30t (by omega)]; exact h7
  have c30v : cs σ ρ 30 (20 + n) = 0 := by rw [cs_30r]; exact hrc
  have c35n : cs σ ρ 35 n = 0 := h7
  refine ⟨Γ', go 0 0 (by unfold KS; omega), go 2 0 (by unfold KS; omega), g4, ?_⟩
  rw [← eς]
  refine Rp.new (KS n) (fun _ _ => False) (hdec := fun i => by unfold KS; infer_instance) hR hH.cl (fun i h => by unfold KS at h; omega) (fun cp k i hk hdm => ?_) (fun k i h => h.elim) (fun cp k i hcp hdm => ?_) (fun cp k i f j hdm _ hr => ?_) (fun x hx => ?_) go (fun x e hx _ => hM x e hx) (fun k i hk => ?_) (fun k i h => h.elim) (fun k i k' i' hk hk' hz => ?_)
  · unfold KS at hk
    unfold Dm isL isR at hdm
    rw [c33] at hdm
    omega
  · have hcp1 := hcp (10 + n) (Or.inr (Or.inl ⟨rfl, Or.inl rfl⟩))
    have hcp2 := hcp (20 + n) (Or.inr (Or.inl ⟨rfl, Or.inr rfl⟩))
    have hL : isL ς' i → isL (cs σ ρ) i ∨ i = 10 + n ∨ i = 20 + n := by
      unfold isL
      rw [s33, c33]
      omega
    have hRt : isR ς' i → isR (cs σ ρ) i ∨ i = 21 * n := by
      unfold isR
      rw [s33, c33, s30, s35]
      rintro ⟨h1, h2⟩
      by_cases e1 : i / 21 = n
      · right
        rw [e1, c30n, c35n] at h2
        omega
      · exact Or.inl ⟨by omega, h2⟩
    unfold Dm at hdm
    rcases hdm with h | h | ⟨rfl, h⟩ | ⟨rfl, h, hp⟩ | ⟨rfl, h⟩ | ⟨h0, h⟩ | ⟨h0, h⟩
    · exact Or.inr (Or.inl h)
    · exact Or.inr (Or.inr (Or.inl h))
    · rcases hL h with h | h
      · exact Or.inr (Or.inr (Or.inr (Or.inl ⟨rfl, h⟩)))
      · exact Or.inl (Or.inr (Or.inl ⟨rfl, h⟩))
    · rcases hL h with h | h | h
      · exact Or.inr (Or.inr (Or.inr (Or.inr (Or.inl ⟨rfl, h, hp⟩))))
      · rw [h, hcp1] at hp; exact absurd hp (Nat.lt_irrefl 0)
      · rw [h, hcp2] at hp; exact absurd hp (Nat.lt_irrefl 0)
    · rw [s33] at h
      by_cases e : i = n
      · exact Or.inl (Or.inl ⟨rfl, e⟩)
      · exact Or.inr (Or.inr (Or.inr (Or.inr (Or.inr (Or.inl ⟨rfl, by rw [c33]; omega⟩)))))
    · rcases hRt h with h | h
      · exact Or.inr (Or.inr (Or.inr (Or.inr (Or.inr (Or.inr (Or.inl ⟨h0, h⟩))))))
      · exact Or.inl (Or.inr (Or.inr ⟨h0, h⟩))
    · exact Or.inr (Or.inr (Or.inr (Or.inr (Or.inr (Or.inr (Or.inr ⟨h0, by rw [← s331]; exact h⟩))))))
  · have hkn : (k = 5 ∨ k = 6 ∨ k = 7 ∨ k = 8) → i ≠ 21 * n := by
      intro h1 h2
      unfold Dm isR at hdm
      rw [c33] at hdm
      omega
    unfold rds at hr
    split at hr
    · rcases hr with ⟨rfl | rfl, rfl⟩ <;> exact so _ _ (by decide) (by decide)
    · obtain ⟨rfl, -⟩ := hr; exact so _ _ (by decide) (by decide)
    · obtain ⟨rfl, rfl⟩ := hr; exact s30 _
    · rcases hr with ⟨rfl, rfl⟩ | ⟨rfl, -⟩
      · exact s30 _
      · exact s31 _
    · obtain ⟨rfl, rfl⟩ := hr; exact s35 _
    · obtain ⟨h1, rfl⟩ := hr
      rw [(sρ f j (by omega) (by omega)).1, (sρ f j (by omega) (by omega)).2]
      exact ρz_c (by omega) (hkn (by omega))
    · obtain ⟨rfl, h1⟩ := hr
      rw [(sρ 4 j (by omega) (by omega)).1, (sρ 4 j (by omega) (by omega)).2]
      exact ρz_d (by omega) (hkn (by omega)) h1
    · obtain ⟨rfl, h1⟩ := hr
      rw [(sρ 5 j (by omega) (by omega)).1, (sρ 5 j (by omega) (by omega)).2]
      exact ρz_d (by omega) (hkn (by omega)) h1
    · obtain ⟨rfl, h1⟩ := hr
      rw [(sρ 6 j (by omega) (by omega)).1, (sρ 6 j (by omega) (by omega)).2]
      exact ρz_d (by omega) (hkn (by omega)) h1
    · exact so _ _ (by omega) (by omega)
    · obtain ⟨rfl, -⟩ := hr; exact so _ _ (by decide) (by decide)
    · obtain ⟨rfl, -⟩ := hr; exact so _ _ (by decide) (by decide)
    · exact hr.elim
  · rw [s30]
    unfold KS at hx
    have : x = 10 + n ∨ x = 20 + n := by omega
    rcases this with rfl | rfl
    · exact c30n
    · exact c30v
  · have z1 := (sρ 1 (21 * n) (by omega) (by omega)).1.trans (ρz_a (by decide))
    have z2 := (sρ 2 (21 * n) (by omega) (by omega)).1.trans (ρz_a (by decide))
    have z3 := (sρ 3 (21 * n) (by omega) (by omega)).1.trans (ρz_a (by decide))
    rcases hc k i hk with ⟨rfl, rfl⟩ | ⟨rfl, rfl⟩ | ⟨rfl, rfl⟩ | ⟨rfl, rfl⟩ | ⟨rfl, rfl⟩ | ⟨rfl, rfl⟩ | ⟨rfl, rfl⟩
    · rw [g4]
      refine ⟨f0, _, m0, fun Λ cp hl hx => ?_⟩
      show _ = _
      rw [hl 2 _ (by decide), hl 2 _ (by decide), hl 5 _ (by decide), s35, c35n, g2a, g2v, Nat.add_zero, g5]
    · rw [g2a]
      refine ⟨f1, _, m1, fun Λ cp hl hx => ⟨nI 0, ?_⟩⟩
      rw [hx _ (Or.inr (Or.inl ⟨rfl, Or.inl rfl⟩)), s30, c30n]
    · rw [g2v]
      refine ⟨f2, _, m2, fun Λ cp hl hx => ⟨nI 0, ?_⟩⟩
      rw [hx _ (Or.inr (Or.inl ⟨rfl, Or.inr rfl⟩)), s30, c30v]
    · rw [g5]
      refine ⟨f3, _, m3, fun Λ cp hl hx => ?_⟩
      show _ = _
      rw [hl 6 _ (by decide), hl 7 _ (by decide), hl 8 _ (by decide), g6, g7, g8, z1, z2, z3]
    · rw [g6]
      exact ⟨f4, _, m4, fun Λ cp hl hx => ⟨_, rfl, fun j hj => by rw [(sρ 4 _ (by omega) (by omega)).1, ρz_b (by decide) hj]; rfl⟩⟩
    · rw [g7]
      exact ⟨f5, _, m5, fun Λ cp hl hx => ⟨_, rfl, fun j hj => by rw [(sρ 5 _ (by omega) (by omega)).1, ρz_b (by decide) hj]; rfl⟩⟩
    · rw [g8]
      exact ⟨f6, _, m6, fun Λ cp hl hx => ⟨_, rfl, fun j hj => by rw [(sρ 6 _ (by omega) (by omega)).1, ρz_b (by decide) hj]; rfl⟩⟩
  · have n1 : b ≠ a := fun z => by rw [z, m1] at m0; cases m0
    have n2 : b ≠ v := fun z => by rw [z, m2] at m0; cases m0
    have n3 : b ≠ r := fun z => by rw [z, m3] at m0; cases m0
    have n4 : b ≠ q := fun z => by rw [z, m4] at m0; cases m0
    have n5 : b ≠ y := fun z => by rw [z, m5] at m0; cases m0
    have n6 : b ≠ t := fun z => by rw [z, m6] at m0; cases m0
    have n7 : r ≠ a := fun z => by rw [z, m1] at m3; cases m3
    have n8 : r ≠ v := fun z => by rw [z, m2] at m3; cases m3
    have n9 : r ≠ q := fun z => by rw [z, m4] at m3; cases m3
    have n10 : r ≠ y := fun z => by rw [z, m5] at m3; cases m3
    have n11 : r ≠ t := fun z => by rw [z, m6] at m3; cases m3
    have n12 : q ≠ a := fun z => by rw [z, m1] at m4; cases m4
    have n13 : q ≠ v := fun z => by rw [z, m2] at m4; cases m4
    have n14 : y ≠ a := fun z => by rw [z, m1] at m5; cases m5
    have n15 : y ≠ v := fun z => by rw [z, m2] at m5; cases m5
    have n16 : t ≠ a := fun z => by rw [z, m1] at m6; cases m6
    have n17 : t ≠ v := fun z => by rw [z, m2] at m6; cases m6
    obtain ⟨d1, d2, d3, d4⟩ := hd
    have key : ∀ k i, KS n k i → (k = 4 ∧ i = n ∧ Γ' k i = b) ∨ (k = 2 ∧ i = 10 + n ∧ Γ' k i = a) ∨ (k = 2 ∧ i = 20 + n ∧ Γ' k i = v) ∨ (k = 5 ∧ i = 21 * n ∧ Γ' k i = r) ∨ (k = 6 ∧ i = 21 * n ∧ Γ' k i = q) ∨ (k = 7 ∧ i = 21 * n ∧ Γ' k i = y) ∨ (k = 8 ∧ i = 21 * n ∧ Γ' k i = t) := by
      intro k i h
      rcases hc k i h with ⟨rfl, rfl⟩ | ⟨rfl, rfl⟩ | ⟨rfl, rfl⟩ | ⟨rfl, rfl⟩ | ⟨rfl, rfl⟩ | ⟨rfl, rfl⟩ | ⟨rfl, rfl⟩
      · exact Or.inl ⟨rfl, rfl, g4⟩
      · exact Or.inr (Or.inl ⟨rfl, rfl, g2a⟩)
      · exact Or.inr (Or.inr (Or.inl ⟨rfl, rfl, g2v⟩))
      · exact Or.inr (Or.inr (Or.inr (Or.inl ⟨rfl, rfl, g5⟩)))
      · exact Or.inr (Or.inr (Or.inr (Or.inr (Or.inl ⟨rfl, rfl, g6⟩))))
      · exact Or.inr (Or.inr (Or.inr (Or.inr (Or.inr (Or.inl ⟨rfl, rfl, g7⟩)))))
      · exact Or.inr (Or.inr (Or.inr (Or.inr (Or.inr (Or.inr ⟨rfl, rfl, g8⟩)))))
    have A := key k i hk
    have B := key k' i' hk'
    rw [hz] at A
    generalize Γ' k' i' = w at A B
    rcases A with ⟨p1, p2, p3⟩ | ⟨p1, p2, p3⟩ | ⟨p1, p2, p3⟩ | ⟨p1, p2, p3⟩ | ⟨p1, p2, p3⟩ | ⟨p1, p2, p3⟩ | ⟨p1, p2, p3⟩ <;> rcases B with ⟨r1, r2, r3⟩ | ⟨r1, r2, r3⟩ | ⟨r1, r2, r3⟩ | ⟨r1, r2, r3⟩ | ⟨r1, r2, r3⟩ | ⟨r1, r2, r3⟩ | ⟨r1, r2, r3⟩ <;> first | exact ⟨p1.trans r1.symm, p2.trans r2.symm⟩ | exact absurd (p3.symm.trans r3) (by assumption) | exact absurd (r3.symm.trans p3) (by assumption)
