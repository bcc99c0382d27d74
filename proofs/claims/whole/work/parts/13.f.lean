/-! THE CLASS'S PICTURE: a new letter, a new draft; the other lists grow (mine) -/
def KL (m k i : Nat) : Prop := (k = 9 ∨ k = 10 ∨ k = 11) ∧ i = m
theorem Rp.letter {G : mG} {N : Mem} {Γ : Adr} {σ ρ : Sg} {M M' : Mem} {n q u h b c t : Nat} (hR : Rp G N Γ (cs σ ρ) M) (hH : HS σ ρ) (hn : σ 8 0 = n) (h8 : n < 40) (hu : u < σ 0 0) (f0 : M b = none) (f1 : M c = none) (f2 : M t = none)
    (m0 : M' b = some (.inr (2, [.int (nI n), .ref (Γ 4 u), .int (nI h), .int (nI (σ 24 0)), .ref c, .int (nI 4294967295), .int (nI q), .int (nI 0), .int (nI 0), .int (nI 0)]))) (m1 : M' c = some (.inr (1, [.ref t, .int (nI 0)]))) (m2 : M' t = some (eI (G.2.1 1) 128 (fun _ => 0))) (hM : ∀ x e, M x = some e → M' x = some e) :
    ∃ Γ' : Adr, Γ' 0 0 = Γ 0 0 ∧ Γ' 2 1 = Γ 2 1 ∧ Γ' 9 n = b ∧ Rp G N Γ' (st (cs (poN σ q u h) ρ) 30 1 n) M' := by
  have hcl := hH.cl
  obtain ⟨⟨hV, hS, hD, hL, hZ, hI⟩, hZV, -⟩ := id hH
  obtain ⟨z18, z15⟩ := hZ n (by omega)
  obtain ⟨z14, z16, z17⟩ := hZV n (by omega)
  obtain ⟨q9, q10, q11, q13, q12⟩ := poN_i (σ := σ) (p := q) (s := u) (h := h)
  rw [hn] at q9 q10 q11 q13 q12
  obtain ⟨Γ', eΓ⟩ : ∃ z : Adr, z = fun k i => if k = 9 ∧ i = n then b else if k = 10 ∧ i = n then c else if k = 11 ∧ i = n then t else Γ k i := ⟨_, rfl⟩
  have g9 : Γ' 9 n = b := by rw [eΓ]; simp
  have g10 : Γ' 10 n = c := by rw [eΓ]; simp
  have g11 : Γ' 11 n = t := by rw [eΓ]; simp
  have go : ∀ k i, ¬ KL n k i → Γ' k i = Γ k i := by
    intro k i hk
    unfold KL at hk
    rw [eΓ]
    show (if _ then _ else _) = _
    rw [if_neg (by omega), if_neg (by omega), if_neg (by omega)]
  obtain ⟨ς', eς⟩ : ∃ z : Sg, z = st (cs (poN σ q u h) ρ) 30 1 n := ⟨_, rfl⟩
  have pf : ∀ g j, (g ≠ 8 ∧ g ≠ 9 ∧ g ≠ 10 ∧ g ≠ 11 ∧ g ≠ 12 ∧ g ≠ 13) → poN σ q u h g j = σ g j := fun g j hg => poN_f hg
  have er : ∀ v, rcF (poN σ q u h) v (σ 22 0) = rcF σ v (σ 22 0) := fun v => by
    have key : ∀ k, k ≤ σ 22 0 → rcF (poN σ q u h) v k = rcF σ v k := by
      intro k
      induction k with
      | zero => intro _; rfl
      | succ k ih =>
        intro hk
        have hm := (hD.mem (k := k) (by omega)).1
        show rcF (poN σ q u h) v k + (if poN σ q u h 9 (poN σ q u h 21 k) = v then 1 else 0) = rcF σ v k + (if σ 9 (σ 21 k) = v then 1 else 0)
        rw [ih (by omega), poN_f (g := 21) (by decide), poN_o (g := 9) (by decide) (by omega)]
    exact key _ (Nat.le_refl _)
  have ed : ∀ v x, dvF (poN σ q u h) v x (σ 22 0) = dvF σ v x (σ 22 0) := fun v x => by
    have key : ∀ k, k ≤ σ 22 0 → dvF (poN σ q u h) v x k = dvF σ v x k ∧ rcF (poN σ q u h) v k = rcF σ v k := by
      intro k
      induction k with
      | zero => intro _; exact ⟨rfl, rfl⟩
      | succ k ih =>
        intro hk
        have hm := (hD.mem (k := k) (by omega)).1
        obtain ⟨i1, i2⟩ := ih (by omega)
        constructor
        · show (if dvF (poN σ q u h) v x k ≠ 4294967295 then dvF (poN σ q u h) v x k else if poN σ q u h 9 (poN σ q u h 21 k) = v ∧ rcF (poN σ q u h) v k = x then poN σ q u h 21 k else 4294967295) = _
          rw [i1, i2, poN_f (g := 21) (by decide), poN_o (g := 9) (by decide) (by omega)]
          rfl
        · show rcF (poN σ q u h) v k + (if poN σ q u h 9 (poN σ q u h 21 k) = v then 1 else 0) = rcF σ v k + (if σ 9 (σ 21 k) = v then 1 else 0)
          rw [i2, poN_f (g := 21) (by decide), poN_o (g := 9) (by decide) (by omega)]
    exact (key _ (Nat.le_refl _)).1
  have s30 : ∀ x, ς' 30 x = cs σ ρ 30 x := by
    intro x
    rw [eς]
    by_cases z : x = 1
    · subst z; rw [st_s]; exact hn.symm
    · rw [st_i z]
      show lnC (poN σ q u h) x = lnC σ x
      unfold lnC
      rw [poN_f (g := 22) (by decide), er, if_neg z, if_neg z, poN_f (g := 0) (by decide), poN_f (g := 20) (by decide), poN_f (g := 7) (by decide)]
  have s31 : ∀ x, ς' 31 x = cs σ ρ 31 x := by
    intro x
    rw [eς, st_f (by decide)]
    show elC (poN σ q u h) x = elC σ x
    unfold elC
    rw [poN_f (g := 22) (by decide), ed, poN_f (g := 19) (by decide)]
  have s33 : ς' 33 0 = cs σ ρ 33 0 := by rw [eς]; exact pf 0 0 (by decide)
  have s331 : ς' 33 1 = n + 1 := by rw [eς, ← hn]; exact poN_8 (σ := σ) (p := q) (s := u) (h := h)
  have s35 : ∀ x, ς' 35 x = cs σ ρ 35 x := fun x => by rw [eς]; exact pf 7 x (by decide)
  have so : ∀ g x, (1 ≤ g ∧ g ≤ 6) ∨ g = 22 ∨ g = 23 ∨ g = 24 → ς' g x = cs σ ρ g x := by
    intro g x hg
    rw [eς, st_f (by omega)]
    have : g = 1 ∨ g = 2 ∨ g = 3 ∨ g = 4 ∨ g = 5 ∨ g = 6 ∨ g = 22 ∨ g = 23 ∨ g = 24 := by omega
    rcases this with rfl | rfl | rfl | rfl | rfl | rfl | rfl | rfl | rfl
    · rfl
    · rfl
    · rfl
    · rfl
    · rfl
    · rfl
    · exact pf 22 x (by decide)
    · exact pf 23 x (by decide)
    · exact pf 24 x (by decide)
  have sl : ∀ g i, 9 ≤ g → g ≤ 18 → g ≠ 17 → i ≠ n → ς' g i = cs σ ρ g i := by
    intro g i h1 h2 h3 hi
    rw [eς, st_f (by omega)]
    have e : ∀ f, f ≠ 8 → poN σ q u h f i = σ f i := fun f hf => poN_o hf (by omega)
    have : g = 9 ∨ g = 10 ∨ g = 11 ∨ g = 12 ∨ g = 13 ∨ g = 14 ∨ g = 15 ∨ g = 16 ∨ g = 18 := by omega
    rcases this with rfl | rfl | rfl | rfl | rfl | rfl | rfl | rfl | rfl
    · exact e 9 (by decide)
    · exact e 10 (by decide)
    · exact e 11 (by decide)
    · show (if poN σ q u h 12 i = 8 then 4294967295 else poN σ q u h 12 i) = if σ 12 i = 8 then 4294967295 else σ 12 i
      rw [e 12 (by decide)]
    · show (if poN σ q u h 12 i = 6 then poN σ q u h 10 i else poN σ q u h 13 i) = if σ 12 i = 6 then σ 10 i else σ 13 i
      rw [e 12 (by decide), e 10 (by decide), e 13 (by decide)]
    · exact e 14 (by decide)
    · exact e 15 (by decide)
    · exact e 16 (by decide)
    · exact e 18 (by decide)
  have s17 : ∀ x, ς' 17 x = σ 17 x := fun x => by rw [eς, st_f (by decide)]; exact pf 17 x (by decide)
  have c331 : cs σ ρ 33 1 = n := hn
  refine ⟨Γ', go 0 0 (by unfold KL; omega), go 2 1 (by unfold KL; omega), g9, ?_⟩
  rw [← eς]
  refine Rp.new (KL n) (fun _ _ => False) (hdec := fun i => by unfold KL; infer_instance) hR hcl (fun i hk => by unfold KL at hk; omega) (fun cp k i hk hdm => ?_) (fun k i hk => hk.elim) (fun cp k i hcp hdm => ?_) (fun cp k i f j hdm _ hr => ?_) (fun x hx => by unfold KL at hx; omega) go (fun x e hx _ => hM x e hx) (fun k i hk => ?_) (fun k i hk => hk.elim) (fun k i k' i' hk hk' hz => ?_)
  · obtain ⟨hk, rfl⟩ := hk
    unfold Dm at hdm
    rw [c331] at hdm
    omega
  · unfold Dm at hdm
    have hLi : isL ς' i ↔ isL (cs σ ρ) i := by unfold isL; rw [s33]
    have hRi : isR ς' i ↔ isR (cs σ ρ) i := by unfold isR; rw [s33, s30, s35]
    rw [hLi, hRi, s33, s331] at hdm
    by_cases hkk : KL n k i
    · exact Or.inl hkk
    · right
      unfold KL at hkk
      rcases hdm with d | d | d | d | d | d | d
      · exact Or.inl d
      · exact Or.inr (Or.inl d)
      · exact Or.inr (Or.inr (Or.inl d))
      · exact Or.inr (Or.inr (Or.inr (Or.inl d)))
      · exact Or.inr (Or.inr (Or.inr (Or.inr (Or.inl d))))
      · exact Or.inr (Or.inr (Or.inr (Or.inr (Or.inr (Or.inl d)))))
      · exact Or.inr (Or.inr (Or.inr (Or.inr (Or.inr (Or.inr ⟨d.1, by rw [c331]; omega⟩)))))
  · have hne : (k = 9 ∨ k = 10 ∨ k = 11) → i ≠ n := by
      intro h1 h2
      unfold Dm at hdm
      rw [c331] at hdm
      omega
    unfold rds at hr
    split at hr
    · rcases hr with ⟨rfl | rfl, rfl⟩ <;> exact so _ _ (by decide)
    · obtain ⟨rfl, -⟩ := hr; exact so _ _ (by decide)
    · obtain ⟨rfl, rfl⟩ := hr; exact s30 _
    · rcases hr with ⟨rfl, rfl⟩ | ⟨rfl, -⟩
      · exact s30 _
      · exact s31 _
    · obtain ⟨rfl, rfl⟩ := hr; exact s35 _
    · exact so _ _ (by omega)
    · exact so _ _ (by omega)
    · exact so _ _ (by omega)
    · exact so _ _ (by omega)
    · obtain ⟨h1, rfl⟩ := hr
      by_cases e17 : f = 17
      · subst e17; exact s17 _
      · exact sl f j (by omega) (by omega) e17 (hne (by decide))
    · obtain ⟨rfl, rfl⟩ := hr; exact sl 18 _ (by decide) (by decide) (by decide) (hne (by decide))
    · obtain ⟨rfl, -⟩ := hr; exact s17 _
    · exact hr.elim
  · obtain ⟨hk, rfl⟩ := hk
    have w : ∀ f, f ≠ 30 → ς' f i = cs (poN σ q u h) ρ f i := fun f hf => by rw [eς, st_f hf]
    have w9 : ς' 9 i = u := (w 9 (by decide)).trans q9
    have w10 : ς' 10 i = h := (w 10 (by decide)).trans q10
    have w11 : ς' 11 i = σ 24 0 := (w 11 (by decide)).trans q11
    have w12 : ς' 12 i = 4294967295 := (w 12 (by decide)).trans (if_pos q12)
    have w13 : ς' 13 i = q := (w 13 (by decide)).trans ((if_neg (by rw [q12]; decide)).trans q13)
    have w14 : ς' 14 i = 0 := (w 14 (by decide)).trans ((poN_f (by decide)).trans z14)
    have w15 : ς' 15 i = 0 := (w 15 (by decide)).trans ((poN_f (by decide)).trans z15)
    have w16 : ς' 16 i = 0 := (w 16 (by decide)).trans ((poN_f (by decide)).trans z16)
    have w18 : ς' 18 i = 0 := (w 18 (by decide)).trans ((poN_f (by decide)).trans z18)
    rcases hk with rfl | rfl | rfl
    · rw [g9]
      refine ⟨f0, _, m0, fun Λ cp hl hx => ?_⟩
      show _ = _
      rw [hl 4 _ (by decide), hl 10 _ (by decide), w9, w10, w11, w12, w13, w14, w15, w16, g10, go 4 u (by unfold KL; omega)]
    · rw [g10]
      refine ⟨f1, _, m1, fun Λ cp hl hx => ?_⟩
      show _ = _
      rw [hl 11 _ (by decide), w18, g11]
    · rw [g11]
      exact ⟨f2, _, m2, fun Λ cp hl hx => ⟨_, rfl, fun j hj => by rw [s17, z17 j (by omega)]; rfl⟩⟩
  · have n1 : b ≠ c := fun z => by rw [z, m1] at m0; cases m0
    have n2 : b ≠ t := fun z => by rw [z, m2] at m0; cases m0
    have n3 : c ≠ t := fun z => by rw [z, m2] at m1; cases m1
    have key : ∀ k i, KL n k i → (k = 9 ∧ i = n ∧ Γ' k i = b) ∨ (k = 10 ∧ i = n ∧ Γ' k i = c) ∨ (k = 11 ∧ i = n ∧ Γ' k i = t) := by
      rintro k i ⟨rfl | rfl | rfl, rfl⟩
      · exact Or.inl ⟨rfl, rfl, g9⟩
      · exact Or.inr (Or.inl ⟨rfl, rfl, g10⟩)
      · exact Or.inr (Or.inr ⟨rfl, rfl, g11⟩)
    have A := key k i hk
    have B := key k' i' hk'
    rw [hz] at A
    generalize Γ' k' i' = w at A B
    rcases A with ⟨p1, p2, p3⟩ | ⟨p1, p2, p3⟩ | ⟨p1, p2, p3⟩ <;> rcases B with ⟨r1, r2, r3⟩ | ⟨r1, r2, r3⟩ | ⟨r1, r2, r3⟩ <;> first | exact ⟨p1.trans r1.symm, p2.trans r2.symm⟩ | exact absurd (p3.symm.trans r3) (by assumption) | exact absurd (r3.symm.trans p3) (by assumption)
/-- the draft is told, and a new one is made -/
def KT (r k i : Nat) : Prop := (k = 5 ∨ k = 6 ∨ k = 7 ∨ k = 8) ∧ i = r
theorem Rp.tell {G : mG} {N : Mem} {Γ : Adr} {σ ρ : Sg} {M M' : Mem} {u q r n b a y t : Nat} (hH : HS σ ρ) (hu : u < σ 0 0) (hn : σ 7 u = n) (hn20 : n < 20) (hr : r = 21 * u + n) (hR : Rp G N Γ (st (st (st (cs σ ρ) 1 r q) 2 r (σ 24 0)) 30 (10 + u) (n + 1)) M)
    (f0 : M b = none) (f1 : M a = none) (f2 : M y = none) (f3 : M t = none)
    (m0 : M' b = some (.inr (3, [.ref a, .ref y, .ref t, .int (nI 0), .int (nI 0), .int (nI 0)]))) (m1 : M' a = some (eI (G.2.1 0) 6 (fun _ => 0))) (m2 : M' y = some (eI (G.2.1 0) 6 (fun _ => 0))) (m3 : M' t = some (eI (G.2.1 0) 6 (fun _ => 0))) (m4 : M' (Γ 4 u) = some (.inr (4, [.ref (Γ 2 (10 + u)), .ref (Γ 2 (20 + u)), .ref b]))) (hd : a ≠ y ∧ a ≠ t ∧ y ≠ t) (hM : ∀ x e, M x = some e → x ≠ Γ 4 u → M' x = some e) :
    ∃ Γ' : Adr, Γ' 0 0 = Γ 0 0 ∧ Γ' 4 u = Γ 4 u ∧ Γ' 2 (10 + u) = Γ 2 (10 + u) ∧ Rp G N Γ' (cs (nxT σ u q) (ρT ρ r q (σ 24 0))) M' := by
  have hcl := hH.cl
  obtain ⟨⟨hV, hS, hD, hL, hZ, hI⟩, hZV, hC⟩ := id hH
  have b0 : σ 0 0 ≤ 8 := hV 0 0
  have b7 : ∀ v, σ 7 v ≤ 20 := fun v => hV 7 v
  obtain ⟨r0, er0⟩ : ∃ r, r = 21 * u + 20 := ⟨_, rfl⟩
  obtain ⟨c, ec⟩ : ∃ c, c = σ 3 r0 := ⟨_, rfl⟩
  obtain ⟨t1, t2, t3, t4, t7, to⟩ := nxT_at (q := q) (hr.trans (by rw [hn])) er0 ec (by omega)
  obtain ⟨p1, p2, p3, p4⟩ := ρT_at (ρ := ρ) (r := r) (q := q) (d := σ 24 0)
  obtain ⟨ς, eς⟩ : ∃ z : Sg, z = st (st (st (cs σ ρ) 1 r q) 2 r (σ 24 0)) 30 (10 + u) (n + 1) := ⟨_, rfl⟩
  rw [← eς] at hR
  obtain ⟨ς', eς'⟩ : ∃ z : Sg, z = cs (nxT σ u q) (ρT ρ r q (σ 24 0)) := ⟨_, rfl⟩
  have er : ∀ v k, rcF (nxT σ u q) v k = rcF σ v k := fun v k => rcF_c (fun j => to 9 j (by decide)) k (fun j _ => to 21 j (by decide))
  have ed : ∀ v x k, dvF (nxT σ u q) v x k = dvF σ v x k := fun v x k => dvF_c (fun j => to 9 j (by decide)) k (fun j _ => to 21 j (by decide))
  have so : ∀ g x, 7 ≤ g → g ≠ 30 → g ≠ 35 → ς' g x = ς g x := by
    intro g x h1 h2 h3
    rw [eς', eς, st_f h2, st_f (by omega), st_f (by omega)]
    have e : ∀ g j, 8 ≤ g → nxT σ u q g j = σ g j := fun g j hg => to g j (Or.inr hg)
    have e0 := to 0 0 (Or.inl rfl)
    by_cases z7 : g = 7
    · subst z7; rfl
    unfold cs
    split <;> first | rfl | (exact absurd rfl h2) | (exact absurd rfl h3) | skip
    · rw [e 12 _ (by decide)]
    · rw [e 12 _ (by decide), e 10 _ (by decide), e 13 _ (by decide)]
    · omega
    · omega
    · omega
    · omega
    · omega
    · omega
    · unfold elC; rw [e 19 _ (by decide), ed, e 22 _ (by decide)]
    · rw [e0, e 8 _ (by decide)]
    · exact e _ _ (by rcases Nat.lt_or_ge 7 g with w | w; exact w; exact absurd (Nat.le_antisymm w h1) z7)
  have s30 : ∀ x, ς' 30 x = ς 30 x := by
    intro x
    rw [eς', eς]
    show lnC (nxT σ u q) x = _
    by_cases z : x = 10 + u
    · subst z
      rw [st_s]
      unfold lnC
      rw [if_neg (by omega), if_neg (by omega), if_neg (by omega), if_neg (by omega), if_pos (by omega), show 10 + u - 10 = u by omega, t7, if_pos rfl, hn]
    · rw [st_i z, st_f (by decide), st_f (by decide)]
      show _ = lnC σ x
      unfold lnC
      rw [to 0 0 (Or.inl rfl), to 8 0 (by decide), to 20 0 (by decide), er, to 22 0 (by decide)]
      by_cases y1 : x < 10
      · rw [if_pos y1, if_pos y1]
      · rw [t7, show (if x - 10 = u then σ 7 u + 1 else σ 7 (x - 10)) = σ 7 (x - 10) from if_neg (by omega)]
  have s35 : ∀ x, x ≠ u → ς' 35 x = ς 35 x := by
    intro x hx
    rw [eς', eς, st_f (by decide), st_f (by decide), st_f (by decide)]
    show nxT σ u q 7 x = σ 7 x
    rw [t7, if_neg hx]
  have s35u : ς' 35 u = n + 1 := by
    rw [eς']
    show nxT σ u q 7 u = _
    rw [t7, if_pos rfl, hn]
  have c35u : ς 35 u = n := by rw [eς]; exact hn
  have c33 : ς 33 0 = σ 0 0 := by rw [eς]; rfl
  have c331 : ς 33 1 = σ 8 0 := by rw [eς]; rfl
  have c30u : ς 30 (10 + u) = n + 1 := by rw [eς, st_s]
  have c30o : ∀ x, x ≠ 10 + u → ς 30 x = cs σ ρ 30 x := fun x hx => by rw [eς, st_i hx, st_f (by decide), st_f (by decide)]
  have cρ : ∀ g x, 1 ≤ g → g ≤ 6 → ς' g x = ρT ρ r q (σ 24 0) g x := by
    intro g x h1 h2
    rw [eς']
    have : g = 1 ∨ g = 2 ∨ g = 3 ∨ g = 4 ∨ g = 5 ∨ g = 6 := by omega
    rcases this with rfl | rfl | rfl | rfl | rfl | rfl <;> rfl
  have sρ : ∀ g j, 1 ≤ g → g ≤ 3 → j ≠ r + 1 → ς' g j = ς g j := by
    intro g j h1 h2 hj
    rw [cρ g j h1 (by omega), eς, st_f (by omega)]
    have : g = 1 ∨ g = 2 ∨ g = 3 := by omega
    rcases this with rfl | rfl | rfl
    · rw [p1, st_f (by decide), if_neg hj]
      by_cases z : j = r
      · subst z; rw [if_pos rfl, st_s]
      · rw [if_neg z, st_i z]; rfl
    · rw [p2, if_neg hj]
      by_cases z : j = r
      · subst z; rw [if_pos rfl, st_s]
      · rw [if_neg z, st_i z, st_f (by decide)]; rfl
    · rw [p3, if_neg hj, st_f (by decide), st_f (by decide)]; rfl
  have sρ4 : ∀ g i j, (g = 4 ∨ g = 5 ∨ g = 6) → i ≠ r + 1 → 6 * i ≤ j → j < 6 * i + 6 → ς' g j = ς g j := by
    intro g i j hg hi h1 h2
    rw [cρ g j (by omega) (by omega), p4 g j hg, if_neg (by omega), eς, st_f (by omega), st_f (by omega), st_f (by omega)]
    rcases hg with rfl | rfl | rfl <;> rfl
  have hcl' : Cl ς := by
    obtain ⟨k1, k2, k3, k4, k5, k6⟩ := hcl
    refine ⟨by rw [c30o 0 (by omega), c33]; exact k1, by rw [c30o 1 (by omega), c331]; exact k2, fun i hi => ?_, fun x j hx hl hj => ?_, fun v hv => ?_, by rw [c33]; exact b0⟩
    · rw [c331] at hi
      rw [c33, eς, st_f (by decide), st_f (by decide), st_f (by decide)]
      exact k3 i hi
    · rw [c30o x (by omega)] at hj
      rw [c331, eς, st_f (by decide), st_f (by decide), st_f (by decide)]
      refine k4 x j hx ?_ hj
      unfold isL at hl ⊢
      rw [c33] at hl
      exact hl
    · rw [c33] at hv
      by_cases z : v = u
      · subst z; rw [c30u, c35u]; omega
      · rw [c30o _ (by omega)]
        have h5 := k5 v hv
        refine ⟨h5.1, ?_⟩
        rw [eς, st_f (by decide), st_f (by decide), st_f (by decide)]
        exact h5.2
  obtain ⟨Γ', eΓ⟩ : ∃ z : Adr, z = fun k i => if k = 5 ∧ i = r + 1 then b else if k = 6 ∧ i = r + 1 then a else if k = 7 ∧ i = r + 1 then y else if k = 8 ∧ i = r + 1 then t else Γ k i := ⟨_, rfl⟩
  have g5 : Γ' 5 (r + 1) = b := by rw [eΓ]; simp
  have g6 : Γ' 6 (r + 1) = a := by rw [eΓ]; simp
  have g7 : Γ' 7 (r + 1) = y := by rw [eΓ]; simp
  have g8 : Γ' 8 (r + 1) = t := by rw [eΓ]; simp
  have go : ∀ k i, ¬ KT (r + 1) k i → Γ' k i = Γ k i := by
    intro k i hk
    unfold KT at hk
    rw [eΓ]
    show (if _ then _ else _) = _
    rw [if_neg (by omega), if_neg (by omega), if_neg (by omega), if_neg (by omega)]
  have hnR : ¬ isR ς (r + 1) := by
    unfold isR
    rw [show (r + 1) / 21 = u by omega, show (r + 1) % 21 = n + 1 by omega, c30u, c35u]
    omega
  refine ⟨Γ', go 0 0 (by unfold KT; omega), go 4 u (by unfold KT; omega), go 2 _ (by unfold KT; omega), ?_⟩
  rw [← eς']
  refine Rp.new (KT (r + 1)) (fun k i => k = 4 ∧ i = u) (hdec := fun i => by unfold KT; infer_instance) hR hcl' (fun i hk => by unfold KT at hk; omega) (fun cp k i hk hdm => ?_) (fun k i hk => ⟨by omega, by omega, fun cp => ?_⟩) (fun cp k i hcp hdm => ?_) (fun cp k i f j hdm hnr hrd => ?_) (fun x hx => by unfold KT at hx; omega) go (fun x e hx hne => hM x e hx (hne 4 u ⟨rfl, rfl⟩)) (fun k i hk => ?_) (fun k i hk => ?_) (fun k i k' i' hk hk' hz => ?_)
  · obtain ⟨hk, rfl⟩ := hk
    unfold Dm at hdm
    rcases hdm with d | d | d | d | d | d | d
    · omega
    · omega
    · omega
    · omega
    · omega
    · exact hnR d.2
    · omega
  · obtain ⟨rfl, rfl⟩ := hk
    exact Dm4 (by rw [c33]; exact hu)
  · have s33 : ς' 33 0 = ς 33 0 := so 33 0 (by decide) (by decide) (by decide)
    have s331 : ς' 33 1 = ς 33 1 := so 33 1 (by decide) (by decide) (by decide)
    have hRi : isR ς' i → isR ς i ∨ i = r + 1 := by
      unfold isR
      rw [s33, s30]
      rintro ⟨h1, h2⟩
      by_cases e1 : i / 21 = u
      · rw [e1, s35u, c30u] at h2
        rw [e1, c30u, c35u]
        rw [e1] at h1
        by_cases e2 : i % 21 < n + 1
        · exact Or.inl ⟨h1, Or.inl e2⟩
        · right; omega
      · rw [s35 _ e1] at h2
        exact Or.inl ⟨h1, h2⟩
    have hLi : isL ς' i ↔ isL ς i := by unfold isL; rw [s33]
    unfold Dm at hdm
    rw [hLi, s33, s331] at hdm
    rcases hdm with d | d | d | d | d | d | d
    · exact Or.inr (Or.inl d)
    · exact Or.inr (Or.inr (Or.inl d))
    · exact Or.inr (Or.inr (Or.inr (Or.inl d)))
    · exact Or.inr (Or.inr (Or.inr (Or.inr (Or.inl d))))
    · exact Or.inr (Or.inr (Or.inr (Or.inr (Or.inr (Or.inl d)))))
    · rcases hRi d.2 with w | w
      · exact Or.inr (Or.inr (Or.inr (Or.inr (Or.inr (Or.inr (Or.inl ⟨d.1, w⟩))))))
      · exact Or.inl ⟨d.1, w⟩
    · exact Or.inr (Or.inr (Or.inr (Or.inr (Or.inr (Or.inr (Or.inr d))))))
  · have hne : (k = 5 ∨ k = 6 ∨ k = 7 ∨ k = 8) → i ≠ r + 1 := by
      intro h1 h2
      unfold Dm at hdm
      rcases hdm with d | d | d | d | d | d | d
      · omega
      · omega
      · omega
      · omega
      · omega
      · exact hnR (h2 ▸ d.2)
      · omega
    unfold rds at hrd
    split at hrd
    · rcases hrd with ⟨rfl | rfl, rfl⟩ <;> exact so _ _ (by decide) (by decide) (by decide)
    · obtain ⟨rfl, -⟩ := hrd; exact so _ _ (by decide) (by decide) (by decide)
    · obtain ⟨rfl, rfl⟩ := hrd; exact s30 _
    · rcases hrd with ⟨rfl, rfl⟩ | ⟨rfl, -⟩
      · exact s30 _
      · exact so _ _ (by decide) (by decide) (by decide)
    · obtain ⟨rfl, rfl⟩ := hrd; exact s35 _ (fun z => hnr ⟨rfl, z⟩)
    · obtain ⟨h1, rfl⟩ := hrd
      exact sρ f j (by omega) (by omega) (hne (by decide))
    · obtain ⟨rfl, h1⟩ := hrd; exact sρ4 4 i j (by decide) (hne (by decide)) h1.1 h1.2
    · obtain ⟨rfl, h1⟩ := hrd; exact sρ4 5 i j (by decide) (hne (by decide)) h1.1 h1.2
    · obtain ⟨rfl, h1⟩ := hrd; exact sρ4 6 i j (by decide) (hne (by decide)) h1.1 h1.2
    · exact so _ _ (by omega) (by omega) (by omega)
    · obtain ⟨rfl, -⟩ := hrd; exact so _ _ (by decide) (by decide) (by decide)
    · obtain ⟨rfl, -⟩ := hrd; exact so _ _ (by decide) (by decide) (by decide)
    · exact hrd.elim
  · obtain ⟨hk, rfl⟩ := hk
    have v1 : ς' 1 (r + 1) = 0 := by rw [cρ 1 _ (by decide) (by decide), p1, if_neg (by omega), if_pos rfl]
    have v2 : ς' 2 (r + 1) = 0 := by rw [cρ 2 _ (by decide) (by decide), p2, if_neg (by omega), if_pos rfl]
    have v3 : ς' 3 (r + 1) = 0 := by rw [cρ 3 _ (by decide) (by decide), p3, if_pos rfl]
    have v4 : ∀ g j, (g = 4 ∨ g = 5 ∨ g = 6) → j < 6 → ς' g (6 * (r + 1) + j) = 0 := fun g j hg hj => by rw [cρ g _ (by omega) (by omega), p4 g _ hg, if_pos ⟨by omega, by omega⟩]
    rcases hk with rfl | rfl | rfl | rfl
    · rw [g5]
      refine ⟨f0, _, m0, fun Λ cp hl hx => ?_⟩
      show _ = _
      rw [hl 6 _ (by decide), hl 7 _ (by decide), hl 8 _ (by decide), g6, g7, g8, v1, v2, v3]
    · rw [g6]
      exact ⟨f1, _, m1, fun Λ cp hl hx => ⟨_, rfl, fun j hj => by rw [v4 4 j (by decide) hj]; rfl⟩⟩
    · rw [g7]
      exact ⟨f2, _, m2, fun Λ cp hl hx => ⟨_, rfl, fun j hj => by rw [v4 5 j (by decide) hj]; rfl⟩⟩
    · rw [g8]
      exact ⟨f3, _, m3, fun Λ cp hl hx => ⟨_, rfl, fun j hj => by rw [v4 6 j (by decide) hj]; rfl⟩⟩
  · obtain ⟨rfl, rfl⟩ := hk
    refine ⟨_, m4, fun Λ cp hl => ?_⟩
    show _ = _
    rw [hl 2 _ (by decide), hl 2 _ (by decide), hl 5 _ (by decide), s35u, show 21 * i + (n + 1) = r + 1 by omega, g5, go 2 _ (by unfold KT; omega), go 2 _ (by unfold KT; omega)]
  · have n1 : b ≠ a := fun z => by rw [z, m1] at m0; cases m0
    have n2 : b ≠ y := fun z => by rw [z, m2] at m0; cases m0
    have n3 : b ≠ t := fun z => by rw [z, m3] at m0; cases m0
    obtain ⟨d1, d2, d3⟩ := hd
    have key : ∀ k i, KT (r + 1) k i → (k = 5 ∧ i = r + 1 ∧ Γ' k i = b) ∨ (k = 6 ∧ i = r + 1 ∧ Γ' k i = a) ∨ (k = 7 ∧ i = r + 1 ∧ Γ' k i = y) ∨ (k = 8 ∧ i = r + 1 ∧ Γ' k i = t) := by
      rintro k i ⟨rfl | rfl | rfl | rfl, rfl⟩
      · exact Or.inl ⟨rfl, rfl, g5⟩
      · exact Or.inr (Or.inl ⟨rfl, rfl, g6⟩)
      · exact Or.inr (Or.inr (Or.inl ⟨rfl, rfl, g7⟩))
      · exact Or.inr (Or.inr (Or.inr ⟨rfl, rfl, g8⟩))
    have A := key k i hk
    have B := key k' i' hk'
    rw [hz] at A
    generalize Γ' k' i' = w at A B
    rcases A with ⟨q1, q2, q3⟩ | ⟨q1, q2, q3⟩ | ⟨q1, q2, q3⟩ | ⟨q1, q2, q3⟩ <;> rcases B with ⟨r1, r2, r3⟩ | ⟨r1, r2, r3⟩ | ⟨r1, r2, r3⟩ | ⟨r1, r2, r3⟩ <;> first | exact ⟨q1.trans r1.symm, q2.trans r2.symm⟩ | exact absurd (q3.symm.trans r3) (by assumption) | exact absurd (r3.symm.trans q3) (by assumption)
