/-! THE CLASS'S PICTURE (mine): its state ς in the numbers of the reference's fields, and 30 (a list's length), 31 (what lies in the dead list and the received ones), 33 (ships, letters that are made), 35 (which of a ship's routes is its draft); an address for every kind and place. Kinds: 0 SeaPost, 1 opensOn, 2 lists, 3 their rows, 4 ships, 5 routes, 6-8 their rows, 9 letters, 10 covers, 11 signs. Lists: 0 fleet, 1 mail, 2 dead, 10+s told, 20+s received. -/
abbrev Adr := Nat → Nat → Nat
def elk (x : Nat) : Nat := if x = 0 then 4 else if 10 ≤ x ∧ x < 20 then 5 else 9
def eli (ς : Sg) (x j : Nat) : Nat := if x ≤ 1 then j else if 10 ≤ x ∧ x < 20 then 21 * (x - 10) + j else ς 31 (64 * x + j)
def isL (ς : Sg) (x : Nat) : Prop := x < 3 ∨ (10 ≤ x ∧ x < 10 + ς 33 0) ∨ (20 ≤ x ∧ x < 20 + ς 33 0)
def isR (ς : Sg) (i : Nat) : Prop := i / 21 < ς 33 0 ∧ (i % 21 < ς 30 (10 + i / 21) ∨ i % 21 = ς 35 (i / 21))
def Dm (ς : Sg) (cp : Nat → Nat) (k i : Nat) : Prop :=
  (k = 0 ∧ i = 0) ∨ (k = 1 ∧ i = 0) ∨ (k = 2 ∧ isL ς i) ∨ (k = 3 ∧ isL ς i ∧ 0 < cp i) ∨ (k = 4 ∧ i < ς 33 0) ∨ ((k = 5 ∨ k = 6 ∨ k = 7 ∨ k = 8) ∧ isR ς i) ∨ ((k = 9 ∨ k = 10 ∨ k = 11) ∧ i < ς 33 1)
def Pc (Λ : Adr) (G : mG) (ς : Sg) (cp : Nat → Nat) (k i : Nat) (e : va_E) : Prop :=
  match k with
  | 0 => e = .inr (5, [.ref (Λ 2 0), .ref (Λ 2 1), .ref (Λ 2 2), .ref (Λ 1 0), .int (nI (ς 24 0)), .int (nI (ς 22 0))])
  | 1 => ∃ f, e = eI (G.2.1 0) 10 f ∧ ∀ j, j < 10 → f j = nI (ς 23 j)
  | 2 => ∃ mc, e = .inr (0, [.int mc, .ref (Λ 3 i), .int (nI (ς 30 i))])
  | 3 => ∃ f, e = eQ (G.2.1 2) (cp i) f ∧ ς 30 i ≤ cp i ∧ cp i ≤ 64 ∧ ∀ j, j < ς 30 i → f j = some (Λ (elk i) (eli ς i j))
  | 4 => e = .inr (4, [.ref (Λ 2 (10 + i)), .ref (Λ 2 (20 + i)), .ref (Λ 5 (21 * i + ς 35 i))])
  | 5 => e = .inr (3, [.ref (Λ 6 i), .ref (Λ 7 i), .ref (Λ 8 i), .int (nI (ς 3 i)), .int (nI (ς 1 i)), .int (nI (ς 2 i))])
  | 6 => ∃ f, e = eI (G.2.1 0) 6 f ∧ ∀ j, j < 6 → f j = nI (ς 4 (6 * i + j))
  | 7 => ∃ f, e = eI (G.2.1 0) 6 f ∧ ∀ j, j < 6 → f j = nI (ς 5 (6 * i + j))
  | 8 => ∃ f, e = eI (G.2.1 0) 6 f ∧ ∀ j, j < 6 → f j = nI (ς 6 (6 * i + j))
  | 9 => e = .inr (2, [.int (nI i), .ref (Λ 4 (ς 9 i)), .int (nI (ς 10 i)), .int (nI (ς 11 i)), .ref (Λ 10 i), .int (nI (ς 12 i)), .int (nI (ς 13 i)), .int (nI (ς 14 i)), .int (nI (ς 15 i)), .int (nI (ς 16 i))])
  | 10 => e = .inr (1, [.ref (Λ 11 i), .int (nI (ς 18 i))])
  | 11 => ∃ f, e = eI (G.2.1 1) 128 f ∧ ∀ j, j < 128 → f j = nI (ς 17 (200 * i + j))
  | _ => False
/-- what the cell of a place tells -/
def rds (k i f j : Nat) : Prop :=
  match k with
  | 0 => (f = 24 ∨ f = 22) ∧ j = 0
  | 1 => f = 23 ∧ j < 10
  | 2 => f = 30 ∧ j = i
  | 3 => (f = 30 ∧ j = i) ∨ (f = 31 ∧ 64 * i ≤ j ∧ j < 64 * i + 64)
  | 4 => f = 35 ∧ j = i
  | 5 => (f = 3 ∨ f = 1 ∨ f = 2) ∧ j = i
  | 6 => f = 4 ∧ 6 * i ≤ j ∧ j < 6 * i + 6
  | 7 => f = 5 ∧ 6 * i ≤ j ∧ j < 6 * i + 6
  | 8 => f = 6 ∧ 6 * i ≤ j ∧ j < 6 * i + 6
  | 9 => (9 ≤ f ∧ f ≤ 16) ∧ j = i
  | 10 => f = 18 ∧ j = i
  | 11 => f = 17 ∧ 200 * i ≤ j ∧ j < 200 * i + 128
  | _ => False
theorem Pc.congr {Λ : Adr} {G : mG} {ς ς' : Sg} {cp : Nat → Nat} {k i : Nat} {e : va_E} (h : Pc Λ G ς cp k i e) (hr : ∀ f j, rds k i f j → ς' f j = ς f j) : Pc Λ G ς' cp k i e := by
  unfold Pc at h ⊢
  split at h
  · rw [hr 24 0 ⟨Or.inl rfl, rfl⟩, hr 22 0 ⟨Or.inr rfl, rfl⟩]; exact h
  · obtain ⟨f, h1, h2⟩ := h
    exact ⟨f, h1, fun j hj => by rw [hr 23 j ⟨rfl, hj⟩]; exact h2 j hj⟩
  · rw [hr 30 i ⟨rfl, rfl⟩]; exact h
  · obtain ⟨f, h1, h2, h3, h4⟩ := h
    have h0 := hr 30 i (Or.inl ⟨rfl, rfl⟩)
    refine ⟨f, h1, by rw [h0]; exact h2, h3, fun j hj => ?_⟩
    rw [h0] at hj
    rw [h4 j hj]
    unfold eli
    rw [hr 31 (64 * i + j) (Or.inr ⟨rfl, by omega, by omega⟩)]
  · rw [hr 35 i ⟨rfl, rfl⟩]; exact h
  · rw [hr 3 i ⟨Or.inl rfl, rfl⟩, hr 1 i ⟨Or.inr (Or.inl rfl), rfl⟩, hr 2 i ⟨Or.inr (Or.inr rfl), rfl⟩]; exact h
  · obtain ⟨f, h1, h2⟩ := h
    exact ⟨f, h1, fun j hj => by rw [hr 4 (6 * i + j) ⟨rfl, by omega, by omega⟩]; exact h2 j hj⟩
  · obtain ⟨f, h1, h2⟩ := h
    exact ⟨f, h1, fun j hj => by rw [hr 5 (6 * i + j) ⟨rfl, by omega, by omega⟩]; exact h2 j hj⟩
  · obtain ⟨f, h1, h2⟩ := h
    exact ⟨f, h1, fun j hj => by rw [hr 6 (6 * i + j) ⟨rfl, by omega, by omega⟩]; exact h2 j hj⟩
  · rw [hr 9 i ⟨by omega, rfl⟩, hr 10 i ⟨by omega, rfl⟩, hr 11 i ⟨by omega, rfl⟩, hr 12 i ⟨by omega, rfl⟩, hr 13 i ⟨by omega, rfl⟩, hr 14 i ⟨by omega, rfl⟩, hr 15 i ⟨by omega, rfl⟩, hr 16 i ⟨by omega, rfl⟩]; exact h
  · rw [hr 18 i ⟨rfl, rfl⟩]; exact h
  · obtain ⟨f, h1, h2⟩ := h
    exact ⟨f, h1, fun j hj => by rw [hr 17 (200 * i + j) ⟨rfl, by omega, by omega⟩]; exact h2 j hj⟩
  · exact h
theorem Dm.congr {ς ς' : Sg} {cp : Nat → Nat} {k i : Nat} (h3 : ς' 33 = ς 33) (h0 : ς' 30 = ς 30) (h5 : ς' 35 = ς 35) : Dm ς' cp k i ↔ Dm ς cp k i := by
  unfold Dm isL isR
  rw [h3, h0, h5]
/-- the picture, with its rows told; N: what lies beside it -/
def Rq (G : mG) (N : Mem) (Λ : Adr) (cp : Nat → Nat) (ς : Sg) (M : Mem) : Prop :=
  (∀ k i, Dm ς cp k i → ∃ e, M (Λ k i) = some e ∧ Pc Λ G ς cp k i e) ∧ (∀ k i k' i', Dm ς cp k i → Dm ς cp k' i' → Λ k i = Λ k' i' → k = k' ∧ i = i') ∧ (∀ x, isL ς x → cp x = 0 → Λ 3 x = G.2.2 0 ∧ ς 30 x = 0) ∧ ∀ q e, N q = some e → M q = some e ∧ ∀ k i, Dm ς cp k i → Λ k i ≠ q
def Rp (G : mG) (N : Mem) (Γ : Adr) (ς : Sg) (M : Mem) : Prop := ∃ (Λ : Adr) (cp : Nat → Nat), (∀ k i, k ≠ 3 → Λ k i = Γ k i) ∧ Rq G N Λ cp ς M
theorem Rq.upd {G : mG} {N : Mem} {Λ : Adr} {cp : Nat → Nat} {ς ς' : Sg} {M : Mem} {k i : Nat} {e : va_E} (h : Rq G N Λ cp ς M) (hd : Dm ς cp k i) (hdm : ∀ k' i', Dm ς' cp k' i' ↔ Dm ς cp k' i') (hL : ∀ x, isL ς' x ↔ isL ς x) (h1 : Pc Λ G ς' cp k i e) (h2 : ∀ k' i' e', Dm ς cp k' i' → ¬ (k' = k ∧ i' = i) → Pc Λ G ς cp k' i' e' → Pc Λ G ς' cp k' i' e') (h30 : ∀ x, isL ς x → cp x = 0 → ς 30 x = 0 → ς' 30 x = 0) : Rq G N Λ cp ς' (va_up M (Λ k i) (some e)) := by
  obtain ⟨g1, g2, g3, g4⟩ := h
  refine ⟨fun k' i' hd' => ?_, fun a b c d ha hb => g2 a b c d ((hdm _ _).mp ha) ((hdm _ _).mp hb), fun x hx hc => ?_, fun q e' hq => ?_⟩
  · have hd2 := (hdm _ _).mp hd'
    by_cases z : k' = k ∧ i' = i
    · obtain ⟨rfl, rfl⟩ := z
      exact ⟨e, if_pos rfl, h1⟩
    · obtain ⟨e', q1, q2⟩ := g1 k' i' hd2
      exact ⟨e', (if_neg (fun w => z (g2 _ _ _ _ hd2 hd w))).trans q1, h2 k' i' e' hd2 z q2⟩
  · obtain ⟨q1, q2⟩ := g3 x ((hL x).mp hx) hc
    exact ⟨q1, h30 x ((hL x).mp hx) hc q2⟩
  · obtain ⟨q1, q2⟩ := g4 q e' hq
    exact ⟨(if_neg (fun w => q2 k i hd w.symm)).trans q1, fun k' i' hd' => q2 k' i' ((hdm _ _).mp hd')⟩
/-- one cell changes, and what it alone tells -/
theorem Rq.upd1 {G : mG} {N : Mem} {Λ : Adr} {cp : Nat → Nat} {ς ς' : Sg} {M : Mem} {k i : Nat} {e : va_E} (h : Rq G N Λ cp ς M) (hd : Dm ς cp k i) (h1 : Pc Λ G ς' cp k i e) (h33 : ς' 33 = ς 33) (h30 : ς' 30 = ς 30) (h35 : ς' 35 = ς 35) (h2 : ∀ f j, ς' f j ≠ ς f j → ∀ k' i', Dm ς cp k' i' → rds k' i' f j → k' = k ∧ i' = i) : Rq G N Λ cp ς' (va_up M (Λ k i) (some e)) := by
  refine h.upd hd (fun k' i' => Dm.congr h33 h30 h35) (fun x => by unfold isL; rw [h33]) h1 (fun k' i' e' hd' hne hp => hp.congr (fun f j hr => ?_)) (fun x _ _ hz => by rw [h30]; exact hz)
  exact Classical.byContradiction (fun hc => hne (h2 f j hc k' i' hd' hr))
/-- the memory grows, or changes elsewhere -/
theorem Rp.ext {G : mG} {N : Mem} {Γ : Adr} {ς : Sg} {M M' : Mem} (h : Rp G N Γ ς M) (hM : ∀ q e, M q = some e → M' q = some e) : Rp G N Γ ς M' := by
  obtain ⟨Λ, cp, h0, g1, g2, g3, g4⟩ := h
  refine ⟨Λ, cp, h0, fun k i hd => ?_, g2, g3, fun q e hq => ⟨hM _ _ (g4 q e hq).1, (g4 q e hq).2⟩⟩
  obtain ⟨e, q1, q2⟩ := g1 k i hd
  exact ⟨e, hM _ _ q1, q2⟩
/-- the cells, by their kinds -/
theorem Rp.o0 {G : mG} {N : Mem} {Γ : Adr} {ς : Sg} {M : Mem} (h : Rp G N Γ ς M) : M (Γ 0 0) = some (.inr (5, [.ref (Γ 2 0), .ref (Γ 2 1), .ref (Γ 2 2), .ref (Γ 1 0), .int (nI (ς 24 0)), .int (nI (ς 22 0))])) := by
  obtain ⟨Λ, cp, h0, g1, -⟩ := h
  obtain ⟨e, q1, q2⟩ := g1 0 0 (Or.inl ⟨rfl, rfl⟩)
  rw [h0 0 0 (by decide)] at q1
  rw [q1, show e = _ from q2]
  simp only [h0 2 _ (by decide), h0 1 _ (by decide)]
theorem Rp.o1 {G : mG} {N : Mem} {Γ : Adr} {ς : Sg} {M : Mem} (h : Rp G N Γ ς M) : ∃ f, M (Γ 1 0) = some (eI (G.2.1 0) 10 f) ∧ ∀ j, j < 10 → f j = nI (ς 23 j) := by
  obtain ⟨Λ, cp, h0, g1, -⟩ := h
  obtain ⟨e, q1, f, q2, q3⟩ := g1 1 0 (Or.inr (Or.inl ⟨rfl, rfl⟩))
  rw [h0 1 0 (by decide)] at q1
  exact ⟨f, by rw [q1, q2], q3⟩
theorem Rp.o2 {G : mG} {N : Mem} {Γ : Adr} {ς : Sg} {M : Mem} (h : Rp G N Γ ς M) {x : Nat} (hx : isL ς x) : ∃ (mc : Int32) (a : Nat) (f : Nat → Option Nat), M (Γ 2 x) = some (.inr (0, [.int mc, .ref a, .int (nI (ς 30 x))])) ∧ jD G M a (ς 30 x) f ∧ ∀ j, j < ς 30 x → f j = some (Γ (elk x) (eli ς x j)) := by
  obtain ⟨Λ, cp, h0, g1, g2, g3, -⟩ := h
  obtain ⟨e, q1, mc, q2⟩ := g1 2 x (by unfold Dm; simp [hx])
  rw [h0 2 x (by decide)] at q1
  have hk : ∀ y, elk y ≠ 3 := fun y => by unfold elk; repeat' split <;> try decide
  by_cases hc : cp x = 0
  · obtain ⟨r1, r2⟩ := g3 x hx hc
    exact ⟨mc, Λ 3 x, fun _ => none, by rw [q1, q2], Or.inl ⟨r1, r2⟩, fun j hj => by omega⟩
  · obtain ⟨e', p1, f, p2, p3, p4, p5⟩ := g1 3 x (by unfold Dm; simp [hx]; omega)
    exact ⟨mc, Λ 3 x, f, by rw [q1, q2], Or.inr ⟨cp x, by rw [p1, p2], p3, by omega, p4⟩, fun j hj => by rw [p5 j hj, h0 _ _ (hk x)]⟩
theorem Rp.o4 {G : mG} {N : Mem} {Γ : Adr} {ς : Sg} {M : Mem} (h : Rp G N Γ ς M) {i : Nat} (hi : i < ς 33 0) : M (Γ 4 i) = some (.inr (4, [.ref (Γ 2 (10 + i)), .ref (Γ 2 (20 + i)), .ref (Γ 5 (21 * i + ς 35 i))])) := by
  obtain ⟨Λ, cp, h0, g1, -⟩ := h
  obtain ⟨e, q1, q2⟩ := g1 4 i (by unfold Dm; simp [hi])
  rw [h0 4 i (by decide)] at q1
  rw [q1, show e = _ from q2]
  simp only [h0 2 _ (by decide), h0 5 _ (by decide)]
theorem Rp.o5 {G : mG} {N : Mem} {Γ : Adr} {ς : Sg} {M : Mem} (h : Rp G N Γ ς M) {i : Nat} (hi : isR ς i) : M (Γ 5 i) = some (.inr (3, [.ref (Γ 6 i), .ref (Γ 7 i), .ref (Γ 8 i), .int (nI (ς 3 i)), .int (nI (ς 1 i)), .int (nI (ς 2 i))])) := by
  obtain ⟨Λ, cp, h0, g1, -⟩ := h
  obtain ⟨e, q1, q2⟩ := g1 5 i (by unfold Dm; simp [hi])
  rw [h0 5 i (by decide)] at q1
  rw [q1, show e = _ from q2]
  simp only [h0 6 _ (by decide), h0 7 _ (by decide), h0 8 _ (by decide)]
theorem Rp.o6 {G : mG} {N : Mem} {Γ : Adr} {ς : Sg} {M : Mem} (h : Rp G N Γ ς M) {k i : Nat} (hk : k = 4 ∨ k = 5 ∨ k = 6) (hi : isR ς i) : ∃ f, M (Γ (k + 2) i) = some (eI (G.2.1 0) 6 f) ∧ ∀ j, j < 6 → f j = nI (ς k (6 * i + j)) := by
  obtain ⟨Λ, cp, h0, g1, -⟩ := h
  obtain ⟨e, q1, q2⟩ := g1 (k + 2) i (by unfold Dm; simp [hi]; omega)
  rw [h0 (k + 2) i (by omega)] at q1
  rcases hk with rfl | rfl | rfl
  · obtain ⟨f, q2, q3⟩ := q2; exact ⟨f, by rw [q1, q2], q3⟩
  · obtain ⟨f, q2, q3⟩ := q2; exact ⟨f, by rw [q1, q2], q3⟩
  · obtain ⟨f, q2, q3⟩ := q2; exact ⟨f, by rw [q1, q2], q3⟩
theorem Rp.o9 {G : mG} {N : Mem} {Γ : Adr} {ς : Sg} {M : Mem} (h : Rp G N Γ ς M) {i : Nat} (hi : i < ς 33 1) : M (Γ 9 i) = some (.inr (2, [.int (nI i), .ref (Γ 4 (ς 9 i)), .int (nI (ς 10 i)), .int (nI (ς 11 i)), .ref (Γ 10 i), .int (nI (ς 12 i)), .int (nI (ς 13 i)), .int (nI (ς 14 i)), .int (nI (ς 15 i)), .int (nI (ς 16 i))])) := by
  obtain ⟨Λ, cp, h0, g1, -⟩ := h
  obtain ⟨e, q1, q2⟩ := g1 9 i (by unfold Dm; simp [hi])
  rw [h0 9 i (by decide)] at q1
  rw [q1, show e = _ from q2]
  simp only [h0 4 _ (by decide), h0 10 _ (by decide)]
theorem Rp.o10 {G : mG} {N : Mem} {Γ : Adr} {ς : Sg} {M : Mem} (h : Rp G N Γ ς M) {i : Nat} (hi : i < ς 33 1) : M (Γ 10 i) = some (.inr (1, [.ref (Γ 11 i), .int (nI (ς 18 i))])) := by
  obtain ⟨Λ, cp, h0, g1, -⟩ := h
  obtain ⟨e, q1, q2⟩ := g1 10 i (by unfold Dm; simp [hi])
  rw [h0 10 i (by decide)] at q1
  rw [q1, show e = _ from q2]
  simp only [h0 11 _ (by decide)]
theorem Rp.o11 {G : mG} {N : Mem} {Γ : Adr} {ς : Sg} {M : Mem} (h : Rp G N Γ ς M) {i : Nat} (hi : i < ς 33 1) : ∃ f, M (Γ 11 i) = some (eI (G.2.1 1) 128 f) ∧ ∀ j, j < 128 → f j = nI (ς 17 (200 * i + j)) := by
  obtain ⟨Λ, cp, h0, g1, -⟩ := h
  obtain ⟨e, q1, f, q2, q3⟩ := g1 11 i (by unfold Dm; simp [hi])
  rw [h0 11 i (by decide)] at q1
  exact ⟨f, by rw [q1, q2], q3⟩
