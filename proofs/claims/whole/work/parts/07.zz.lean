/-! ONE WAY OUT OF SEVERAL (mine); the bounds that hold of every state's numbers -/
theorem m_join {p : Program} {l : Launch} {e : Env} {R : Room} {s : State} {m : MethodId} {args : Array Value} {below : List Frame} {meth : Method} {c : Code} {H : Heap} {locs : List Loc} {cells slots : Nat} {Q : State → Prop} {g' g : JFrame} (J : W p l e R s m args below meth c H locs cells slots Q g') (k : W p l e R s m args below meth c H locs cells slots Q g' → W p l e R s m args below meth c H locs cells slots Q g) : W p l e R s m args below meth c H locs cells slots Q g := k J
def RB (σ : Sg) : Prop := (σ 0 0 ≤ 8 ∧ σ 8 0 ≤ 40 ∧ σ 24 0 ≤ 1000) ∧ (∀ s, σ 7 s ≤ 20) ∧ (∀ r, σ 3 r ≤ 6) ∧ (∀ r, σ 1 r ≤ 9 ∧ σ 2 r ≤ 1000) ∧ (∀ k, σ 4 k ≤ 9 ∧ σ 5 k ≤ 1000 ∧ σ 6 k ≤ 1030) ∧ (∀ k, σ 17 k < 65536) ∧ (∀ i, σ 9 i ≤ 7 ∧ (σ 10 i ≤ 9 ∨ σ 10 i = 4294967295) ∧ σ 11 i ≤ 1000 ∧ σ 12 i ≤ 8 ∧ σ 13 i ≤ 9 ∧ σ 14 i ≤ 1020 ∧ σ 15 i ≤ 6 ∧ σ 16 i ≤ 1000) ∧ (∀ p, σ 23 p ≤ 1060) ∧ ∀ k, σ 19 k < 40 ∧ σ 21 k < 40
theorem plF_b {σ : Sg} {b : Nat} (h : ∀ k, σ 4 k ≤ 9) : ∀ n, plF σ b n ≤ 9 ∨ plF σ b n = 4294967295
  | 0 => Or.inr rfl
  | n + 1 => by
    unfold plF
    split
    · exact Or.inl (h _)
    · exact plF_b h n
theorem plS_b {σ : Sg} {s : Nat} (h : ∀ k, σ 4 k ≤ 9) : plS σ s ≤ 9 ∨ plS σ s = 4294967295 := by
  unfold plS
  split
  · exact plF_b h _
  · exact Or.inr rfl
theorem st_st {σ : Sg} {f i v w : Nat} : st (st σ f i v) f i w = st σ f i w := by
  funext g j
  unfold st
  by_cases h : g = f ∧ j = i
  · rw [if_pos h, if_pos h]
  · rw [if_neg h, if_neg h, if_neg h]
theorem m_joinI {p : Program} {l : Launch} {e : Env} {R : Room} {s : State} {m : MethodId} {args : Array Value} {below : List Frame} {meth : Method} {c : Code} {H0 : Heap} {locs0 : List Loc} {cells slots : Nat} {Q : State → Prop} {g' g : JFrame} (I : Heap → List Loc → Prop) (J : ∀ (H : Heap) (locs : List Loc), I H locs → W p l e R s m args below meth c H locs cells slots Q g') (k : (∀ (H : Heap) (locs : List Loc), I H locs → W p l e R s m args below meth c H locs cells slots Q g') → W p l e R s m args below meth c H0 locs0 cells slots Q g) : W p l e R s m args below meth c H0 locs0 cells slots Q g := k J
