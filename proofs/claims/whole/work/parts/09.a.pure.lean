/-! THE STATES THAT CAN BE: bounds, counts, what a handling changes (mine) -/
def okv (f v : Nat) : Prop := match f with
  | 0 => v ≤ 8 | 1 => v ≤ 9 | 2 => v ≤ 1000 | 3 => v ≤ 6 | 4 => v ≤ 9 | 5 => v ≤ 1000 | 6 => v ≤ 1030 | 7 => v ≤ 20 | 8 => v ≤ 40 | 9 => v ≤ 7
  | 10 => v ≤ 9 ∨ v = 4294967295 | 11 => v ≤ 1000 | 12 => v ≤ 8 | 13 => v ≤ 9 | 14 => v ≤ 1020 | 15 => v ≤ 6 | 16 => v ≤ 1000 | 17 => v < 65536
  | 19 => v < 40 | 21 => v < 40 | 23 => v ≤ 1060 | 24 => v ≤ 1000 | _ => True
def RV (σ : Sg) : Prop := ∀ f i, okv f (σ f i)
theorem RV.b {σ : Sg} (h : RV σ) : RB σ := ⟨⟨h 0 0, h 8 0, h 24 0⟩, fun s => h 7 s, fun r => h 3 r, fun r => ⟨h 1 r, h 2 r⟩, fun k => ⟨h 4 k, h 5 k, h 6 k⟩, fun k => h 17 k, fun i => ⟨h 9 i, h 10 i, h 11 i, h 12 i, h 13 i, h 14 i, h 15 i, h 16 i⟩, fun p => h 23 p, fun k => ⟨h 19 k, h 21 k⟩⟩
theorem RV.xst {σ : Sg} {f i v : Nat} (h : RV σ) (hv : okv f v) : RV (st σ f i v) := by
  intro g j
  by_cases hg : g = f ∧ j = i
  · obtain ⟨rfl, rfl⟩ := hg
    rw [st_s]
    exact hv
  · rw [show st σ f i v g j = σ g j from if_neg hg]
    exact h g j
theorem RV.xwr {σ : Sg} {i c : Nat} (h : RV σ) (hc : c < 65536) : RV (wr σ i c) := (h.xst (f := 17) hc).xst (f := 18) trivial
theorem RV.xwDg {σ : Sg} {i u : Nat} (h : RV σ) : RV (wDg σ i u) := by
  unfold wDg
  split
  · exact h.xwr (by omega)
  · exact h
theorem RV.xwDay {σ : Sg} {i : Nat} (h : RV σ) : RV (wDay σ i) := h.xwDg.xwDg.xwDg.xwDg
theorem RV.xshS {σ : Sg} {i : Nat} (h : RV σ) : RV (shS σ i) := by
  intro g j
  unfold shS
  split
  · rename_i z
    rw [z.1]
    exact h 17 (j - 1)
  · split
    · rename_i z
      rw [z.1]
      exact (by decide : (45 : Nat) < 65536)
    · split
      · rename_i z
        rw [z.1]
        trivial
      · exact h g j
theorem RV.xdi {σ : Sg} {i : Nat} (h : RV σ) (hi : i < 40) : RV (di σ i) := (((h.xst (f := 12) (by decide : (5 : Nat) ≤ 8)).xwr (by decide)).xst (f := 19) hi).xst (f := 20) trivial
theorem RV.xdlv {σ : Sg} {i : Nat} (h : RV σ) (hi : i < 40) : RV (dlv σ i) := ((((h.xst (f := 12) (by decide : (1 : Nat) ≤ 8)).xwr (by decide)).xst (f := 16) (h 24 0)).xst (f := 21) hi).xst (f := 22) trivial
theorem RV.xhld {σ : Sg} {i : Nat} (h : RV σ) : RV (hld σ i) := by
  unfold hld
  refine RV.xst ?_ (by decide : (0 : Nat) ≤ 8)
  split
  · exact h
  · exact (h.xwr (by decide)).xwr (by decide)
theorem RV.xgo {σ : Sg} {i p : Nat} (h : RV σ) (hi : i < 40) (hp : p ≤ 9) : RV (go σ i p) := by
  unfold go
  split
  · exact h.xdi hi
  · rename_i h6
    have h1 : σ 24 0 ≤ 1000 := h 24 0
    have h2 : σ 13 i ≤ 9 := h 13 i
    have h3 : dist (σ 13 i) p ≤ 9 := by unfold dist; split <;> omega
    have h4 : σ 15 i ≤ 6 := h 15 i
    exact (((((h.xshS.xwr (by decide)).xwr (by omega)).xst (f := 14) (by show _ ≤ 1020; omega)).xst (f := 13) hp).xst (f := 12) (by decide : (3 : Nat) ≤ 8)).xst (f := 15) (by show _ ≤ 6; omega)
theorem RV.xha {σ : Sg} {i : Nat} (h : RV σ) (hi : i < 40) : RV (ha σ i) := by
  unfold ha
  split
  · exact h.xhld
  · split
    · exact h.xdlv hi
    · split
      · exact h.xst (f := 12) (by decide : (2 : Nat) ≤ 8)
      · split
        · exact h.xgo hi (h 4 _)
        · exact h.xst (f := 12) (by decide : (4 : Nat) ≤ 8)
/-- all but letter i (and the lists of the dead and of the delivered) is as it was -/
def Sm (σ σ' : Sg) (i : Nat) : Prop := (∀ g j, (g < 12 ∨ 22 < g) → σ' g j = σ g j) ∧ (∀ g j, 12 ≤ g → g ≤ 18 → g ≠ 17 → j ≠ i → σ' g j = σ g j) ∧ ∀ j, (j < 200 * i ∨ 200 * i + 200 ≤ j) → σ' 17 j = σ 17 j
theorem Sm.rf {σ : Sg} {i : Nat} : Sm σ σ i := ⟨fun _ _ _ => rfl, fun _ _ _ _ _ _ => rfl, fun _ _ => rfl⟩
theorem Sm.tr {σ σ1 σ2 : Sg} {i : Nat} (h1 : Sm σ σ1 i) (h2 : Sm σ1 σ2 i) : Sm σ σ2 i := ⟨fun g j z => (h2.1 g j z).trans (h1.1 g j z), fun g j a b c d => (h2.2.1 g j a b c d).trans (h1.2.1 g j a b c d), fun j z => (h2.2.2 j z).trans (h1.2.2 j z)⟩
theorem Sm.xst {σ : Sg} {i f v : Nat} (h1 : 12 ≤ f) (h2 : f ≤ 18) (h3 : f ≠ 17) : Sm σ (st σ f i v) i := ⟨fun g j z => st_f (by omega), fun g j _ _ _ d => st_i d, fun j _ => st_f (Ne.symm h3)⟩
theorem Sm.sl {σ : Sg} {i f k v : Nat} (h1 : 19 ≤ f) (h2 : f ≤ 22) : Sm σ (st σ f k v) i := ⟨fun g j z => st_f (by omega), fun g j a b _ d => st_f (by omega), fun j _ => st_f (by omega)⟩
theorem Sm.xwr {σ : Sg} {i c : Nat} (h : σ 18 i < 200) : Sm σ (wr σ i c) i := by
  unfold wr
  refine Sm.tr (σ1 := st σ 17 (200 * i + σ 18 i) c) ⟨fun g j z => st_f (by omega), fun g j _ _ c9 _ => st_f c9, fun j z => st_i (by omega)⟩ (Sm.xst (by decide) (by decide) (by decide))
theorem Sm.xwDg {σ : Sg} {i u : Nat} (h : σ 18 i < 200) : Sm σ (wDg σ i u) i := by
  unfold wDg
  split
  · exact Sm.xwr h
  · exact Sm.rf
theorem Sm.xwDay {σ : Sg} {i : Nat} (h : σ 18 i < 190) : Sm σ (wDay σ i) i := by
  unfold wDay
  have h1 := wDg_18 (σ := σ) (i := i) (u := 1000)
  have h2 := wDg_18 (σ := wDg σ i 1000) (i := i) (u := 100)
  have h3 := wDg_18 (σ := wDg (wDg σ i 1000) i 100) (i := i) (u := 10)
  exact (((Sm.xwDg (by omega)).tr (Sm.xwDg (by omega))).tr (Sm.xwDg (by omega))).tr (Sm.xwDg (by omega))
theorem Sm.xshS {σ : Sg} {i : Nat} (h : σ 18 i < 200) (hp : lpS σ i < σ 18 i) : Sm σ (shS σ i) i := by
  refine ⟨fun g j z => ?_, fun g j a b c d => ?_, fun j z => ?_⟩
  · unfold shS
    rw [if_neg (by omega), if_neg (by omega), if_neg (by omega)]
  · unfold shS
    rw [if_neg (by omega), if_neg (by omega), if_neg (by omega)]
  · unfold shS
    rw [if_neg (by omega), if_neg (by omega), if_neg (by omega)]
/-- there is a port among the marks -/
def hasP (σ : Sg) (i : Nat) : Prop := ∃ k, k < σ 18 i ∧ isPM (σ 17 (200 * i + k))
theorem hasP.lp {σ : Sg} {i : Nat} (h : hasP σ i) : lpS σ i < σ 18 i := by
  obtain ⟨k, h1, h2⟩ := h
  exact (lpF_ge (σ := σ) (i := i) (σ 18 i) h1 h2).2
theorem hasP.xwr {σ : Sg} {i c : Nat} (h : hasP σ i) : hasP (wr σ i c) i := by
  obtain ⟨k, h1, h2⟩ := h
  refine ⟨k, by rw [wr_18]; omega, ?_⟩
  unfold wr
  rw [st_f (by decide), st_i (by omega)]
  exact h2
theorem hasP.xwDg {σ : Sg} {i u : Nat} (h : hasP σ i) : hasP (wDg σ i u) i := by
  unfold wDg
  split
  · exact h.xwr
  · exact h
theorem hasP.xwDay {σ : Sg} {i : Nat} (h : hasP σ i) : hasP (wDay σ i) i := h.xwDg.xwDg.xwDg.xwDg
theorem hasP.of {σ σ' : Sg} {i : Nat} (h : hasP σ i) (h17 : ∀ j, 200 * i ≤ j → j < 200 * i + 200 → σ' 17 j = σ 17 j) (h18 : σ' 18 i = σ 18 i) (hl : σ 18 i ≤ 200) : hasP σ' i := by
  obtain ⟨k, h1, h2⟩ := h
  exact ⟨k, by rw [h18]; exact h1, by rw [h17 _ (by omega) (by omega)]; exact h2⟩
theorem hasP.xst {σ : Sg} {i f j v : Nat} (h : hasP σ i) (hf : f ≠ 17) (hf2 : f ≠ 18) : hasP (st σ f j v) i := by
  obtain ⟨k, h1, h2⟩ := h
  exact ⟨k, by rw [st_f (Ne.symm hf2)]; exact h1, by rw [st_f (Ne.symm hf)]; exact h2⟩
theorem hasP.new {σ : Sg} {i c : Nat} (hc : isPM c) : hasP (wr σ i c) i := by
  refine ⟨σ 18 i, by rw [wr_18]; omega, ?_⟩
  unfold wr
  rw [st_f (by decide), st_s]
  exact hc
