/-! HANDLINGS KEEP THE INVARIANT (mine) -/
theorem wr_12 {σ : Sg} {i c : Nat} (j : Nat) : wr σ i c 12 j = σ 12 j := wr_f (by decide)
theorem Ls.of3 {σ σ' : Sg} {i : Nat} (h1 : σ' 12 i ≠ 1) (h5 : σ' 12 i ≠ 5) (h : ∀ g j, 19 ≤ g → g ≤ 22 → σ' g j = σ g j) : Ls σ σ' i := Or.inl ⟨h1, h5, h⟩
theorem di_ok {σ : Sg} {i : Nat} (hl : σ 18 i < 200) : Sm σ (di σ i) i ∧ Ls σ (di σ i) i ∧ di σ i 12 i = 5 ∧ di σ i 18 i = σ 18 i + 1 ∧ di σ i 15 i = σ 15 i ∧ (hasP σ i → hasP (di σ i) i) := by
  have a1 : Sm σ (st σ 12 i 5) i := Sm.xst (by decide) (by decide) (by decide)
  have a2 : Sm (st σ 12 i 5) (wr (st σ 12 i 5) i 43) i := Sm.xwr (by rw [st_f (by decide)]; exact hl)
  refine ⟨((a1.tr a2).tr (Sm.sl (by decide) (by decide))).tr (Sm.sl (by decide) (by decide)), Or.inr (Or.inr ⟨?_, ?_, ?_, ?_, ?_, ?_⟩), ?_, ?_, ?_, ?_⟩
  · unfold di; rw [st_f (by decide), st_f (by decide), wr_12, st_s]
  · intro j; unfold di; rw [st_f (by decide), st_f (by decide), wr_f (by decide), st_f (by decide)]
  · intro j; unfold di; rw [st_f (by decide), st_f (by decide), wr_f (by decide), st_f (by decide)]
  · unfold di; rw [st_s]
  · unfold di; rw [st_f (by decide), st_s]
  · intro k hk; unfold di; rw [st_f (by decide), st_i (by omega), wr_f (by decide), st_f (by decide)]
  · unfold di; rw [st_f (by decide), st_f (by decide), wr_12, st_s]
  · unfold di; rw [st_f (by decide), st_f (by decide), wr_18, st_f (by decide)]
  · unfold di; rw [st_f (by decide), st_f (by decide), wr_f (by decide), st_f (by decide)]
  · intro h; unfold di; exact (((h.xst (by decide) (by decide)).xwr).xst (by decide) (by decide)).xst (by decide) (by decide)
theorem dlv_ok {σ : Sg} {i : Nat} (hl : σ 18 i < 200) : Sm σ (dlv σ i) i ∧ Ls σ (dlv σ i) i ∧ dlv σ i 12 i = 1 ∧ dlv σ i 18 i = σ 18 i + 1 ∧ dlv σ i 15 i = σ 15 i ∧ (hasP σ i → hasP (dlv σ i) i) := by
  have a1 : Sm σ (st σ 12 i 1) i := Sm.xst (by decide) (by decide) (by decide)
  have a2 : Sm (st σ 12 i 1) (wr (st σ 12 i 1) i 33) i := Sm.xwr (by rw [st_f (by decide)]; exact hl)
  refine ⟨(((a1.tr a2).tr (Sm.xst (by decide) (by decide) (by decide))).tr (Sm.sl (by decide) (by decide))).tr (Sm.sl (by decide) (by decide)), Or.inr (Or.inl ⟨?_, ?_, ?_, ?_, ?_, ?_⟩), ?_, ?_, ?_, ?_⟩
  · unfold dlv; rw [st_f (by decide), st_f (by decide), st_f (by decide), wr_12, st_s]
  · intro j; unfold dlv; rw [st_f (by decide), st_f (by decide), st_f (by decide), wr_f (by decide), st_f (by decide)]
  · intro j; unfold dlv; rw [st_f (by decide), st_f (by decide), st_f (by decide), wr_f (by decide), st_f (by decide)]
  · unfold dlv; rw [st_s]
  · unfold dlv; rw [st_f (by decide), st_s]
  · intro k hk; unfold dlv; rw [st_f (by decide), st_i (by omega), st_f (by decide), wr_f (by decide), st_f (by decide)]
  · unfold dlv; rw [st_f (by decide), st_f (by decide), st_f (by decide), wr_12, st_s]
  · unfold dlv; rw [st_f (by decide), st_f (by decide), st_f (by decide), wr_18, st_f (by decide)]
  · unfold dlv; rw [st_f (by decide), st_f (by decide), st_f (by decide), wr_f (by decide), st_f (by decide)]
  · intro h; unfold dlv; exact ((((h.xst (by decide) (by decide)).xwr).xst (by decide) (by decide)).xst (by decide) (by decide)).xst (by decide) (by decide)
theorem hld_ok {σ : Sg} {i : Nat} (hl : σ 18 i < 190) : Sm σ (hld σ i) i ∧ Ls σ (hld σ i) i ∧ hld σ i 12 i = 0 ∧ ((σ 12 i = 0 ∧ hld σ i 18 i = σ 18 i) ∨ (σ 12 i ≠ 0 ∧ hld σ i 18 i = σ 18 i + 2)) ∧ hld σ i 15 i = σ 15 i ∧ (hasP σ i → hasP (hld σ i) i) := by
  by_cases h0 : σ 12 i = 0
  · have e : hld σ i = st σ 12 i 0 := by unfold hld; rw [if_pos h0]
    rw [e]
    refine ⟨Sm.xst (by decide) (by decide) (by decide), Ls.of3 (by rw [st_s]; decide) (by rw [st_s]; decide) (fun g j a b => st_f (by omega)), st_s, Or.inl ⟨h0, st_f (by decide)⟩, st_f (by decide), fun h => h.xst (by decide) (by decide)⟩
  · have e : hld σ i = st (wr (wr σ i 55357) i 57003) 12 i 0 := by unfold hld; rw [if_neg h0]
    rw [e]
    refine ⟨((Sm.xwr (by omega)).tr (Sm.xwr (by rw [wr_18]; omega))).tr (Sm.xst (by decide) (by decide) (by decide)), Ls.of3 (by rw [st_s]; decide) (by rw [st_s]; decide) (fun g j a b => by rw [st_f (by omega), wr_f (by omega), wr_f (by omega)]), st_s, Or.inr ⟨h0, by rw [st_f (by decide), wr_18, wr_18]⟩, by rw [st_f (by decide), wr_f (by decide), wr_f (by decide)], fun h => (h.xwr.xwr).xst (by decide) (by decide)⟩
theorem set_ok {σ : Sg} {i v : Nat} (h1 : v ≠ 1) (h5 : v ≠ 5) : Sm σ (st σ 12 i v) i ∧ Ls σ (st σ 12 i v) i ∧ st σ 12 i v 12 i = v ∧ st σ 12 i v 18 i = σ 18 i ∧ st σ 12 i v 15 i = σ 15 i ∧ (hasP σ i → hasP (st σ 12 i v) i) :=
  ⟨Sm.xst (by decide) (by decide) (by decide), Ls.of3 (by rw [st_s]; exact h1) (by rw [st_s]; exact h5) (fun g j a b => st_f (by omega)), st_s, st_f (by decide), st_f (by decide), fun h => h.xst (by decide) (by decide)⟩
theorem go_ok {σ : Sg} {i p : Nat} (hl : σ 18 i < 180) (hp : hasP σ i) (hq : p ≤ 9) (h6 : σ 15 i ≠ 6) : Sm σ (go σ i p) i ∧ Ls σ (go σ i p) i ∧ go σ i p 12 i = 3 ∧ go σ i p 18 i = σ 18 i + 3 ∧ go σ i p 15 i = σ 15 i + 1 ∧ hasP (go σ i p) i := by
  have e : go σ i p = st (st (st (st (wr (wr (shS σ i) i 62) i (65 + p)) 14 i (σ 24 0 + dist (σ 13 i) p + 1)) 13 i p) 12 i 3) 15 i (σ 15 i + 1) := by unfold go; rw [if_neg h6]
  have h1 : shS σ i 18 i = σ 18 i + 1 := shS_18
  have h2 : wr (shS σ i) i 62 18 i = σ 18 i + 2 := by rw [wr_18, h1]
  rw [e]
  refine ⟨((((((Sm.xshS (by omega) hp.lp).tr (Sm.xwr (by omega))).tr (Sm.xwr (by omega))).tr (Sm.xst (by decide) (by decide) (by decide))).tr (Sm.xst (by decide) (by decide) (by decide))).tr (Sm.xst (by decide) (by decide) (by decide))).tr (Sm.xst (by decide) (by decide) (by decide)), Ls.of3 ?_ ?_ ?_, ?_, ?_, ?_, ?_⟩
  · rw [st_f (by decide), st_s]; decide
  · rw [st_f (by decide), st_s]; decide
  · intro g j a b
    rw [st_f (by omega), st_f (by omega), st_f (by omega), st_f (by omega), wr_f (by omega), wr_f (by omega), shS_f (by omega)]
  · rw [st_f (by decide), st_s]
  · rw [st_f (by decide), st_f (by decide), st_f (by decide), st_f (by decide), wr_18, h2]
  · rw [st_s]
  · exact ((((hasP.new (σ := wr (shS σ i) i 62) (i := i) (c := 65 + p) ⟨by omega, by omega⟩).xst (by decide) (by decide)).xst (by decide) (by decide)).xst (by decide) (by decide)).xst (by decide) (by decide)
/-- what Sm says of the fields that a letter's invariant reads -/
theorem Sm.f {σ σ' : Sg} {i : Nat} (hm : Sm σ σ' i) : σ' 0 0 = σ 0 0 ∧ σ' 8 0 = σ 8 0 ∧ σ' 24 0 = σ 24 0 ∧ (∀ j, σ' 9 j = σ 9 j) ∧ (∀ j, σ' 10 j = σ 10 j) ∧ ∀ j, σ' 11 j = σ 11 j :=
  ⟨hm.1 0 0 (Or.inl (by decide)), hm.1 8 0 (Or.inl (by decide)), hm.1 24 0 (Or.inr (by decide)), fun j => hm.1 9 j (Or.inl (by decide)), fun j => hm.1 10 j (Or.inl (by decide)), fun j => hm.1 11 j (Or.inl (by decide))⟩
theorem ha_ok {σ : Sg} {i : Nat} (hV : RV σ) (h : HR σ i) : Sm σ (ha σ i) i ∧ Ls σ (ha σ i) i ∧ LI (ha σ i) (σ 24 0) i := by
  obtain ⟨h1, h2, h3, h4, h5, h6, h7, h8, h9⟩ := h
  have h15 : σ 15 i ≤ 6 := hV 15 i
  have hl : σ 18 i < 180 := by
    by_cases z : σ 12 i = 0
    · have := h8 z; omega
    · have := h9 z; omega
  have key : ∀ (σ' : Sg), Sm σ σ' i → hasP σ' i → 2 ≤ σ' 18 i → σ' 12 i ≤ 7 → lenB σ' (σ 24 0) i → LI σ' (σ 24 0) i := by
    intro σ' hm hp a b c
    obtain ⟨f0, f8, f24, f9, f10, f11⟩ := hm.f
    exact ⟨by rw [f9, f0]; exact h2, by rw [f11]; exact h3, hp, a, b, c⟩
  by_cases c1 : shut σ (σ 13 i)
  · rw [ha_1 c1]
    obtain ⟨a1, a2, a3, a4, a5, a6⟩ := hld_ok (σ := σ) (i := i) (by omega)
    refine ⟨a1, a2, key _ a1 (a6 h6) (by omega) (by omega) ?_⟩
    unfold lenB
    rw [a3, a5, a1.f.2.2.2.2.2 i]
    refine ⟨fun _ => ⟨h4, ?_⟩, fun z => by omega, fun z => by omega, fun z => by omega, ?_⟩
    · rcases a4 with ⟨b1, b2⟩ | ⟨b1, b2⟩
      · have := h8 b1; omega
      · have := h9 b1; omega
    · omega
  · by_cases c2 : plS σ (σ 9 i) = σ 13 i
    · rw [ha_2 c1 c2]
      obtain ⟨a1, a2, a3, a4, a5, a6⟩ := dlv_ok (σ := σ) (i := i) (by omega)
      refine ⟨a1, a2, key _ a1 (a6 h6) (by omega) (by omega) ?_⟩
      unfold lenB
      rw [a3]
      refine ⟨fun z => by omega, fun z => by omega, fun z => by omega, fun z => by omega, ?_⟩
      by_cases z : σ 12 i = 0
      · have := h8 z; omega
      · have := h9 z; omega
    · have lying : ∀ v, v = 2 ∨ v = 4 → Sm σ (st σ 12 i v) i ∧ Ls σ (st σ 12 i v) i ∧ LI (st σ 12 i v) (σ 24 0) i := by
        intro v hv
        obtain ⟨a1, a2, a3, a4, a5, a6⟩ := set_ok (σ := σ) (i := i) (v := v) (by omega) (by omega)
        refine ⟨a1, a2, key _ a1 (a6 h6) (by omega) (by omega) ?_⟩
        unfold lenB
        rw [a3, a4, a5, a1.f.2.2.2.2.2 i]
        refine ⟨fun z => by omega, fun _ => ⟨h4, ?_⟩, fun z => by omega, fun z => by omega, by omega⟩
        by_cases z : σ 12 i = 0
        · have := h8 z; omega
        · have := h9 z; omega
      by_cases c3 : woS σ (σ 13 i) (σ 9 i) = 4294967295
      · rw [ha_5 c1 c2 (Or.inl c3)]
        exact lying 4 (Or.inr rfl)
      · by_cases c4 : chF σ (6 * roW σ i) (σ 13 i) (σ 3 (roW σ i)) = true
        · rw [ha_3 c1 c2 c3 c4]
          exact lying 2 (Or.inl rfl)
        · by_cases c5 : meS σ i = 4294967295
          · rw [ha_5 c1 c2 (Or.inr ⟨c4, c5⟩)]
            exact lying 4 (Or.inr rfl)
          · rw [ha_4 c1 c2 c3 c4 c5]
            by_cases c6 : σ 15 i = 6
            · have e : go σ i (σ 4 (meS σ i)) = di σ i := by unfold go; rw [if_pos c6]
              rw [e]
              obtain ⟨a1, a2, a3, a4, a5, a6⟩ := di_ok (σ := σ) (i := i) (by omega)
              refine ⟨a1, a2, key _ a1 (a6 h6) (by omega) (by omega) ?_⟩
              unfold lenB
              rw [a3]
              have hb : σ 18 i ≤ 6 + 7 * σ 15 i + (σ 24 0 - σ 11 i) := by
                by_cases z : σ 12 i = 0
                · have := h8 z; omega
                · have := h9 z; omega
              exact ⟨fun z => by omega, fun z => by omega, fun z => by omega, fun z => by omega, by omega⟩
            · obtain ⟨a1, a2, a3, a4, a5, a6⟩ := go_ok (σ := σ) (i := i) (p := σ 4 (meS σ i)) (by omega) h6 (hV 4 _) c6
              refine ⟨a1, a2, key _ a1 a6 (by omega) (by omega) ?_⟩
              unfold lenB
              rw [a3, a4, a5, a1.f.2.2.2.2.2 i]
              have hb : σ 18 i ≤ 6 + 7 * σ 15 i + (σ 24 0 - σ 11 i) := by
                by_cases z : σ 12 i = 0
                · have := h8 z; omega
                · have := h9 z; omega
              exact ⟨fun z => by omega, fun z => by omega, fun _ => ⟨by omega, by omega⟩, fun z => by omega, by omega⟩
