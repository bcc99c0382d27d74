/-! THE LAW: what stands around the system at its start (mine) -/
theorem arr_of {ty : FieldType} {args : Array Value} {s : State} (h : (Cond.arrayClass ty).before args s = true) : ∃ cA, ArrOfT s cA ty ∧ s.vm.findClass ("[" ++ ty.toString) = some cA := by
  obtain ⟨c, k, comp, h1, h2, h3⟩ := Cond.arrayClass_spec h
  exact ⟨c, fun n z => ⟨fun k h => (by cases h), k, h2, comp, h3⟩, h1⟩
theorem arr_ofQ {C : String} {args : Array Value} {s : State} (h : (Cond.arrayOver (.object C)).before args s = true) : ∃ cA, ArrOfT s cA (.object C) ∧ va_RA s cA (.object C) := by
  obtain ⟨comp, c, k, h1, h2, h3, h4, h5⟩ := Cond.arrayOver_spec h
  exact ⟨c, fun n z => ⟨fun k h => (by cases h), k, h3, comp, h4⟩, k, comp, h3, h4, h1, h5⟩
theorem str_of {own tx : String} {k : Nat} {args : Array Value} {s : State} (h : (Cond.stringRef own k tx).before args s = true) (he : (Cond.exactly (.string own k) "java/lang/String").before args s = true) : ∃ a : Nat, vk_R own k tx a s := by
  obtain ⟨a, c, cA, kA, q1, -⟩ := Cond.exactly_spec (args := args) (first := s) (o := none) (s := s) (idx := []) (t := .string own k) (cls := "java/lang/String") he
  exact ⟨a, vk_R.of h q1⟩
set_option maxRecDepth 100000 in
theorem law_K {s : State} {b : Nat} (hts : ∀ w ∈ lw_tbl, w.before #[Value.ref b] s = true) (e : Nat) (mi : Nat) : ∃ G : mG, G.2.2 0 = e ∧ G.2.2 1 = mi ∧ va_K G.1 vwCl (kT G) s := by
  have hin : ∀ w ∈ wsL_law, w.before #[Value.ref b] s = true := fun w h => hts w (wsL_law_in w h)
  obtain ⟨c0, i0, k0⟩ := u_known (C := RJx4a65c) (T := TJx4a65c) (N := 3) (n := 3) hts (by decide +kernel) (hts (.instantiable RJx4a65c 3) (by decide +kernel))
  obtain ⟨c1, i1, k1⟩ := u_known (C := RX0) (T := TX0) (N := 2) (n := 2) hts (by decide +kernel) (hts (.instantiable RX0 2) (by decide +kernel))
  obtain ⟨c2, i2, k2⟩ := u_known (C := RX1) (T := TX1) (N := 10) (n := 10) hts (by decide +kernel) (hts (.instantiable RX1 10) (by decide +kernel))
  obtain ⟨c3, i3, k3⟩ := u_known (C := RX2) (T := TX2) (N := 6) (n := 6) hts (by decide +kernel) (hts (.instantiable RX2 6) (by decide +kernel))
  obtain ⟨c4, i4, k4⟩ := u_known (C := RX3) (T := TX3) (N := 3) (n := 3) hts (by decide +kernel) (hts (.instantiable RX3 3) (by decide +kernel))
  obtain ⟨c5, i5, k5⟩ := u_known (C := RX4) (T := TX4) (N := 6) (n := 6) hts (by decide +kernel) (hts (.instantiable RX4 6) (by decide +kernel))
  obtain ⟨c6, i6, k6⟩ := u_known (C := RX5) (T := TX5) (N := 26) (n := 26) hts (by decide +kernel) (hts (.instantiable RX5 26) (by decide +kernel))
  obtain ⟨a0, r0, s0⟩ := arr_of (hts (.arrayClass .int) (by decide +kernel))
  obtain ⟨a1, r1, s1⟩ := arr_of (hts (.arrayClass .char) (by decide +kernel))
  obtain ⟨a2, r2, s2⟩ := arr_ofQ (hts (.arrayOver (.object "java/lang/Object")) (by decide +kernel))
  obtain ⟨a3, r3, s3⟩ := arr_of (hts (.arrayClass .long) (by decide +kernel))
  refine ⟨((fun k => if k = 0 then c0 else if k = 1 then c1 else if k = 2 then c2 else if k = 3 then c3 else if k = 4 then c4 else if k = 5 then c5 else c6, fun k => if k = 0 then i0 else if k = 1 then i1 else if k = 2 then i2 else if k = 3 then i3 else if k = 4 then i4 else if k = 5 then i5 else i6), fun k => if k = 0 then a0 else if k = 1 then a1 else if k = 2 then a2 else a3, fun k => if k = 0 then e else mi), rfl, rfl, fun c q hq => ?_, fun k q hq => ?_⟩
  · match c, hq with
    | 0, hq => cases hq; exact k0
    | 1, hq => cases hq; exact k1
    | 2, hq => cases hq; exact k2
    | 3, hq => cases hq; exact k3
    | 4, hq => cases hq; exact k4
    | 5, hq => cases hq; exact k5
    | 6, hq => cases hq; exact k6
    | n + 7, hq => simp [vwCl] at hq
  · match k, hq with
    | 0, hq => cases hq; exact ⟨r0, s0⟩
    | 1, hq => cases hq; exact ⟨r1, s1⟩
    | 2, hq => cases hq; exact ⟨r2, s2⟩
    | 3, hq => cases hq; exact ⟨r3, s3⟩
    | n + 4, hq => simp [kT] at hq
set_option maxRecDepth 100000 in
theorem law_env {s : State} {b : Nat} (hts : ∀ w ∈ lw_tbl, w.before #[Value.ref b] s = true) (hgv : (Jvm.Cond.and given_1 narrow_1).before #[Value.ref b] s = true) : ∃ G : mG, va_K G.1 vwCl (kT G) s ∧ sE G (fun q => s.heap.size ≤ q) s s.heap ∧ (∀ q ∈ sXn, va_Nc q.1 q.2 s) := by
  have hg := flat_of_before _ hgv
  have hA : ∀ a : Nat, a < s.heap.size → ¬ (fun q => s.heap.size ≤ q) a := fun a h => Nat.not_le.mpr h
  have hlen : (Term.length (.static "java/util/ArrayList" "DEFAULTCAPACITY_EMPTY_ELEMENTDATA" "[Ljava/lang/Object;")).eval #[Value.ref b] s none [] s = some (.int (Int32.ofNat 0)) := by
    have h := hg (Cond.eq (.length (.static "java/util/ArrayList" "DEFAULTCAPACITY_EMPTY_ELEMENTDATA" "[Ljava/lang/Object;")) (.int 0)) (by decide +kernel)
    cases hv : (Term.length (.static "java/util/ArrayList" "DEFAULTCAPACITY_EMPTY_ELEMENTDATA" "[Ljava/lang/Object;")).eval #[Value.ref b] s none [] s with
    | none => simp [Cond.before, Cond.holds, Cond.value, hv] at h
    | some w =>
      have hz : (Term.int 0).eval #[Value.ref b] s none [] s = some (.int 0) := rfl
      simp only [Cond.before, Cond.holds, Cond.value, hv, hz] at h
      cases w <;> simp_all
  obtain ⟨t, ht, hT⟩ := va_Tof (tm := .static "java/util/ArrayList" "DEFAULTCAPACITY_EMPTY_ELEMENTDATA" "[Ljava/lang/Object;") (ty := .object "java/lang/Object") (N := 0) (f := fun _ => .null) (by decide) (hg _ (by decide +kernel)) hlen (fun j hj => absurd hj (Nat.not_lt_zero j)) hA
  obtain ⟨mi, hmi⟩ := va_Mi.of (C := "[Ljava/lang/Object;") (hg (Cond.isRef (.mirror "[Ljava/lang/Object;")) (by decide +kernel))
  obtain ⟨G, ge, gm, hK⟩ := law_K hts t mi
  refine ⟨G, hK, ⟨⟨vx_Zqof (hts _ (by decide +kernel)) (hts _ (by decide +kernel)) (hg _ (by decide +kernel)) hA, vx_Zqof (hts _ (by decide +kernel)) (hts _ (by decide +kernel)) (hg _ (by decide +kernel)) hA, by rw [ge]; exact va_Zof (hts _ (by decide +kernel)) (hts _ (by decide +kernel)) ht hA, by rw [ge]; exact hT⟩, ?_, ?_, ?_, va_AO.of (hts _ (by decide +kernel)), va_Dc.of (hts _ (by decide +kernel)), by rw [gm]; exact hmi, ?_, ?_⟩, ?_⟩
  · intro q hq
    have h1 : ∀ q ∈ sTx, Cond.stringRef RX4 q.1 q.2 ∈ lw_tbl := by decide +kernel
    have h2 : ∀ q ∈ sTx, Cond.exactly (.string RX4 q.1) "java/lang/String" ∈ flatC (Jvm.Cond.and given_1 narrow_1) := by decide +kernel
    exact str_of (hts _ (h1 q hq)) (hg _ (h2 q hq))
  · intro q hq
    have h1 : ∀ q ∈ sLn, Cond.methodLinkNest q.1 q.2.1 q.2.2 RX4 ∈ lw_tbl := by decide +kernel
    exact va_Nw.of rfl (hts _ (h1 q hq))
  · intro q hq
    have h1 : ∀ q ∈ sCa, Cond.castable q "java/lang/Object" ∈ lw_tbl := by decide +kernel
    exact va_Nw.of rfl (hts _ (h1 q hq))
  · intro q hq
    have h1 : ∀ q ∈ sXm, Cond.declares q ∈ lw_tbl := by decide +kernel
    exact va_Nw.of rfl (hts _ (h1 q hq))
  · intro q hq
    have h1 : ∀ q ∈ sXc, Cond.castable q q ∈ lw_tbl := by decide +kernel
    exact va_Nw.of rfl (hts _ (h1 q hq))
  · intro q hq
    have h1 : ∀ q ∈ sXn, Cond.not (.castable q.1 q.2) ∈ flatC (Jvm.Cond.and given_1 narrow_1) := by decide +kernel
    exact va_Nc.of (hg _ (h1 q hq))
theorem flg {l : Launch} (h : l.flags = flags0) : l.stackTraces = false := by
  unfold Launch.stackTraces
  rw [h]
  decide +kernel
