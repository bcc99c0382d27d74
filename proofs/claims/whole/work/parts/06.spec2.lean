/-! WHAT THE CALLS DO (mine): th.. which exception (0 none), the answers, the states behind -/
def thA (σ : Sg) : Nat := if σ 0 0 = 8 then 1 else 0
def nxA (σ : Sg) : Sg := st σ 0 0 (σ 0 0 + 1)
def thC (σ : Sg) (u p a d : Nat) : Nat := if ¬ (u < σ 0 0 ∧ p < 10) then 1 else if ¬ (a < 1001 ∧ d < 31) then 2 else if σ 3 (21 * u + 20) < 6 ∧ (σ 3 (21 * u + 20) = 0 ∨ σ 6 (6 * (21 * u + 20) + σ 3 (21 * u + 20) - 1) < a) then 0 else 3
def nxC (σ : Sg) (u p a d : Nat) : Sg := st (st (st (st σ 4 (6 * (21 * u + 20) + σ 3 (21 * u + 20)) p) 5 (6 * (21 * u + 20) + σ 3 (21 * u + 20)) a) 6 (6 * (21 * u + 20) + σ 3 (21 * u + 20)) (a + d)) 3 (21 * u + 20) (σ 3 (21 * u + 20) + 1)
def thT (σ : Sg) (u p : Nat) : Nat := if ¬ (u < σ 0 0 ∧ p < 10) then 1 else if σ 7 u = 20 then 2 else 0
def cpN (σ : Sg) (b d : Nat) : Nat → Sg
  | 0 => σ
  | n + 1 => st (st (st (cpN σ b d n) 4 (b + n) (σ 4 (d + n))) 5 (b + n) (σ 5 (d + n))) 6 (b + n) (σ 6 (d + n))
def nxT (σ : Sg) (u p : Nat) : Sg := st (st (cpN (st (st (st σ 1 (21 * u + σ 7 u) p) 2 (21 * u + σ 7 u) (σ 24 0)) 3 (21 * u + σ 7 u) (σ 3 (21 * u + 20))) (6 * (21 * u + σ 7 u)) (6 * (21 * u + 20)) (σ 3 (21 * u + 20))) 3 (21 * u + 20) 0) 7 u (σ 7 u + 1)
def thS (σ : Sg) (u : Nat) : Nat := if u < σ 0 0 then 0 else 1
def thW (σ : Sg) (p u : Nat) : Nat := if p < 10 ∧ u < σ 0 0 then 0 else 1
def thP (σ : Sg) (p u h : Nat) : Nat := if ¬ (p < 10 ∧ u < σ 0 0 ∧ (h < 10 ∨ h = 4294967295)) then 1 else if σ 8 0 = 40 then 2 else 0
def thK (σ : Sg) (p d : Nat) : Nat := if ¬ p < 10 then 1 else if 1 ≤ d ∧ d < 61 then 0 else 2
def opS (σ : Sg) (p d : Nat) : Nat := if σ 23 p < σ 24 0 + d then σ 24 0 + d else σ 23 p
def nxK (σ : Sg) (p d : Nat) : Sg := st σ 23 p (opS σ p d)
def thI (_ : Sg) (p : Nat) : Nat := if p < 10 then 0 else 1
def thD (σ : Sg) (d : Nat) : Nat := if ¬ (1 ≤ d ∧ d < 61) then 1 else if 1000 < σ 24 0 + d then 2 else 0
def thL (σ : Sg) (i : Nat) : Nat := if i < σ 8 0 then 0 else 1
def whS (σ : Sg) (i : Nat) : Nat := if σ 12 i = 3 then 4294967294 else if σ 12 i = 1 then 4294967293 else if σ 12 i = 5 ∨ σ 12 i = 7 then 4294967292 else if σ 12 i = 6 then σ 10 i else σ 13 i
/-- read off the marks -/
def wmS (σ : Sg) (i : Nat) : Nat := if σ 17 (200 * i + σ 18 i - 1) = 33 then 4294967293 else if σ 17 (200 * i + σ 18 i - 1) = 43 ∨ σ 17 (200 * i + σ 18 i - 1) = 42 then 4294967292 else if lpS σ i = σ 18 i - 1 ∧ σ 17 (200 * i + lpS σ i - 1) = 62 then 4294967294 else σ 17 (200 * i + lpS σ i) - 65
def coS (σ : Sg) (i : Nat) : Nat := if σ 12 i = 3 then 100 * σ 14 i + σ 13 i else 4294967295
def ovF (σ : Sg) (i : Nat) : Nat → Nat
  | 0 => 0
  | n + 1 => ovF σ i n + (if σ 9 n = σ 9 i ∧ σ 12 n = 1 ∧ σ 16 i < σ 16 n then 1 else 0)
def ovS (σ : Sg) (i : Nat) : Nat := if σ 12 i = 1 then ovF σ i i else 0
def lyF (σ : Sg) (p : Nat) : Nat → Nat
  | 0 => 0
  | n + 1 => lyF σ p n + (if lies σ n ∧ σ 13 n = p then 1 else 0)
def thO (σ : Sg) (k : Nat) : Nat := if k < σ 20 0 then 0 else 1
def thV (σ : Sg) (u k : Nat) : Nat := if ¬ u < σ 0 0 then 1 else if 2147483648 ≤ k then 2 else 0
/-- the letters handed to a ship, among the first n handed: how many, and which is the k-th -/
def rcF (σ : Sg) (u : Nat) : Nat → Nat
  | 0 => 0
  | n + 1 => rcF σ u n + (if σ 9 (σ 21 n) = u then 1 else 0)
def dvF (σ : Sg) (u k : Nat) : Nat → Nat
  | 0 => 4294967295
  | n + 1 => if dvF σ u k n ≠ 4294967295 then dvF σ u k n else if σ 9 (σ 21 n) = u ∧ rcF σ u n = k then σ 21 n else 4294967295
def thM (σ : Sg) (i k : Nat) : Nat := if i < σ 8 0 ∧ k < σ 18 i then 0 else 1
/-- the place of the port that is the k-th from the end, among the first n marks -/
def ptF (σ : Sg) (i k : Nat) : Nat → Nat
  | 0 => 4294967295
  | n + 1 => if isPM (σ 17 (200 * i + n)) then (if k = 0 then n else ptF σ i (k - 1) n) else ptF σ i k n
def ptS (σ : Sg) (i k : Nat) : Nat := ptF σ i k (σ 18 i)
def thN (σ : Sg) (i k : Nat) : Nat := if ¬ (i < σ 8 0 ∧ k < 2147483648) then 1 else if ptS σ i k = 4294967295 then 1 else 0
def wtS (σ : Sg) (i k : Nat) : Nat := 10 * (σ 17 (200 * i + ptS σ i k) - 65) + (if 0 < ptS σ i k ∧ σ 17 (200 * i + ptS σ i k - 1) = 45 then 1 else 0)
/-- a call's end: it throws, or it answers rs and nx is the state -/
def rPost (th rs : Nat) (nx σ : Sg) : Int32 → Sg → Prop := fun r σ9 => (th = 0 → r = nI rs ∧ σ9 = nx) ∧ (th ≠ 0 → σ9 = st σ 25 0 th)
theorem rP_x {th rs : Nat} {nx σ σ9 : Sg} {r : Int32} {k : Nat} (h : th = k) (hk : k ≠ 0) (hs : σ9 = st σ 25 0 k) : rPost th rs nx σ r σ9 := ⟨fun z => absurd (h.symm.trans z) hk, fun _ => by rw [h]; exact hs⟩
theorem rP_0 {th rs : Nat} {nx σ σ9 : Sg} {r : Int32} (h : th = 0) (hr : r = nI rs) (hs : σ9 = nx) : rPost th rs nx σ r σ9 := ⟨fun _ => ⟨hr, hs⟩, fun z => absurd h z⟩
