/-! THE SYSTEM'S STATE AS NUMBERS (mine): s f i is place i of row f; rows bear the numbers of the reference's fields (0 ships, 1 toldAt, 2 toldOn, 3 callMany, 4 callPort, 5 arrival, 6 leaving, 7 routeMany, 8 letters, 9 its, 10 homeOf, 11 postedOn, 12 stateOf, 13 portOf, 14 comesOn, 15 sent, 16 deliveredOn, 17 markOf, 18 markMany, 19 died, 20 deadMany, 21 handed, 22 handedMany, 23 opens, 24 today, 25 thrown); 4294967295 is -1. -/
abbrev Sg : Type := Nat → Nat → Nat
def st (σ : Sg) (f i v : Nat) : Sg := fun g j => if g = f ∧ j = i then v else σ g j
theorem st_s {σ : Sg} {f i v : Nat} : st σ f i v f i = v := if_pos ⟨rfl, rfl⟩
theorem st_f {σ : Sg} {f i v g j : Nat} (h : g ≠ f) : st σ f i v g j = σ g j := if_neg (fun z => h z.1)
theorem st_i {σ : Sg} {f i v g j : Nat} (h : j ≠ i) : st σ f i v g j = σ g j := if_neg (fun z => h z.2)
def dist (a b : Nat) : Nat := if b < a then a - b else b - a
def wdd (a b : Nat) : Nat := if a = b then 0 else (dist a b + 2) / 3
/-- the port of the last of n calls from place b on that holds today -/
def plF (σ : Sg) (b : Nat) : Nat → Nat
  | 0 => 4294967295
  | n + 1 => if σ 5 (b + n) ≤ σ 24 0 ∧ σ 24 0 ≤ σ 6 (b + n) then σ 4 (b + n) else plF σ b n
def plS (σ : Sg) (s : Nat) : Nat := if 0 < σ 7 s then plF σ (6 * (21 * s + (σ 7 s - 1))) (σ 3 (21 * s + (σ 7 s - 1))) else 4294967295
def woF (σ : Sg) (p s : Nat) : Nat → Nat
  | 0 => 4294967295
  | n + 1 => if σ 2 (21 * s + n) + wdd (σ 1 (21 * s + n)) p ≤ σ 24 0 then n else woF σ p s n
def woS (σ : Sg) (p s : Nat) : Nat := woF σ p s (σ 7 s)
def beF (σ : Sg) (s : Nat) : Nat → Nat
  | 0 => 0
  | p + 1 => beF σ s p + (if 0 < σ 7 s ∧ woS σ p s ≠ σ 7 s - 1 then 1 else 0)
/-- a mark is written -/
def wr (σ : Sg) (l c : Nat) : Sg := st (st σ 17 (200 * l + σ 18 l) c) 18 l (σ 18 l + 1)
def wDg (σ : Sg) (l u : Nat) : Sg := if u ≤ σ 24 0 ∨ u = 1 then wr σ l (48 + σ 24 0 / u % 10) else σ
def wDay (σ : Sg) (l : Nat) : Sg := wDg (wDg (wDg (wDg σ l 1000) l 100) l 10) l 1
abbrev isPM (c : Nat) : Prop := 65 ≤ c ∧ c ≤ 74
/-- the place of the last port among the first n marks of letter l -/
def lpF (σ : Sg) (l : Nat) : Nat → Nat
  | 0 => 4294967295
  | n + 1 => if isPM (σ 17 (200 * l + n)) then n else lpF σ l n
def lpS (σ : Sg) (l : Nat) : Nat := lpF σ l (σ 18 l)
/-- a - goes in ahead of it -/
def shS (σ : Sg) (l : Nat) : Sg := fun g j => if g = 17 ∧ 200 * l + lpS σ l < j ∧ j ≤ 200 * l + σ 18 l then σ 17 (j - 1) else if g = 17 ∧ j = 200 * l + lpS σ l then 45 else if g = 18 ∧ j = l then σ 18 l + 1 else σ g j
abbrev shut (σ : Sg) (p : Nat) : Prop := σ 24 0 < σ 23 p
def di (σ : Sg) (l : Nat) : Sg := st (st (wr (st σ 12 l 5) l 43) 19 (σ 20 0) l) 20 0 (σ 20 0 + 1)
def chF (σ : Sg) (b p : Nat) : Nat → Bool
  | 0 => false
  | n + 1 => chF σ b p n || (decide (σ 4 (b + n) = p) && decide (σ 24 0 < σ 5 (b + n)))
abbrev thr (σ : Sg) (p k : Nat) : Nat := σ 24 0 + dist p (σ 4 k) + 1
abbrev mtg (σ : Sg) (p k : Nat) : Nat := if σ 5 k < thr σ p k then thr σ p k else σ 5 k
def mtF (σ : Sg) (b p : Nat) : Nat → Nat × Nat
  | 0 => (4294967295, 0)
  | n + 1 => if σ 4 (b + n) ≠ p ∧ thr σ p (b + n) ≤ σ 6 (b + n) ∧ ((mtF σ b p n).1 = 4294967295 ∨ mtg σ p (b + n) < (mtF σ b p n).2) then (b + n, mtg σ p (b + n)) else mtF σ b p n
def go (σ : Sg) (l p : Nat) : Sg :=
  if σ 15 l = 6 then di σ l else
    st (st (st (st (wr (wr (shS σ l) l 62) l (65 + p)) 14 l (σ 24 0 + dist (σ 13 l) p + 1)) 13 l p) 12 l 3) 15 l (σ 15 l + 1)
def dlv (σ : Sg) (l : Nat) : Sg := st (st (st (wr (st σ 12 l 1) l 33) 16 l (σ 24 0)) 21 (σ 22 0) l) 22 0 (σ 22 0 + 1)
def hld (σ : Sg) (l : Nat) : Sg := st (if σ 12 l = 0 then σ else wr (wr σ l 55357) l 57003) 12 l 0
abbrev roW (σ : Sg) (l : Nat) : Nat := 21 * σ 9 l + (if woS σ (σ 13 l) (σ 9 l) = 4294967295 then 0 else woS σ (σ 13 l) (σ 9 l))
abbrev meS (σ : Sg) (l : Nat) : Nat := (mtF σ (6 * roW σ l) (σ 13 l) (σ 3 (roW σ l))).1
def ha (σ : Sg) (l : Nat) : Sg :=
  if shut σ (σ 13 l) then hld σ l
  else if plS σ (σ 9 l) = σ 13 l then dlv σ l
  else if woS σ (σ 13 l) (σ 9 l) ≠ 4294967295 ∧ chF σ (6 * roW σ l) (σ 13 l) (σ 3 (roW σ l)) = true then st σ 12 l 2
  else if woS σ (σ 13 l) (σ 9 l) ≠ 4294967295 ∧ meS σ l ≠ 4294967295 then go σ l (σ 4 (meS σ l))
  else st σ 12 l 4
/-- a letter is posted: p the port, s the ship, h the home -/
def poN (σ : Sg) (p s h : Nat) : Sg := st (st (st (st (st (st σ 8 0 (σ 8 0 + 1)) 9 (σ 8 0) s) 10 (σ 8 0) h) 11 (σ 8 0) (σ 24 0)) 13 (σ 8 0) p) 12 (σ 8 0) 8
def po (σ : Sg) (p s h : Nat) : Sg := ha (wDay (wr (poN σ p s h) (σ 8 0) (65 + p)) (σ 8 0)) (σ 8 0)
abbrev cmes (σ : Sg) (l : Nat) : Prop := σ 12 l = 3 ∧ σ 14 l ≤ σ 24 0 ∧ ¬ shut σ (σ 13 l)
abbrev lies (σ : Sg) (l : Nat) : Prop := σ 12 l = 0 ∨ σ 12 l = 2 ∨ σ 12 l = 4
def daA (σ : Sg) (l : Nat) : Sg := if cmes σ l then wDay σ l else σ
def da (σ : Sg) (l : Nat) : Sg :=
  if (cmes σ l ∨ lies σ l) ∧ 60 ≤ σ 24 0 - σ 11 l then di (daA σ l) l
  else if cmes σ l ∨ lies σ l then ha (daA σ l) l else daA σ l
def daN (σ : Sg) : Nat → Sg
  | 0 => σ
  | n + 1 => da (daN σ n) n
def opn (σ : Sg) (k : Nat) : Sg := if σ 10 (σ 19 k) = 4294967295 then wr (st σ 12 (σ 19 k) 7) (σ 19 k) 42 else wr (wr (st σ 12 (σ 19 k) 6) (σ 19 k) 60) (σ 19 k) (65 + σ 10 (σ 19 k))
def opN (σ : Sg) : Nat → Sg
  | 0 => σ
  | n + 1 => opn (opN σ n) n
def off (σ : Sg) : Sg := st (opN σ (σ 20 0)) 20 0 0
def dyA (σ : Sg) : Sg := daN (st σ 24 0 (σ 24 0 + 1)) (σ 8 0)
def dy (σ : Sg) : Sg := if (σ 24 0 + 1) % 10 = 0 then off (dyA σ) else dyA σ
def dyN (σ : Sg) : Nat → Sg
  | 0 => σ
  | n + 1 => dy (dyN σ n)
