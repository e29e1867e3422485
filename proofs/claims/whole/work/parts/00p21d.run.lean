/-! ===== the run over plain numbers, and what holds between calls ===== -/
/-- heat, hold, bend, pull of 12 cells each; springs; clamps; minutes -/
abbrev RS : Type := (Nat → Int32) × (Nat → Int32) × (Nat → Int32) × Int32
def minA (nc : Nat) (x : RS) : RS := (fun k => if k < nc then 3 * x.1 k / 4 else x.1 k, x.2.1, x.2.2.1, x.2.2.2 + 1)
def minsA (nc : Nat) : Nat → RS → RS
  | 0, x => x
  | n + 1, x => minsA nc n (minA nc x)
def hoA (nc : Nat) (N : Nat → Int32) (k : Nat) : Bool := decide (k < nc) && decide (0 < N (12 + k))
def shA (nc : Nat) (N : Nat → Int32) (kd c : Nat) (p : Int32) : Int32 :=
  if kd = 1 then 1
  else if kd = 3 then p - (if hoA nc N (c + 1) then 1 else 0)
  else if kd = 4 then (p - (if hoA nc N (c + 1) then 1 else 0)) - (if (1 ≤ c ∧ hoA nc N (c - 1) = true) ∨ hoA nc N (c + 1) = true then 0 else 1)
  else if kd = 5 then (if hoA nc N c then p / 2 else p)
  else if kd = 6 then -p
  else if kd = 7 then (if 0 < N (24 + c) then -p else p)
  else p
def efA (nc : Nat) (N : Nat → Int32) (kd c : Nat) (p : Int32) : Int32 :=
  if 100 ≤ N c then (8 * shA nc N kd c p / (8 + N (12 + c))) / 2 else 8 * shA nc N kd c p / (8 + N (12 + c))
def heA (kd : Nat) (p : Int32) : Int32 := if kd = 1 then p else if kd = 7 then 6 * p else 4 * p
def hdA (kd : Nat) : Int32 := if kd = 7 then 0 else if kd = 1 ∨ kd = 5 then 1 else 2
def stA (nc kd c : Nat) (p : Int32) (x : RS) : RS :=
  minA nc (fun k =>
      if k = c then x.1 k + heA kd p
      else if k = 12 + c then x.1 k + hdA kd
      else if k = 24 + c then (if x.2.2.1 c = 0 then x.1 k + efA nc x.1 kd c p else x.1 k)
      else if 36 ≤ k ∧ k < 36 + nc then x.1 k + (if k = 36 + c then efA nc x.1 kd c p * (nI nc - 1) else -efA nc x.1 kd c p)
      else x.1 k,
    if x.2.2.1 c = 0 then x.2.1 else upd x.2.1 c (x.2.1 c + efA nc x.1 kd c p), x.2.2.1, x.2.2.2)
def frA (c : Nat) (x : RS) : RS := if x.2.2.1 c = 0 then x else (upd x.1 (24 + c) (x.1 (24 + c) + x.2.1 c / 2), upd x.2.1 c 0, upd x.2.2.1 c 0, x.2.2.2)
def acA (nc : Nat) (A : Nat → Int32) (a : Nat) (x : RS) : RS :=
  if A (4 * a) = 8 then minsA nc (A (4 * a + 1)).toNatClampNeg x
  else if A (4 * a) = 9 then (x.1, x.2.1, upd x.2.2.1 (A (4 * a + 1)).toNatClampNeg 1, x.2.2.2)
  else if A (4 * a) = 10 then frA (A (4 * a + 1)).toNatClampNeg x
  else stA nc (A (4 * a)).toNatClampNeg (A (4 * a + 1)).toNatClampNeg (A (4 * a + 2)) x
def seA (nc na : Nat) (A : Nat → Int32) (s : Int32) (x : RS) : RS := (List.range na).foldl (fun x a => if A (4 * a + 3) = s then acA nc A a x else x) x
def bgA (B : Nat → Int32) : RS := (fun k => if 24 ≤ k ∧ k < 36 then B (k - 24) else 0, fun _ => 0, fun _ => 0, 0)
def frsA (nc : Nat) (x : RS) : RS := (List.range nc).foldl (fun x c => frA c x) x
def sesA (nc na : Nat) (A : Nat → Int32) (wo : Int32) (O : Nat → Int32) (ns : Nat) (x : RS) : RS := (List.range ns).foldl (fun x k => if O k = wo then x else seA nc na A (O k) x) x
def goA (nc ns na : Nat) (A B O : Nat → Int32) (wo : Int32) : RS := frsA nc (sesA nc na A wo O ns (bgA B))
/-- slope and height behind i cells -/
def hgA (N : Nat → Int32) : Nat → Int32 × Int32
  | 0 => (0, 0)
  | i + 1 => ((hgA N i).1 + N (24 + i), (hgA N i).2 + ((hgA N i).1 + N (24 + i)))
def abA (v : Int32) : Int32 := if v < 0 then -v else v
def mxA (nc : Nat) (N : Nat → Int32) : Nat → Int32
  | 0 => 0
  | i + 1 => if mxA nc N i < abA (nI nc * (hgA N i).2 - nI i * (hgA N nc).2) then abA (nI nc * (hgA N i).2 - nI i * (hgA N nc).2) else mxA nc N i
def offA (nc : Nat) (N : Nat → Int32) : Int32 := mxA nc N (nc + 1) / nI nc
/-- orders: all of them, by numbers; those that fit; the nearest -/
def pmA (ns : Nat) : Nat → List Nat → List (List Nat)
  | 0, l => [l]
  | n + 1, l => (List.range ns).flatMap (fun s => if s ∈ l then [] else pmA ns n (l ++ [s]))
def orA (l : List Nat) : Nat → Int32 := fun k => nI (l.getD k 0)
def psA (O : Nat → Int32) (v : Int32) : Nat → Nat
  | 0 => 0
  | k + 1 => if O k = v then k else psA O v k
def ftA (ns nb : Nat) (AH BH O : Nat → Int32) : Bool := (List.range nb).all (fun b => decide (psA O (AH b) ns < psA O (BH b) ns))
def bsA (nc ns na nb : Nat) (A AH BH B : Nat → Int32) (acc : Option (Int32 × List Nat)) (l : List Nat) : Option (Int32 × List Nat) :=
  if ftA ns nb AH BH (orA l) then
    (match acc with
      | none => some (offA nc (goA nc ns na A B (orA l) (-1)).1, l)
      | some q => if offA nc (goA nc ns na A B (orA l) (-1)).1 < q.1 then some (offA nc (goA nc ns na A B (orA l) (-1)).1, l) else some q)
  else acc
def bestA (nc ns na nb : Nat) (A AH BH B : Nat → Int32) : Option (Int32 × List Nat) := (pmA ns ns []).foldl (bsA nc ns na nb A AH BH B) none
/-- the bends that are tried beforehand, in their order -/
def bvA (k : Nat) : Int32 := if k % 2 = 1 then -nI (k / 2) - 1 else nI (k / 2)
def flA (nc ns na : Nat) (A : Nat → Int32) (c k : Nat) : Bool := decide ((goA nc ns na A (fun _ => bvA k) (fun j => nI j) (-1)).1 (24 + c) = 0)
def bfA (nc ns na : Nat) (A : Nat → Int32) (c : Nat) : Nat → Int32
  | 0 => -1000000
  | k + 1 => if bfA nc ns na A c k = -1000000 then (if flA nc ns na A c k then bvA k else -1000000) else bfA nc ns na A c k
def ahA (nc ns na : Nat) (A : Nat → Int32) : Nat → Int32
  | 0 => bfA nc ns na A 0 81
  | c + 1 => if ahA nc ns na A c = -1000000 then -1000000 else bfA nc ns na A (c + 1) 81
def coolN : Nat → Nat → Nat
  | 0, h => h
  | n + 1, h => coolN n (3 * h / 4)
def bt (x : Int32) (i : Nat) : Bool := x.toBitVec.getLsbD i
/-- a panel of the program against the plain run -/
def PRel (nc : Nat) (r he ht ho be sp sk : Nat → Int32) (x : RS) : Prop :=
  r 7 = nI nc ∧ r 8 = x.2.2.2 ∧ (∃ w : Nat, x.2.2.2 = nI w ∧ w < 1000000 ∧ ∀ c, c < nc → ∃ h t : Nat, he c = nI h ∧ h ≤ 480 ∧ ht c = nI t ∧ t ≤ w ∧ x.1 c = nI (coolN (w - t) h)) ∧
  ∀ c, c < nc → ho c = x.1 (12 + c) ∧ be c = x.1 (24 + c) ∧ sp c = x.2.1 c ∧ x.1 (36 + c) = nI nc * sk c - r 9 ∧ (bt (r 6) c = true ↔ x.2.2.1 c = 1) ∧ (x.2.2.1 c = 0 ∨ x.2.2.1 c = 1)
/-- bounds after m acts -/
def Bd (nc m : Nat) (x : RS) : Prop :=
  (∃ w : Nat, x.2.2.2 = nI w ∧ w ≤ 30 * m) ∧ ∀ c, c < nc → (∃ h : Nat, x.1 c = nI h ∧ h ≤ 360) ∧ (∃ g : Nat, x.1 (12 + c) = nI g ∧ g ≤ 2 * m) ∧ (x.1 (24 + c)).toInt.natAbs + (x.2.1 c).toInt.natAbs ≤ 40 + 20 * m ∧ (x.2.2.1 c = 0 ∨ x.2.2.1 c = 1)
def ISh (la sz : Nat → Int32) (it : Nat → Nat → Int32) (ln mn im : Nat → Int32) : Prop :=
  (∀ s, s < 8 → (sz s = -1 ∧ ln s = -1) ∨ (∃ n l : Nat, n ≤ 40 ∧ l < 3 ∧ sz s = nI n ∧ mn s = nI n ∧ la s = nI l ∧ ln s = nI l)) ∧ (∀ s j, s < 8 → j < 40 → it s j = im (40 * s + j))
def ITp (z : Int32) (bs : Nat → Int32) (td : Int32) (tp : Nat → Int32) : Prop := ∃ n, n ≤ 500 ∧ z = nI n ∧ td = nI n ∧ ∀ j, j < n → ∃ v, v < 256 ∧ tp j = nI v ∧ bs j = (nI v).toInt8.toInt32
def IPl (nc ns na nb : Nat) (r kd pc st sm se nd A AH BH : Nat → Int32) : Prop :=
  (r 0 = nI nc ∧ r 1 = nI ns ∧ r 2 = nI na ∧ r 3 = nI nb) ∧ (nc = 0 ∧ ns = 0 ∧ na = 0 ∧ nb = 0 ∨ 4 ≤ nc ∧ nc ≤ 12 ∧ ns ≤ 6 ∧ na ≤ 40 ∧ nb ≤ 10) ∧
  (∀ a, a < na → ∃ k c s q : Nat, k < 10 ∧ s < ns ∧ kd a = nI k ∧ A (4 * a) = nI (k + 1) ∧ pc a = nI c ∧ A (4 * a + 1) = nI c ∧ sm a = nI s ∧ A (4 * a + 3) = nI s ∧ (k = 7 → c ≤ 30) ∧ (k ≠ 7 → c < nc) ∧ (k < 7 → 1 ≤ q ∧ q ≤ 20 ∧ st a = nI q ∧ A (4 * a + 2) = nI q) ∧ (7 ≤ k → A (4 * a + 2) = -1000000)) ∧
  (∃ E : Nat → Nat, E 0 = 0 ∧ E ns = na ∧ (∀ s, s < ns → E s ≤ E (s + 1) ∧ E (s + 1) ≤ na ∧ se s = nI (E (s + 1))) ∧ (∀ a s, s < ns → E s ≤ a → a < E (s + 1) → A (4 * a + 3) = nI s)) ∧
  (∀ b, b < nb → ∃ f l, f < ns ∧ l < ns ∧ f ≠ l ∧ AH b = nI f ∧ BH b = nI l) ∧
  (∀ s, s < ns → ∃ w : Nat, w < 64 ∧ nd s = nI w ∧ ∀ f, f < 6 → (w.testBit f = true ↔ ∃ b, b < nb ∧ AH b = nI f ∧ BH b = nI s))
def ILa (nc : Nat) (ran isr lm : Int32) (left opd r he ht ho be sp sk : Nat → Int32) : Prop :=
  ∃ x : RS, PRel nc r he ht ho be sp sk x ∧ Bd nc 240 x ∧ ((ran = 1 ∧ isr = 1 ∧ lm = x.2.2.2 ∧ ∀ k, k < 48 → left k = x.1 k) ∨ (ran = 0 ∧ isr = 0 ∧ x = bgA opd))
def ISe (nc ns na nb : Nat) (A AH BH B : Nat → Int32) (kn fi lo : Int32) (nr : Nat → Int32) : Prop :=
  kn = 0 ∨ (kn = 1 ∧ (match bestA nc ns na nb A AH BH B with
    | none => fi = 0
    | some q => fi = 1 ∧ lo = q.1 ∧ ∀ k, k < ns → nr k = orA q.2 k))
def IBe (nc ns na : Nat) (A : Nat → Int32) (kn : Int32) (bs : Nat → Int32) : Prop := kn = 0 ∨ (kn = 1 ∧ ∀ c, c < nc → bs c = ahA nc ns na A c)
def IAs (mn : Int32) (bg : Nat → Int32) (td : Int32) (tr : Nat → Int32) : Prop := ∃ n : Nat, n ≤ 16 ∧ mn = nI n ∧ td = nI n ∧ ∀ j, j < n → bg j = tr j
/-- what holds between calls, of the plan at p -/
def Core (μ : MT) (p d nc ns na nb : Nat) : Prop :=
  ISh (μ 2) (μ 3) (fun s => μ (5 + s)) (μ 107) (μ 108) (μ 109) ∧ (μ 0 15 = μ 106 1 ∧ μ 0 14 = μ 106 21) ∧ ITp (μ 13 1) (μ 14) (μ 106 20) (μ 116) ∧
  (isPl p ∧ isPl d ∧ p ≠ d ∧ μ 0 11 = nI p ∧ μ 0 12 = nI d) ∧ IPl nc ns na nb (μ p) (μ (p + 1)) (μ (p + 2)) (μ (p + 3)) (μ (p + 4)) (μ (p + 5)) (μ (p + 6)) (μ 110) (μ 111) (μ 112) ∧
  (μ 106 5 = nI nc ∧ μ 106 6 = nI ns ∧ μ 106 7 = nI na ∧ μ 106 8 = nI nb) ∧ (∀ c, c < 12 → μ 16 c = μ 117 c ∧ -40 ≤ (μ 117 c).toInt ∧ (μ 117 c).toInt ≤ 40) ∧
  (∀ k, k < ns → ∃ s, s < ns ∧ μ 17 k = nI s ∧ μ 118 k = nI s) ∧ ILa nc (μ 0 13) (μ 106 31) (μ 106 37) (μ 122) (μ 117) (μ 19) (μ 20) (μ 21) (μ 22) (μ 23) (μ 24) (μ 25) ∧
  ISe nc ns na nb (μ 110) (μ 111) (μ 112) (μ 117) (μ 33 4) (μ 33 5) (μ 33 6) (μ 36) ∧ IBe nc ns na (μ 110) (μ 87 2) (μ 88) ∧ IAs (μ 90 1) (μ 91) (μ 106 42) (μ 126) ∧
  (μ 1000 = μf 1000 ∧ μ 1001 = μf 1001 ∧ μ 1002 = μf 1002 ∧ μ 1003 = μf 1003)
def Inv (μ : MT) : Prop := ∃ p d nc ns na nb, Core μ p d nc ns na nb
