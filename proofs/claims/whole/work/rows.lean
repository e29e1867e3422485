section
/-! ===== the definitions that the pure part speaks of: the memory, the functions of class and reference, the start, the law ===== -/
def tyX0 : Nat → FieldType := fun k => match k with
  | 0 => .array .int
  | _ => .int
def tyX1 : Nat → FieldType := fun k => match k with
  | 0 => .array .int
  | 1 => .array .int
  | _ => .boolean
def tyX2 : Nat → FieldType := fun k => match k with
  | 0 => .array .int
  | 1 => .array .int
  | 2 => .array .int
  | 3 => .array .int
  | 4 => .array .int
  | 5 => .array .int
  | 6 => .int
  | 7 => .int
  | 8 => .int
  | _ => .int
def tyX3 : Nat → FieldType := fun k => match k with
  | 0 => .int
  | 1 => .int
  | 2 => .int
  | 3 => .int
  | 4 => .array .int
  | 5 => .array .int
  | 6 => .array .int
  | 7 => .array .int
  | 8 => .array .int
  | _ => .array .int
def tyX4 : Nat → FieldType := fun k => match k with
  | 0 => .object "SeamPull$Tape"
  | _ => .int
def tyX5 : Nat → FieldType := fun k => match k with
  | 0 => .array (.object "SeamPull$Panel")
  | 1 => .array .int
  | 2 => .array .int
  | 3 => .array .int
  | 4 => .boolean
  | 5 => .boolean
  | _ => .int
def tyX6 : Nat → FieldType := fun k => match k with
  | 0 => .array .int
  | 1 => .array .int
  | _ => .array (.array .int)
def tyX7 : Nat → FieldType := fun k => match k with
  | 0 => .array .byte
  | 1 => .int
  | 2 => .int
  | 3 => .int
  | _ => .int
def tyX8 : Nat → FieldType := fun k => match k with
  | 0 => .object "SeamPull$Shelf"
  | 1 => .object "SeamPull$Tape"
  | 2 => .object "SeamPull$Reader"
  | 3 => .array .int
  | 4 => .array .int
  | 5 => .array .int
  | 6 => .object "SeamPull$Panel"
  | 7 => .object "SeamPull$Panel"
  | 8 => .object "SeamPull$Search"
  | 9 => .object "SeamPull$Beforehand"
  | 10 => .object "SeamPull$Asks"
  | 11 => .object "SeamPull$Plan"
  | 12 => .object "SeamPull$Plan"
  | 13 => .boolean
  | 14 => .int
  | _ => .int
def tyX9 : Nat → FieldType := fun k => match k with
  | 0 => .int
  | 1 => .int
  | 2 => .array .int
  | 3 => .array .int
  | 4 => .array .int
  | 5 => .int
  | 6 => .int
  | 7 => .int
  | 8 => .int
  | 9 => .array .int
  | 10 => .array .int
  | 11 => .array .int
  | 12 => .int
  | 13 => .int
  | 14 => .int
  | 15 => .int
  | 16 => .array .int
  | 17 => .array .int
  | 18 => .array .int
  | 19 => .array .int
  | 20 => .int
  | 21 => .int
  | 22 => .int
  | 23 => .int
  | 24 => .int
  | 25 => .int
  | 26 => .int
  | 27 => .int
  | 28 => .int
  | 29 => .array .int
  | 30 => .array .int
  | 31 => .boolean
  | 32 => .array .int
  | 33 => .array .int
  | 34 => .array .boolean
  | 35 => .int
  | 36 => .array .int
  | 37 => .int
  | 38 => .array .int
  | 39 => .array .int
  | 40 => .array .int
  | 41 => .array .int
  | _ => .int
abbrev MT : Type := Nat → Nat → Int32
/-- of each cell its kind (a class below 20, 20 int[], 21 byte[], 22 boolean[], 23 int[][], 24 Panel[]), its length, the cells that it points to -/
abbrev ZT : Type := (Nat → Nat) × (Nat → Nat) × (Nat → Nat → Nat)
abbrev zk (Z : ZT) : Nat → Nat := Z.1
abbrev zl (Z : ZT) : Nat → Nat := Z.2.1
abbrev zr (Z : ZT) : Nat → Nat → Nat := Z.2.2
/-- the machine's side: where classes and fields lie, how many own cells, how many given tables (from number 1000 on), addresses, classes of arrays, the first own address -/
abbrev GT : Type := va_G × Nat × Nat × (Nat → Nat) × (Nat → ClassId) × Nat
/-- the type of a class's field -/
def fty (c : Nat) : Nat → FieldType := match c with
  | 0 => tyX0 | 1 => tyX1 | 2 => tyX2 | 3 => tyX3 | 4 => tyX4 | 5 => tyX5 | 6 => tyX6 | 7 => tyX7 | 8 => tyX8 | _ => tyX9
def isRefTy : FieldType → Bool
  | .array _ => true
  | .object _ => true
  | _ => false
/-- 0: an int or boolean, 1: a reference that stays, 2: a reference that changes (the two plans): the cell's number stands among the ints -/
def rk (c j : Nat) : Nat := if isRefTy (fty c j) then (if c = 8 ∧ (j = 11 ∨ j = 12) then 2 else 1) else 0
def u2 (μ : MT) (k j : Nat) (v : Int32) : MT := fun k' => if k' = k then upd (μ k) j v else μ k'
/-- a whole row anew -/
def u1 (μ : MT) (k : Nat) (f : Nat → Int32) : MT := fun k' => if k' = k then f else μ k'
abbrev CX : Type := Program × Launch × Env × Room × State × MethodId × Array Value × List Frame × Method × Code
abbrev txL : List Nat := [4, 2, 4, 4, 6, 6, 5, 4, 5, 4, 5, 4, 6, 0]
abbrev txB : List (List Int32) := [[116, 97, 99, 107], [111, 110], [98, 97, 99, 107], [115, 107, 105, 112], [115, 101, 99, 111, 110, 100], [116, 117, 114, 110, 101, 100], [102, 108, 97, 109, 101], [119, 97, 105, 116], [99, 108, 97, 109, 112], [102, 114, 101, 101], [112, 97, 110, 101, 108], [115, 101, 97, 109], [98, 101, 102, 111, 114, 101], []]
/-- the given tables -/
def roT : List (List Int32) := [[0, 1, 2, 3, 4, 5], [0, 0, 0, 2, 3, 2, 2, 0], [0, 0, 11, 12, 13, 0, 0, 14], [0, 21, 0, 0, 0, 0, 22, 23]]
def roR (i j : Nat) : Int32 := (roT.getD i []).getD j 0
section
variable {α β γ : Type} {x : CX} {G : GT} {Z : ZT} {cs : Nat × Nat} {nL : Nat} {Q : Option Value → MT → State → Prop} {J : α → Option Value × MT} {pc : Nat} {lv : List (Nat × Value)} {st : List Value} {μ : MT} {o : Option β} {f : β → Option α} {cc : ByteArray} {Ts : List Cond} {own : String}
/-- division, remainder -/
def idv (y z : Int32) : Option Int32 := if z = 0 then none else some (y / z)
def irm (y z : Int32) : Option Int32 := if z = 0 then none else some (y - y / z * z)
def inb (i : Int32) (n : Nat) : Bool := !(decide (i < 0)) && !(decide (n ≤ i.toNatClampNeg))
/-- an array's place read; written -/
def ald (Z : ZT) (μ : MT) (k : Nat) (i : Int32) : Option Int32 := if inb i (zl Z k) then some (μ k i.toNatClampNeg) else none
def ast (Z : ZT) (μ : MT) (k : Nat) (i : Int32) (v : Int32) : Option MT := if inb i (zl Z k) then some (u2 μ k i.toNatClampNeg v) else none
def ard (Z : ZT) (k : Nat) (i : Int32) : Option Nat := if inb i (zl Z k) then some (zr Z k i.toNatClampNeg) else none
/-- a field whose cell changes: the number that stands there must be a cell of the kind -/
def mrd (Z : ZT) (n t : Nat) (v : Int32) : Option Nat := if zk Z v.toNatClampNeg = t ∧ v.toNatClampNeg < n then some v.toNatClampNeg else none
/-- a boolean: 0 or 1 -/
def bz (y : Int32) : Option Int32 := if y = 0 ∨ y = 1 then some y else none
end
section
variable {α β γ : Type} {x : CX} {G : GT} {Z : ZT} {cs : Nat × Nat} {nL : Nat} {Q : Option Value → MT → State → Prop} {J : α → Option Value × MT} {pc : Nat} {lv : List (Nat × Value)} {st : List Value} {μ : MT} {o : Option β} {f : β → Option α} {cc : ByteArray} {Ts : List Cond} {own : String}
/-- a loop: a body that goes on or leaves -/
def loop {σ τ : Type} (body : σ → Option (σ ⊕ τ)) : Nat → σ → Option τ
  | 0, _ => none
  | n + 1, s => (body s).bind (fun q => match q with
    | .inl s' => loop body n s'
    | .inr t => some t)
end
section
variable {α β γ : Type} {x : CX} {G : GT} {Z : ZT} {cs : Nat × Nat} {nL : Nat} {Q : Option Value → MT → State → Prop} {J : α → Option Value × MT} {pc : Nat} {lv : List (Nat × Value)} {st : List Value} {μ : MT} {o : Option β} {f : β → Option α} {cc : ByteArray} {Ts : List Cond} {own : String}
/-- System.arraycopy between rows of ints -/
def acp (Z : ZT) (μ : MT) (k : Nat) (sp : Int32) (k1 : Nat) (dp n : Int32) : Option MT := if ¬ sp < 0 ∧ ¬ dp < 0 ∧ ¬ n < 0 ∧ sp.toNatClampNeg + n.toNatClampNeg ≤ zl Z k ∧ dp.toNatClampNeg + n.toNatClampNeg ≤ zl Z k1 then some (u1 μ k1 (va_cpy (μ k) (μ k1) sp.toNatClampNeg dp.toNatClampNeg n.toNatClampNeg)) else none
theorem ob_s {a : γ} {F : γ → Option α} : (some a).bind F = F a := rfl
/-- what a branch leaves: the whole's result, or the values at the place where branches meet -/
def jn {τ : Type} (g : τ → Option β) : β ⊕ τ → Option β := fun q => match q with
  | .inl r => some r
  | .inr t => g t
def LN : Nat := 1000000
end
def slen (k : Nat) : Nat := txL.getD (k - 2100) 0
def sch (k j : Nat) : Int32 := (txB.getD (k - 2100) []).getD j 0
def sld (k : Nat) (i : Int32) : Option Int32 := if inb i (slen k) then some (sch k i.toNatClampNeg) else none
def stc (k : Nat) : Option Nat := if 2000 ≤ k ∧ k < 2014 then some k else none
def cz (y : Int32) : Option Int32 := if (y.toUInt32 % 65536).toInt32 = y then some y else none
def imax (y z : Int32) : Int32 := if y < z then z else y
def imin (y z : Int32) : Int32 := if z < y then z else y
def iabs (y : Int32) : Int32 := if 0 ≤ y then y else 0 - y
abbrev NS : Type := Nat × ZT × MT
/-- a new object, a new array, a place set -/
def nObj (σ : NS) (c : Nat) : NS := (σ.1 + 1, (va_up (zk σ.2.1) σ.1 c, zl σ.2.1, va_up (zr σ.2.1) σ.1 (fun _ => 999)), u1 σ.2.2 σ.1 (fun j => if rk c j = 2 then 999 else 0))
def nArr (σ : NS) (t N : Nat) : NS := (σ.1 + 1, (va_up (zk σ.2.1) σ.1 t, va_up (zl σ.2.1) σ.1 N, va_up (zr σ.2.1) σ.1 (fun _ => 999)), u1 σ.2.2 σ.1 (fun _ => 0))
def nMul (σ : NS) (N K : Nat) : NS := (σ.1 + 1 + N, ((fun k => if k = σ.1 then 23 else if σ.1 < k ∧ k < σ.1 + 1 + N then 20 else zk σ.2.1 k), (fun k => if k = σ.1 then N else if σ.1 < k ∧ k < σ.1 + 1 + N then K else zl σ.2.1 k), va_up (zr σ.2.1) σ.1 (fun i => if i < N then σ.1 + 1 + i else 999)), (fun k => if σ.1 < k ∧ k < σ.1 + 1 + N then (fun _ => 0) else σ.2.2 k))
def nRef (σ : NS) (k j q : Nat) : NS := (σ.1, (zk σ.2.1, zl σ.2.1, va_up (zr σ.2.1) k (va_up (zr σ.2.1 k) j q)), σ.2.2)
def nInt (σ : NS) (k j : Nat) (v : Int32) : NS := (σ.1, σ.2.1, u2 σ.2.2 k j v)
def m_J3_checkIndex_8e157 (i n : Int32) : Option Int32 := if i < 0 then none else if i < n then some i else none
def m_J0_checkIndex_df160 (Z : ZT) (i n : Int32) (μ : MT) : Option Unit := (m_J3_checkIndex_8e157 i n).bind fun _ => some ()
def c_J7_fill_53178_s1 (σ : NS) (this : Nat) : NS := nInt σ this 0 (-1)
def c_J7_fill_53178_s2 (σ : NS) (this : Nat) : NS := nInt (c_J7_fill_53178_s1 σ this) this 1 (-1)
def c_J7_fill_53178_s3 (σ : NS) (this : Nat) : NS := nInt (c_J7_fill_53178_s2 σ this) this 2 (-1)
def c_J7_fill_53178_s4 (σ : NS) (this : Nat) : NS := nInt (c_J7_fill_53178_s3 σ this) this 3 (-1)
def c_J7_fill_53178_s5 (σ : NS) (this : Nat) : NS := nInt (c_J7_fill_53178_s4 σ this) this 4 (-1)
def c_J7_fill_53178_s6 (σ : NS) (this : Nat) : NS := nInt (c_J7_fill_53178_s5 σ this) this 5 (-1)
def c_J7_fill_53178_s7 (σ : NS) (this : Nat) : NS := nInt (c_J7_fill_53178_s6 σ this) this 6 (-1)
def c_J7_fill_53178_s8 (σ : NS) (this : Nat) : NS := nInt (c_J7_fill_53178_s7 σ this) this 7 (-1)
def c_J7_fill_53178 (σ : NS) (this : Nat) : NS := (c_J7_fill_53178_s8 σ this)
def c_X0_init_s1 (σ : NS) (this : Nat) : NS := nArr σ 20 16
def c_X0_init_s2 (σ : NS) (this : Nat) : NS := nRef (c_X0_init_s1 σ this) this 0 (σ.1)
def c_X0_init_s3 (σ : NS) (this : Nat) : NS := nInt (c_X0_init_s2 σ this) this 1 0
def c_X0_init (σ : NS) (this : Nat) : NS := (c_X0_init_s3 σ this)
def c_X1_init_s1 (σ : NS) (this : Nat) : NS := nArr σ 20 12
def c_X1_init_s2 (σ : NS) (this : Nat) : NS := nRef (c_X1_init_s1 σ this) this 0 (σ.1)
def c_X1_init_s3 (σ : NS) (this : Nat) : NS := nArr (c_X1_init_s2 σ this) 20 12
def c_X1_init_s4 (σ : NS) (this : Nat) : NS := nRef (c_X1_init_s3 σ this) this 1 (σ.1 + 1)
def c_X1_init_s5 (σ : NS) (this : Nat) : NS := nInt (c_X1_init_s4 σ this) this 2 0
def c_X1_init (σ : NS) (this : Nat) : NS := (c_X1_init_s5 σ this)
def c_X2_init_s1 (σ : NS) (this : Nat) : NS := nArr σ 20 12
def c_X2_init_s2 (σ : NS) (this : Nat) : NS := nRef (c_X2_init_s1 σ this) this 0 (σ.1)
def c_X2_init_s3 (σ : NS) (this : Nat) : NS := nArr (c_X2_init_s2 σ this) 20 12
def c_X2_init_s4 (σ : NS) (this : Nat) : NS := nRef (c_X2_init_s3 σ this) this 1 (σ.1 + 1)
def c_X2_init_s5 (σ : NS) (this : Nat) : NS := nArr (c_X2_init_s4 σ this) 20 12
def c_X2_init_s6 (σ : NS) (this : Nat) : NS := nRef (c_X2_init_s5 σ this) this 2 (σ.1 + 2)
def c_X2_init_s7 (σ : NS) (this : Nat) : NS := nArr (c_X2_init_s6 σ this) 20 12
def c_X2_init_s8 (σ : NS) (this : Nat) : NS := nRef (c_X2_init_s7 σ this) this 3 (σ.1 + 3)
def c_X2_init_s9 (σ : NS) (this : Nat) : NS := nArr (c_X2_init_s8 σ this) 20 12
def c_X2_init_s10 (σ : NS) (this : Nat) : NS := nRef (c_X2_init_s9 σ this) this 4 (σ.1 + 4)
def c_X2_init_s11 (σ : NS) (this : Nat) : NS := nArr (c_X2_init_s10 σ this) 20 12
def c_X2_init_s12 (σ : NS) (this : Nat) : NS := nRef (c_X2_init_s11 σ this) this 5 (σ.1 + 5)
def c_X2_init_s13 (σ : NS) (this : Nat) : NS := nInt (c_X2_init_s12 σ this) this 6 0
def c_X2_init_s14 (σ : NS) (this : Nat) : NS := nInt (c_X2_init_s13 σ this) this 7 0
def c_X2_init_s15 (σ : NS) (this : Nat) : NS := nInt (c_X2_init_s14 σ this) this 8 0
def c_X2_init_s16 (σ : NS) (this : Nat) : NS := nInt (c_X2_init_s15 σ this) this 9 0
def c_X2_init (σ : NS) (this : Nat) : NS := (c_X2_init_s16 σ this)
def c_X3_init_s1 (σ : NS) (this : Nat) : NS := nInt σ this 0 0
def c_X3_init_s2 (σ : NS) (this : Nat) : NS := nInt (c_X3_init_s1 σ this) this 1 0
def c_X3_init_s3 (σ : NS) (this : Nat) : NS := nInt (c_X3_init_s2 σ this) this 2 0
def c_X3_init_s4 (σ : NS) (this : Nat) : NS := nInt (c_X3_init_s3 σ this) this 3 0
def c_X3_init_s5 (σ : NS) (this : Nat) : NS := nArr (c_X3_init_s4 σ this) 20 40
def c_X3_init_s6 (σ : NS) (this : Nat) : NS := nRef (c_X3_init_s5 σ this) this 4 (σ.1)
def c_X3_init_s7 (σ : NS) (this : Nat) : NS := nArr (c_X3_init_s6 σ this) 20 40
def c_X3_init_s8 (σ : NS) (this : Nat) : NS := nRef (c_X3_init_s7 σ this) this 5 (σ.1 + 1)
def c_X3_init_s9 (σ : NS) (this : Nat) : NS := nArr (c_X3_init_s8 σ this) 20 40
def c_X3_init_s10 (σ : NS) (this : Nat) : NS := nRef (c_X3_init_s9 σ this) this 6 (σ.1 + 2)
def c_X3_init_s11 (σ : NS) (this : Nat) : NS := nArr (c_X3_init_s10 σ this) 20 40
def c_X3_init_s12 (σ : NS) (this : Nat) : NS := nRef (c_X3_init_s11 σ this) this 7 (σ.1 + 3)
def c_X3_init_s13 (σ : NS) (this : Nat) : NS := nArr (c_X3_init_s12 σ this) 20 6
def c_X3_init_s14 (σ : NS) (this : Nat) : NS := nRef (c_X3_init_s13 σ this) this 8 (σ.1 + 4)
def c_X3_init_s15 (σ : NS) (this : Nat) : NS := nArr (c_X3_init_s14 σ this) 20 6
def c_X3_init_s16 (σ : NS) (this : Nat) : NS := nRef (c_X3_init_s15 σ this) this 9 (σ.1 + 5)
def c_X3_init (σ : NS) (this : Nat) : NS := (c_X3_init_s16 σ this)
def c_X4_init_s1 (σ : NS) (this : Nat) (a0 : Nat) : NS := nInt σ this 1 0
def c_X4_init_s2 (σ : NS) (this : Nat) (a0 : Nat) : NS := nRef (c_X4_init_s1 σ this a0) this 0 a0
def c_X4_init (σ : NS) (this : Nat) (a0 : Nat) : NS := (c_X4_init_s2 σ this a0)
def c_X7_init_s1 (σ : NS) (this : Nat) : NS := nArr σ 21 500
def c_X7_init_s2 (σ : NS) (this : Nat) : NS := nRef (c_X7_init_s1 σ this) this 0 (σ.1)
def c_X7_init_s3 (σ : NS) (this : Nat) : NS := nInt (c_X7_init_s2 σ this) this 1 0
def c_X7_init_s4 (σ : NS) (this : Nat) : NS := nInt (c_X7_init_s3 σ this) this 2 0
def c_X7_init_s5 (σ : NS) (this : Nat) : NS := nInt (c_X7_init_s4 σ this) this 3 0
def c_X7_init_s6 (σ : NS) (this : Nat) : NS := nInt (c_X7_init_s5 σ this) this 4 0
def c_X7_init (σ : NS) (this : Nat) : NS := (c_X7_init_s6 σ this)
def c_X6_init_s1 (σ : NS) (this : Nat) : NS := nArr σ 20 8
def c_X6_init_s2 (σ : NS) (this : Nat) : NS := nRef (c_X6_init_s1 σ this) this 0 (σ.1)
def c_X6_init_s3 (σ : NS) (this : Nat) : NS := nArr (c_X6_init_s2 σ this) 20 8
def c_X6_init_s4 (σ : NS) (this : Nat) : NS := nRef (c_X6_init_s3 σ this) this 1 (σ.1 + 1)
def c_X6_init_s5 (σ : NS) (this : Nat) : NS := nMul (c_X6_init_s4 σ this) 8 40
def c_X6_init_s6 (σ : NS) (this : Nat) : NS := nRef (c_X6_init_s5 σ this) this 2 (σ.1 + 2)
def c_X6_init_s7 (σ : NS) (this : Nat) : NS := c_J7_fill_53178 (c_X6_init_s6 σ this) (σ.1 + 1)
def c_X6_init (σ : NS) (this : Nat) : NS := (c_X6_init_s7 σ this)
def c_X5_init_s1 (σ : NS) (this : Nat) : NS := nArr σ 24 7
def c_X5_init_s2 (σ : NS) (this : Nat) : NS := nRef (c_X5_init_s1 σ this) this 0 (σ.1)
def c_X5_init_s3 (σ : NS) (this : Nat) : NS := nArr (c_X5_init_s2 σ this) 20 6
def c_X5_init_s4 (σ : NS) (this : Nat) : NS := nRef (c_X5_init_s3 σ this) this 1 (σ.1 + 1)
def c_X5_init_s5 (σ : NS) (this : Nat) : NS := nArr (c_X5_init_s4 σ this) 20 6
def c_X5_init_s6 (σ : NS) (this : Nat) : NS := nRef (c_X5_init_s5 σ this) this 2 (σ.1 + 2)
def c_X5_init_s7 (σ : NS) (this : Nat) : NS := nArr (c_X5_init_s6 σ this) 20 64
def c_X5_init_s8 (σ : NS) (this : Nat) : NS := nRef (c_X5_init_s7 σ this) this 3 (σ.1 + 3)
def c_X5_init_s9 (σ : NS) (this : Nat) : NS := nInt (c_X5_init_s8 σ this) this 4 0
def c_X5_init_s10 (σ : NS) (this : Nat) : NS := nInt (c_X5_init_s9 σ this) this 5 0
def c_X5_init_s11 (σ : NS) (this : Nat) : NS := nInt (c_X5_init_s10 σ this) this 6 0
def c_X5_init_s12 (σ : NS) (this : Nat) : NS := nObj (c_X5_init_s11 σ this) 2
def c_X5_init_s13 (σ : NS) (this : Nat) : NS := c_X2_init (c_X5_init_s12 σ this) (σ.1 + 4)
def c_X5_init_s14 (σ : NS) (this : Nat) : NS := nRef (c_X5_init_s13 σ this) (σ.1) 0 (σ.1 + 4)
def c_X5_init_s15 (σ : NS) (this : Nat) : NS := nObj (c_X5_init_s14 σ this) 2
def c_X5_init_s16 (σ : NS) (this : Nat) : NS := c_X2_init (c_X5_init_s15 σ this) (σ.1 + 11)
def c_X5_init_s17 (σ : NS) (this : Nat) : NS := nRef (c_X5_init_s16 σ this) (σ.1) 1 (σ.1 + 11)
def c_X5_init_s18 (σ : NS) (this : Nat) : NS := nObj (c_X5_init_s17 σ this) 2
def c_X5_init_s19 (σ : NS) (this : Nat) : NS := c_X2_init (c_X5_init_s18 σ this) (σ.1 + 18)
def c_X5_init_s20 (σ : NS) (this : Nat) : NS := nRef (c_X5_init_s19 σ this) (σ.1) 2 (σ.1 + 18)
def c_X5_init_s21 (σ : NS) (this : Nat) : NS := nObj (c_X5_init_s20 σ this) 2
def c_X5_init_s22 (σ : NS) (this : Nat) : NS := c_X2_init (c_X5_init_s21 σ this) (σ.1 + 25)
def c_X5_init_s23 (σ : NS) (this : Nat) : NS := nRef (c_X5_init_s22 σ this) (σ.1) 3 (σ.1 + 25)
def c_X5_init_s24 (σ : NS) (this : Nat) : NS := nObj (c_X5_init_s23 σ this) 2
def c_X5_init_s25 (σ : NS) (this : Nat) : NS := c_X2_init (c_X5_init_s24 σ this) (σ.1 + 32)
def c_X5_init_s26 (σ : NS) (this : Nat) : NS := nRef (c_X5_init_s25 σ this) (σ.1) 4 (σ.1 + 32)
def c_X5_init_s27 (σ : NS) (this : Nat) : NS := nObj (c_X5_init_s26 σ this) 2
def c_X5_init_s28 (σ : NS) (this : Nat) : NS := c_X2_init (c_X5_init_s27 σ this) (σ.1 + 39)
def c_X5_init_s29 (σ : NS) (this : Nat) : NS := nRef (c_X5_init_s28 σ this) (σ.1) 5 (σ.1 + 39)
def c_X5_init_s30 (σ : NS) (this : Nat) : NS := nObj (c_X5_init_s29 σ this) 2
def c_X5_init_s31 (σ : NS) (this : Nat) : NS := c_X2_init (c_X5_init_s30 σ this) (σ.1 + 46)
def c_X5_init_s32 (σ : NS) (this : Nat) : NS := nRef (c_X5_init_s31 σ this) (σ.1) 6 (σ.1 + 46)
def c_X5_init (σ : NS) (this : Nat) : NS := (c_X5_init_s32 σ this)
def c_X8_init_s1 (σ : NS) (this : Nat) : NS := nObj σ 6
def c_X8_init_s2 (σ : NS) (this : Nat) : NS := c_X6_init (c_X8_init_s1 σ this) (σ.1)
def c_X8_init_s3 (σ : NS) (this : Nat) : NS := nRef (c_X8_init_s2 σ this) this 0 (σ.1)
def c_X8_init_s4 (σ : NS) (this : Nat) : NS := nObj (c_X8_init_s3 σ this) 7
def c_X8_init_s5 (σ : NS) (this : Nat) : NS := c_X7_init (c_X8_init_s4 σ this) (σ.1 + 12)
def c_X8_init_s6 (σ : NS) (this : Nat) : NS := nRef (c_X8_init_s5 σ this) this 1 (σ.1 + 12)
def c_X8_init_s7 (σ : NS) (this : Nat) : NS := nObj (c_X8_init_s6 σ this) 4
def c_X8_init_s8 (σ : NS) (this : Nat) : NS := c_X4_init (c_X8_init_s7 σ this) (σ.1 + 14) (σ.1 + 12)
def c_X8_init_s9 (σ : NS) (this : Nat) : NS := nRef (c_X8_init_s8 σ this) this 2 (σ.1 + 14)
def c_X8_init_s10 (σ : NS) (this : Nat) : NS := nArr (c_X8_init_s9 σ this) 20 12
def c_X8_init_s11 (σ : NS) (this : Nat) : NS := nRef (c_X8_init_s10 σ this) this 3 (σ.1 + 15)
def c_X8_init_s12 (σ : NS) (this : Nat) : NS := nArr (c_X8_init_s11 σ this) 20 6
def c_X8_init_s13 (σ : NS) (this : Nat) : NS := nRef (c_X8_init_s12 σ this) this 4 (σ.1 + 16)
def c_X8_init_s14 (σ : NS) (this : Nat) : NS := nArr (c_X8_init_s13 σ this) 20 12
def c_X8_init_s15 (σ : NS) (this : Nat) : NS := nRef (c_X8_init_s14 σ this) this 5 (σ.1 + 17)
def c_X8_init_s16 (σ : NS) (this : Nat) : NS := nObj (c_X8_init_s15 σ this) 2
def c_X8_init_s17 (σ : NS) (this : Nat) : NS := c_X2_init (c_X8_init_s16 σ this) (σ.1 + 18)
def c_X8_init_s18 (σ : NS) (this : Nat) : NS := nRef (c_X8_init_s17 σ this) this 6 (σ.1 + 18)
def c_X8_init_s19 (σ : NS) (this : Nat) : NS := nObj (c_X8_init_s18 σ this) 2
def c_X8_init_s20 (σ : NS) (this : Nat) : NS := c_X2_init (c_X8_init_s19 σ this) (σ.1 + 25)
def c_X8_init_s21 (σ : NS) (this : Nat) : NS := nRef (c_X8_init_s20 σ this) this 7 (σ.1 + 25)
def c_X8_init_s22 (σ : NS) (this : Nat) : NS := nObj (c_X8_init_s21 σ this) 5
def c_X8_init_s23 (σ : NS) (this : Nat) : NS := c_X5_init (c_X8_init_s22 σ this) (σ.1 + 32)
def c_X8_init_s24 (σ : NS) (this : Nat) : NS := nRef (c_X8_init_s23 σ this) this 8 (σ.1 + 32)
def c_X8_init_s25 (σ : NS) (this : Nat) : NS := nObj (c_X8_init_s24 σ this) 1
def c_X8_init_s26 (σ : NS) (this : Nat) : NS := c_X1_init (c_X8_init_s25 σ this) (σ.1 + 86)
def c_X8_init_s27 (σ : NS) (this : Nat) : NS := nRef (c_X8_init_s26 σ this) this 9 (σ.1 + 86)
def c_X8_init_s28 (σ : NS) (this : Nat) : NS := nObj (c_X8_init_s27 σ this) 0
def c_X8_init_s29 (σ : NS) (this : Nat) : NS := c_X0_init (c_X8_init_s28 σ this) (σ.1 + 89)
def c_X8_init_s30 (σ : NS) (this : Nat) : NS := nRef (c_X8_init_s29 σ this) this 10 (σ.1 + 89)
def c_X8_init_s31 (σ : NS) (this : Nat) : NS := nObj (c_X8_init_s30 σ this) 3
def c_X8_init_s32 (σ : NS) (this : Nat) : NS := c_X3_init (c_X8_init_s31 σ this) (σ.1 + 91)
def c_X8_init_s33 (σ : NS) (this : Nat) : NS := nInt (c_X8_init_s32 σ this) this 11 (Int32.ofNat (σ.1 + 91))
def c_X8_init_s34 (σ : NS) (this : Nat) : NS := nObj (c_X8_init_s33 σ this) 3
def c_X8_init_s35 (σ : NS) (this : Nat) : NS := c_X3_init (c_X8_init_s34 σ this) (σ.1 + 98)
def c_X8_init_s36 (σ : NS) (this : Nat) : NS := nInt (c_X8_init_s35 σ this) this 12 (Int32.ofNat (σ.1 + 98))
def c_X8_init_s37 (σ : NS) (this : Nat) : NS := nInt (c_X8_init_s36 σ this) this 13 0
def c_X8_init_s38 (σ : NS) (this : Nat) : NS := nInt (c_X8_init_s37 σ this) this 14 0
def c_X8_init_s39 (σ : NS) (this : Nat) : NS := nInt (c_X8_init_s38 σ this) this 15 0
def c_X8_init (σ : NS) (this : Nat) : NS := (c_X8_init_s39 σ this)
def c_X9_init_s1 (σ : NS) (this : Nat) : NS := nArr σ 20 8
def c_X9_init_s2 (σ : NS) (this : Nat) : NS := nInt (c_X9_init_s1 σ this) (σ.1) 0 (-1)
def c_X9_init_s3 (σ : NS) (this : Nat) : NS := nInt (c_X9_init_s2 σ this) (σ.1) 1 (-1)
def c_X9_init_s4 (σ : NS) (this : Nat) : NS := nInt (c_X9_init_s3 σ this) (σ.1) 2 (-1)
def c_X9_init_s5 (σ : NS) (this : Nat) : NS := nInt (c_X9_init_s4 σ this) (σ.1) 3 (-1)
def c_X9_init_s6 (σ : NS) (this : Nat) : NS := nInt (c_X9_init_s5 σ this) (σ.1) 4 (-1)
def c_X9_init_s7 (σ : NS) (this : Nat) : NS := nInt (c_X9_init_s6 σ this) (σ.1) 5 (-1)
def c_X9_init_s8 (σ : NS) (this : Nat) : NS := nInt (c_X9_init_s7 σ this) (σ.1) 6 (-1)
def c_X9_init_s9 (σ : NS) (this : Nat) : NS := nInt (c_X9_init_s8 σ this) (σ.1) 7 (-1)
def c_X9_init_s10 (σ : NS) (this : Nat) : NS := nRef (c_X9_init_s9 σ this) this 2 (σ.1)
def c_X9_init_s11 (σ : NS) (this : Nat) : NS := nArr (c_X9_init_s10 σ this) 20 8
def c_X9_init_s12 (σ : NS) (this : Nat) : NS := nRef (c_X9_init_s11 σ this) this 3 (σ.1 + 1)
def c_X9_init_s13 (σ : NS) (this : Nat) : NS := nArr (c_X9_init_s12 σ this) 20 320
def c_X9_init_s14 (σ : NS) (this : Nat) : NS := nRef (c_X9_init_s13 σ this) this 4 (σ.1 + 2)
def c_X9_init_s15 (σ : NS) (this : Nat) : NS := nArr (c_X9_init_s14 σ this) 20 160
def c_X9_init_s16 (σ : NS) (this : Nat) : NS := nRef (c_X9_init_s15 σ this) this 9 (σ.1 + 3)
def c_X9_init_s17 (σ : NS) (this : Nat) : NS := nArr (c_X9_init_s16 σ this) 20 10
def c_X9_init_s18 (σ : NS) (this : Nat) : NS := nRef (c_X9_init_s17 σ this) this 10 (σ.1 + 4)
def c_X9_init_s19 (σ : NS) (this : Nat) : NS := nArr (c_X9_init_s18 σ this) 20 10
def c_X9_init_s20 (σ : NS) (this : Nat) : NS := nRef (c_X9_init_s19 σ this) this 11 (σ.1 + 5)
def c_X9_init_s21 (σ : NS) (this : Nat) : NS := nArr (c_X9_init_s20 σ this) 20 160
def c_X9_init_s22 (σ : NS) (this : Nat) : NS := nRef (c_X9_init_s21 σ this) this 16 (σ.1 + 6)
def c_X9_init_s23 (σ : NS) (this : Nat) : NS := nArr (c_X9_init_s22 σ this) 20 10
def c_X9_init_s24 (σ : NS) (this : Nat) : NS := nRef (c_X9_init_s23 σ this) this 17 (σ.1 + 7)
def c_X9_init_s25 (σ : NS) (this : Nat) : NS := nArr (c_X9_init_s24 σ this) 20 10
def c_X9_init_s26 (σ : NS) (this : Nat) : NS := nRef (c_X9_init_s25 σ this) this 18 (σ.1 + 8)
def c_X9_init_s27 (σ : NS) (this : Nat) : NS := nArr (c_X9_init_s26 σ this) 20 500
def c_X9_init_s28 (σ : NS) (this : Nat) : NS := nRef (c_X9_init_s27 σ this) this 19 (σ.1 + 9)
def c_X9_init_s29 (σ : NS) (this : Nat) : NS := nArr (c_X9_init_s28 σ this) 20 12
def c_X9_init_s30 (σ : NS) (this : Nat) : NS := nRef (c_X9_init_s29 σ this) this 29 (σ.1 + 10)
def c_X9_init_s31 (σ : NS) (this : Nat) : NS := nArr (c_X9_init_s30 σ this) 20 6
def c_X9_init_s32 (σ : NS) (this : Nat) : NS := nRef (c_X9_init_s31 σ this) this 30 (σ.1 + 11)
def c_X9_init_s33 (σ : NS) (this : Nat) : NS := nArr (c_X9_init_s32 σ this) 20 48
def c_X9_init_s34 (σ : NS) (this : Nat) : NS := nRef (c_X9_init_s33 σ this) this 32 (σ.1 + 12)
def c_X9_init_s35 (σ : NS) (this : Nat) : NS := nArr (c_X9_init_s34 σ this) 20 12
def c_X9_init_s36 (σ : NS) (this : Nat) : NS := nRef (c_X9_init_s35 σ this) this 33 (σ.1 + 13)
def c_X9_init_s37 (σ : NS) (this : Nat) : NS := nArr (c_X9_init_s36 σ this) 22 12
def c_X9_init_s38 (σ : NS) (this : Nat) : NS := nRef (c_X9_init_s37 σ this) this 34 (σ.1 + 14)
def c_X9_init_s39 (σ : NS) (this : Nat) : NS := nArr (c_X9_init_s38 σ this) 20 48
def c_X9_init_s40 (σ : NS) (this : Nat) : NS := nRef (c_X9_init_s39 σ this) this 36 (σ.1 + 15)
def c_X9_init_s41 (σ : NS) (this : Nat) : NS := nArr (c_X9_init_s40 σ this) 20 12
def c_X9_init_s42 (σ : NS) (this : Nat) : NS := nRef (c_X9_init_s41 σ this) this 38 (σ.1 + 16)
def c_X9_init_s43 (σ : NS) (this : Nat) : NS := nArr (c_X9_init_s42 σ this) 20 6
def c_X9_init_s44 (σ : NS) (this : Nat) : NS := nRef (c_X9_init_s43 σ this) this 39 (σ.1 + 17)
def c_X9_init_s45 (σ : NS) (this : Nat) : NS := nArr (c_X9_init_s44 σ this) 20 6
def c_X9_init_s46 (σ : NS) (this : Nat) : NS := nRef (c_X9_init_s45 σ this) this 40 (σ.1 + 18)
def c_X9_init_s47 (σ : NS) (this : Nat) : NS := nArr (c_X9_init_s46 σ this) 20 16
def c_X9_init_s48 (σ : NS) (this : Nat) : NS := nRef (c_X9_init_s47 σ this) this 41 (σ.1 + 19)
def c_X9_init (σ : NS) (this : Nat) : NS := (c_X9_init_s48 σ this)
def c_L_law_s1 (σ : NS) : NS := nObj σ 8
def c_L_law_s2 (σ : NS) : NS := c_X8_init (c_L_law_s1 σ) (σ.1)
def c_L_law_s3 (σ : NS) : NS := nObj (c_L_law_s2 σ) 9
def c_L_law_s4 (σ : NS) : NS := c_X9_init (c_L_law_s3 σ) (σ.1 + 106)
def c_L_law (σ : NS) : NS := (c_L_law_s4 σ)
def m_X0_hasKind (Z : ZT) (a0 : Int32) (μ : MT) : Option (Int32) :=
  (if a0 < 0 then some 0 else (if 8 ≤ a0 then some 0 else some 1))
def m_X0_leave (Z : ZT) (this : Nat) (a0 : Int32) (μ : MT) : Option (MT) :=
  (if 16 ≤ (μ this 1) then some μ else (ast Z μ (zr Z this 0) (μ this 1) a0).bind fun ν2 => (some (u2 ν2 this 1 ((ν2 this 1) + 1))).bind fun ν3 => some ν3)
def m_X0_traced (Z : ZT) (this : Nat) (a0 : Int32) (μ : MT) : Option (Int32) :=
  (if a0 < 0 then some (-1000000) else (if (μ this 1) ≤ a0 then some (-1000000) else (ald Z μ (zr Z this 0) a0).bind fun x2 => some x2))
def m_X1_forget (Z : ZT) (this : Nat) (μ : MT) : Option (MT) :=
  (some (u2 μ this 2 0)).bind fun ν1 => some ν1
def m_X1_keepWhereFlat (Z : ZT) (this : Nat) (a0 : Nat) (a1 : Int32) (μ : MT) : Option (MT) :=
  (loop (σ := Int32 × MT) (τ := MT) (fun (y1, ν2) => ((if (ν2 a0 7) ≤ y1 then some (Sum.inr ν2) else (ald Z ν2 (zr Z this 0) y1).bind fun x9 => (((if x9 = (-1000000) then (ald Z ν2 (zr Z a0 3) y1).bind fun x15 => (if x15 = 0 then (ast Z ν2 (zr Z this 0) y1 a1).bind fun ν17 => some ν17 else some ν2) else some ν2) : Option (MT))).bind (fun ν10 => (some (y1 + 1)).bind fun x13 => some (Sum.inl (x13, ν10)))) : Option ((Int32 × MT) ⊕ (MT)))) LN (0, μ)).bind (fun ν3 => some ν3)
def m_X2_becomeAs (Z : ZT) (this : Nat) (a0 : Nat) (μ : MT) : Option (MT) :=
  (some (u2 μ this 7 (μ a0 7))).bind fun ν1 => (some (u2 ν1 this 8 (ν1 a0 8))).bind fun ν2 => (some (u2 ν2 this 9 (ν2 a0 9))).bind fun ν3 => (some (u2 ν3 this 6 (ν3 a0 6))).bind fun ν4 => (acp Z ν4 (zr Z a0 0) 0 (zr Z this 0) 0 12).bind fun ν7 => (acp Z ν7 (zr Z a0 1) 0 (zr Z this 1) 0 12).bind fun ν10 => (acp Z ν10 (zr Z a0 2) 0 (zr Z this 2) 0 12).bind fun ν13 => (acp Z ν13 (zr Z a0 3) 0 (zr Z this 3) 0 12).bind fun ν16 => (acp Z ν16 (zr Z a0 4) 0 (zr Z this 4) 0 12).bind fun ν19 => (acp Z ν19 (zr Z a0 5) 0 (zr Z this 5) 0 12).bind fun ν22 => some ν22
def m_X2_effectOf (Z : ZT) (this : Nat) (a0 : Int32) (a1 : Int32) (μ : MT) : Option (Int32) :=
  (ald Z μ (zr Z this 2) a1).bind fun x2 => (some (8 + x2)).bind fun x3 => (((if x3 ≤ 0 then some 0 else (idv (8 * a0) x3).bind fun x10 => some x10) : Option (Int32))).bind (fun z4 => (ald Z μ (zr Z this 0) a1).bind fun x8 => (if x8 < 100 then some z4 else (idv z4 2).bind fun x9 => some x9))
def m_X2_heatOfStep (Z : ZT) (a0 : Int32) (a1 : Int32) (μ : MT) : Option (Int32) :=
  (if a0 = 0 then some a1 else if a0 = 6 then some (6 * a1) else some (4 * a1))
def m_X2_holdOfStep (Z : ZT) (a0 : Int32) (μ : MT) : Option (Int32) :=
  (if a0 = 0 then some 1 else if a0 = 4 then some 1 else if a0 = 6 then some 0 else some 2)
def m_X2_has (Z : ZT) (this : Nat) (a0 : Int32) (μ : MT) : Option (Int32) :=
  (if a0 < 0 then some 0 else (if (μ this 7) ≤ a0 then some 0 else some 1))
def m_X2_holds (Z : ZT) (this : Nat) (a0 : Int32) (μ : MT) : Option (Int32) :=
  (if a0 < 0 then some 0 else (if (μ this 7) ≤ a0 then some 0 else (ald Z μ (zr Z this 2) a0).bind fun x2 => (if x2 ≤ 0 then some 0 else some 1)))
def m_X2_isClamped (Z : ZT) (this : Nat) (a0 : Int32) (μ : MT) : Option (Int32) :=
  (if (((μ this 6) >>> (a0 &&& 31)) &&& 1) = 1 then some 1 else some 0)
def m_X2_cool (Z : ZT) (this : Nat) (a0 : Int32) (μ : MT) : Option (MT) :=
  (ald Z μ (zr Z this 1) a0).bind fun x2 => (loop (σ := Int32 × MT) (τ := MT) (fun (y3, ν4) => ((if (ν4 this 8) ≤ y3 then some (Sum.inr ν4) else (ald Z ν4 (zr Z this 0) a0).bind fun x13 => (if x13 ≤ 0 then some (Sum.inr ν4) else (ald Z ν4 (zr Z this 0) a0).bind fun x16 => (idv (x16 * 3) 4).bind fun x17 => (ast Z ν4 (zr Z this 0) a0 x17).bind fun ν18 => (some (y3 + 1)).bind fun x19 => some (Sum.inl (x19, ν18)))) : Option ((Int32 × MT) ⊕ (MT)))) LN (x2, μ)).bind (fun ν5 => (ast Z ν5 (zr Z this 1) a0 (ν5 this 8)).bind fun ν11 => some ν11)
def m_X2_heightAt (Z : ZT) (this : Nat) (a0 : Int32) (μ : MT) : Option (Int32) :=
  (loop (σ := Int32 × Int32 × Int32) (τ := Int32) (fun (y1, y2, y3) => ((if a0 ≤ y3 then some (Sum.inr y2) else (if (μ this 7) ≤ y3 then some (Sum.inr y2) else (ald Z μ (zr Z this 3) y3).bind fun x10 => (some (y1 + x10)).bind fun x11 => (some (y2 + x11)).bind fun x12 => (some (y3 + 1)).bind fun x13 => some (Sum.inl (x11, x12, x13)))) : Option ((Int32 × Int32 × Int32) ⊕ (Int32)))) LN (0, 0, 0)).bind (fun y4 => some y4)
def m_X3_isNone (Z : ZT) (this : Nat) (μ : MT) : Option (Int32) :=
  (if (μ this 0) = 0 then some 1 else some 0)
def m_X3_hasCell (Z : ZT) (this : Nat) (a0 : Int32) (μ : MT) : Option (Int32) :=
  (if a0 < 0 then some 0 else (if (μ this 0) ≤ a0 then some 0 else some 1))
def m_X3_hasSeam (Z : ZT) (this : Nat) (a0 : Int32) (μ : MT) : Option (Int32) :=
  (if a0 < 0 then some 0 else (if (μ this 1) ≤ a0 then some 0 else some 1))
def m_X3_hasAct (Z : ZT) (this : Nat) (a0 : Int32) (μ : MT) : Option (Int32) :=
  (if a0 < 0 then some 0 else (if (μ this 2) ≤ a0 then some 0 else some 1))
def m_X3_stepKind (Z : ZT) (this : Nat) (a0 : Int32) (μ : MT) : Option (Int32) :=
  (ald Z μ (zr Z this 4) a0).bind fun x2 => some (x2 + 1)
def m_X3_addAct (Z : ZT) (this : Nat) (a0 : Int32) (a1 : Int32) (a2 : Int32) (μ : MT) : Option (MT) :=
  (if 40 ≤ (μ this 2) then some μ else (ast Z μ (zr Z this 4) (μ this 2) a0).bind fun ν2 => (ast Z ν2 (zr Z this 5) (ν2 this 2) a1).bind fun ν4 => (ast Z ν4 (zr Z this 6) (ν4 this 2) a2).bind fun ν6 => (ast Z ν6 (zr Z this 7) (ν6 this 2) (ν6 this 1)).bind fun ν8 => (some (u2 ν8 this 2 ((ν8 this 2) + 1))).bind fun ν9 => some ν9)
def m_X3_endSeam (Z : ZT) (this : Nat) (μ : MT) : Option (MT) :=
  (if 6 ≤ (μ this 1) then some μ else (ast Z μ (zr Z this 8) (μ this 1) (μ this 2)).bind fun ν2 => (some (u2 ν2 this 1 ((ν2 this 1) + 1))).bind fun ν3 => some ν3)
def m_X3_firstAct (Z : ZT) (this : Nat) (a0 : Int32) (μ : MT) : Option (Int32) :=
  (if a0 ≤ 0 then some 0 else (if (μ this 1) ≤ a0 then some 0 else (ald Z μ (zr Z this 8) (a0 - 1)).bind fun x2 => some x2))
def m_X5_forget (Z : ZT) (this : Nat) (μ : MT) : Option (MT) :=
  (some (u2 μ this 4 0)).bind fun ν1 => some ν1
def m_X6_hasNumber (Z : ZT) (this : Nat) (a0 : Int32) (μ : MT) : Option (Int32) :=
  (if a0 < 0 then some 0 else (if 8 ≤ a0 then some 0 else some 1))
def m_X6_isMissing (Z : ZT) (this : Nat) (a0 : Int32) (μ : MT) : Option (Int32) :=
  (((if a0 < 0 then some (Sum.inr ()) else (if 8 ≤ a0 then some (Sum.inr ()) else (ald Z μ (zr Z this 1) a0).bind fun x5 => (if x5 = (-1) then some (Sum.inr ()) else some (Sum.inl 0)))) : Option ((Int32) ⊕ (Unit)))).bind (jn (fun (_ : Unit) => some 1))
def m_X6_howMany (Z : ZT) (this : Nat) (μ : MT) : Option (Int32) :=
  (loop (σ := Int32 × Int32) (τ := Int32) (fun (y1, y2) => ((if 8 ≤ y2 then some (Sum.inr y1) else (ald Z μ (zr Z this 1) y2).bind fun x9 => (((if x9 = (-1) then some y1 else (some (y1 + 1)).bind fun x14 => some x14) : Option (Int32))).bind (fun y10 => (some (y2 + 1)).bind fun x13 => some (Sum.inl (y10, x13)))) : Option ((Int32 × Int32) ⊕ (Int32)))) LN (0, 0)).bind (fun y3 => some y3)
def m_X6_takeAway (Z : ZT) (this : Nat) (a0 : Int32) (μ : MT) : Option (Int32 × MT) :=
  (ald Z μ (zr Z this 1) a0).bind fun x2 => (ast Z μ (zr Z this 1) a0 (-1)).bind fun ν4 => some (x2, ν4)
def m_X6_narrowed (Z : ZT) (a0 : Int32) (a1 : Int32) (μ : MT) : Option (Int32) :=
  (if a0 = 0 then some ((a1 : Int32).toInt8.toInt32) else if a0 = 1 then some ((a1 : Int32).toInt16.toInt32) else some a1)
def m_X6_carry (Z : ZT) (this : Nat) (a0 : Int32) (a1 : Int32) (a2 : Int32) (a3 : Int32) (a4 : Int32) (μ : MT) : Option (MT) :=
  (ard Z (zr Z this 2) a0).bind fun q2 => (ard Z (zr Z this 2) a2).bind fun q5 => (acp Z μ q2 a1 q5 a3 a4).bind fun ν7 => some ν7
def m_X7_hasRoom (Z : ZT) (this : Nat) (a0 : Int32) (μ : MT) : Option (Int32) :=
  (if (500 - (μ this 1)) < a0 then some 0 else some 1)
def m_X7_append (Z : ZT) (this : Nat) (a0 : Int64) (a1 : Int32) (μ : MT) : Option (Int32 × MT) :=
  (some (a1 - 1)).bind fun x1 => (loop (σ := Int32 × MT) (τ := MT) (fun (y2, ν3) => ((if y2 < 0 then some (Sum.inr ν3) else (if 500 ≤ (ν3 this 1) then some (Sum.inr ν3) else (ast Z ν3 (zr Z this 0) (ν3 this 1) (vp_nar .byte (((a0 >>> ((8 * y2 : Int32).toInt64 &&& 63) : Int64).toInt32 : Int32).toInt8.toInt32))).bind fun ν10 => (some (u2 ν10 this 1 ((ν10 this 1) + 1))).bind fun ν11 => (some (y2 + (-1))).bind fun x12 => some (Sum.inl (x12, ν11)))) : Option ((Int32 × MT) ⊕ (MT)))) LN (x1, μ)).bind (fun ν4 => some (ν4 this 1, ν4))
def m_X7_empty (Z : ZT) (this : Nat) (μ : MT) : Option (MT) :=
  (some (u2 μ this 1 0)).bind fun ν1 => some ν1
def m_X7_tokenPlace (Z : ZT) (this : Nat) (μ : MT) : Option (Int32) :=
  some (μ this 2)
def m_X7_sortOf (Z : ZT) (a0 : Int32) (μ : MT) : Option (Int32) :=
  (((if a0 < 97 then some (Sum.inr ()) else (if 122 < a0 then some (Sum.inr ()) else some (Sum.inl 1))) : Option ((Int32) ⊕ (Unit)))).bind (jn (fun (_ : Unit) => (((if a0 < 48 then some (Sum.inr ()) else (if 57 < a0 then some (Sum.inr ()) else some (Sum.inl 2))) : Option ((Int32) ⊕ (Unit)))).bind (jn (fun (_ : Unit) => (if a0 = 59 then some 3 else some 4)))))
def m_X7_spelling (Z : ZT) (a0 : Int32) (μ : MT) : Option (Nat) :=
  (if a0 = 0 then some (2000 + 0) else if a0 = 1 then some (2000 + 1) else if a0 = 2 then some (2000 + 2) else if a0 = 3 then some (2000 + 3) else if a0 = 4 then some (2000 + 4) else if a0 = 5 then some (2000 + 5) else if a0 = 6 then some (2000 + 6) else if a0 = 7 then some (2000 + 7) else if a0 = 8 then some (2000 + 8) else if a0 = 9 then some (2000 + 9) else if a0 = 10 then some (2000 + 10) else if a0 = 11 then some (2000 + 11) else if a0 = 12 then some (2000 + 12) else some (2000 + 13))
def m_X7_atEnd (Z : ZT) (this : Nat) (μ : MT) : Option (Int32) :=
  (if (μ this 4) = 0 then some 1 else some 0)
def m_X7_atNumber (Z : ZT) (this : Nat) (μ : MT) : Option (Int32) :=
  (if (μ this 4) = 2 then some 1 else some 0)
def m_X7_numberHere (Z : ZT) (this : Nat) (μ : MT) : Option (Int32) :=
  (some (μ this 2)).bind fun x1 => (loop (σ := Int32 × Int32) (τ := Int32) (fun (y2, y3) => ((if (μ this 3) ≤ y3 then some (Sum.inr y2) else (if (μ this 4) = 2 then (ald Z μ (zr Z this 0) y3).bind fun x10 => (some (((y2 * 10) + x10) - 48)).bind fun x11 => (some (y3 + 1)).bind fun x12 => some (Sum.inl (x11, x12)) else some (Sum.inr y2))) : Option ((Int32 × Int32) ⊕ (Int32)))) LN (0, x1)).bind (fun y4 => some y4)
def m_X7_atSign (Z : ZT) (this : Nat) (μ : MT) : Option (Int32) :=
  (if (μ this 4) = 3 then some 1 else some 0)
def m_X8_fault (Z : ZT) (this : Nat) (μ : MT) : Option (Int32) :=
  some (μ this 14)
def m_X8_minutes (Z : ZT) (this : Nat) (μ : MT) : Option (Int32) :=
  some (μ (zr Z this 6) 8)
def m_X8_spotAt (Z : ZT) (zn : Nat) (this : Nat) (a0 : Int32) (a1 : Int32) (μ : MT) : Option (MT) :=
  (ald Z μ (zr Z this 5) a0).bind fun x2 => (((if x2 ≤ 0 then (ald Z μ (zr Z this 5) a0).bind fun x19 => (ast Z μ (zr Z this 5) a0 (imin 0 (x19 + a1))).bind fun ν20 => some ν20 else (ald Z μ (zr Z this 5) a0).bind fun x23 => (ast Z μ (zr Z this 5) a0 (imax 0 (x23 - a1))).bind fun ν24 => some ν24) : Option (MT))).bind (fun ν3 => (((if a0 ≤ 0 then some ν3 else (ald Z ν3 (zr Z this 5) (a0 - 1)).bind fun x15 => (ast Z ν3 (zr Z this 5) (a0 - 1) (x15 + 1)).bind fun ν16 => some ν16) : Option (MT))).bind (fun ν6 => (mrd Z zn 3 (ν6 this 11)).bind fun q9 => (if (ν6 q9 0) ≤ (a0 + 1) then some ν6 else (ald Z ν6 (zr Z this 5) (a0 + 1)).bind fun x12 => (ast Z ν6 (zr Z this 5) (a0 + 1) (x12 + 1)).bind fun ν13 => some ν13)))
def m_X8_status (Z : ZT) (this : Nat) (μ : MT) : Option (Int32) :=
  some (μ this 15)
def m_X8_found (Z : ZT) (this : Nat) (a0 : Int32) (μ : MT) : Option (Int32 × MT) :=
  (some (u2 μ this 15 a0)).bind fun ν1 => some ((-1000010) - a0, ν1)
def m_X8_fine (Z : ZT) (this : Nat) (a0 : Int32) (μ : MT) : Option (Int32 × MT) :=
  (some (u2 μ this 15 0)).bind fun ν1 => some (a0, ν1)
def m_X9_in (Z : ZT) (a0 : Int64) (a1 : Int64) (a2 : Int64) (μ : MT) : Option (Int32) :=
  (if (lg_cmp a0 a1) < 0 then some 0 else (if 0 < (lg_cmp a0 a2) then some 0 else some 1))
def m_X9_finding (Z : ZT) (this : Nat) (a0 : Int32) (μ : MT) : Option (Int32 × MT) :=
  (some (u2 μ this 1 a0)).bind fun ν1 => some ((-1000010) - a0, ν1)
def m_X9_byteAt (Z : ZT) (this : Nat) (a0 : Int32) (μ : MT) : Option (Int32) :=
  (if (μ this 22) ≤ a0 then some (-1000000) else (ald Z μ (zr Z this 19) a0).bind fun x2 => some x2)
def m_X9_isLetter (Z : ZT) (a0 : Int32) (μ : MT) : Option (Int32) :=
  (if a0 < 97 then some 0 else (if 122 < a0 then some 0 else some 1))
def m_X9_isFigure (Z : ZT) (a0 : Int32) (μ : MT) : Option (Int32) :=
  (if a0 < 48 then some 0 else (if 57 < a0 then some 0 else some 1))
def m_X9_bad (Z : ZT) (this : Nat) (a0 : Int32) (μ : MT) : Option (MT) :=
  (if (μ this 27) = 0 then (some (u2 μ this 27 a0)).bind fun ν1 => (some (u2 ν1 this 28 (ν1 this 25))).bind fun ν2 => some ν2 else some μ)
def m_X9_word (Z : ZT) (this : Nat) (μ : MT) : Option (Int64) :=
  (some (μ this 25)).bind fun x1 => (loop (σ := Int64 × Int32) (τ := Int64) (fun (y2, y3) => ((if (μ this 26) ≤ y3 then some (Sum.inr y2) else (if (μ this 24) = 2 then (if 8 ≤ ((μ this 26) - (μ this 25)) then some (Sum.inr y2) else (ald Z μ (zr Z this 19) y3).bind fun x10 => (some ((y2 <<< ((8 : Int32).toInt64 &&& 63)) ||| ((x10 : Int32).toInt64))).bind fun x11 => (some (y3 + 1)).bind fun x12 => some (Sum.inl (x11, x12))) else some (Sum.inr y2))) : Option ((Int64 × Int32) ⊕ (Int64)))) LN (0, x1)).bind (fun y4 => (if (μ this 27) = 0 then some y4 else some 0))
def m_X9_fault (Z : ZT) (this : Nat) (μ : MT) : Option (Int32 × MT) :=
  (some (u2 μ this 0 0)).bind fun ν1 => some (ν1 this 21, ν1)
def m_X9_minute (Z : ZT) (this : Nat) (μ : MT) : Option (MT) :=
  (loop (σ := Int32 × MT) (τ := MT) (fun (y1, ν2) => ((if (ν2 this 5) ≤ y1 then some (Sum.inr ν2) else (ald Z ν2 (zr Z this 32) (0 + y1)).bind fun x11 => (idv (3 * x11) 4).bind fun x12 => (ast Z ν2 (zr Z this 32) (0 + y1) x12).bind fun ν13 => (some (y1 + 1)).bind fun x14 => some (Sum.inl (x14, ν13))) : Option ((Int32 × MT) ⊕ (MT)))) LN (0, μ)).bind (fun ν3 => (some (u2 ν3 this 35 ((ν3 this 35) + 1))).bind fun ν8 => some ν8)
def m_X9_free (Z : ZT) (this : Nat) (a0 : Int32) (μ : MT) : Option (MT) :=
  (ald Z μ (zr Z this 34) a0).bind fun x2 => (if x2 = 0 then some μ else (ast Z μ (zr Z this 34) a0 (vp_nar .boolean 0)).bind fun ν4 => (ald Z ν4 (zr Z this 32) (24 + a0)).bind fun x6 => (ald Z ν4 (zr Z this 33) a0).bind fun x8 => (idv x8 2).bind fun x9 => (ast Z ν4 (zr Z this 32) (24 + a0) (x6 + x9)).bind fun ν10 => (ast Z ν10 (zr Z this 33) a0 0).bind fun ν12 => some ν12)
def m_X9_heightBy (Z : ZT) (this : Nat) (a0 : Nat) (a1 : Int32) (μ : MT) : Option (Int32) :=
  (loop (σ := Int32 × Int32 × Int32) (τ := Int32) (fun (y1, y2, y3) => ((if a1 ≤ y3 then some (Sum.inr y1) else (ald Z μ a0 (24 + y3)).bind fun x9 => (some (y2 + x9)).bind fun x10 => (some (y1 + x10)).bind fun x11 => (some (y3 + 1)).bind fun x12 => some (Sum.inl (x11, x10, x12))) : Option ((Int32 × Int32 × Int32) ⊕ (Int32)))) LN (0, 0, 0)).bind (fun y4 => some y4)
def m_X9_layOpened (Z : ZT) (this : Nat) (μ : MT) : Option (MT) :=
  (loop (σ := Int32 × MT) (τ := MT) (fun (y1, ν2) => ((if 12 ≤ y1 then some (Sum.inr ν2) else (ald Z ν2 (zr Z this 29) y1).bind fun x10 => (ast Z ν2 (zr Z this 38) y1 x10).bind fun ν11 => (some (y1 + 1)).bind fun x12 => some (Sum.inl (x12, ν11))) : Option ((Int32 × MT) ⊕ (MT)))) LN (0, μ)).bind (fun ν3 => some ν3)
def m_X9_stand (Z : ZT) (this : Nat) (μ : MT) : Option (MT) :=
  (loop (σ := Int32 × MT) (τ := MT) (fun (y1, ν2) => ((if 48 ≤ y1 then some (Sum.inr ν2) else (ald Z ν2 (zr Z this 32) y1).bind fun x24 => (ast Z ν2 (zr Z this 36) y1 x24).bind fun ν25 => (some (y1 + 1)).bind fun x26 => some (Sum.inl (x26, ν25))) : Option ((Int32 × MT) ⊕ (MT)))) LN (0, μ)).bind (fun ν3 => (some (u2 ν3 this 37 (ν3 this 35))).bind fun ν8 => (some (u2 ν8 this 31 1)).bind fun ν9 => (loop (σ := Int32 × MT) (τ := MT) (fun (y10, ν11) => ((if 6 ≤ y10 then some (Sum.inr ν11) else (ald Z ν11 (zr Z this 39) y10).bind fun x19 => (ast Z ν11 (zr Z this 30) y10 x19).bind fun ν20 => (some (y10 + 1)).bind fun x21 => some (Sum.inl (x21, ν20))) : Option ((Int32 × MT) ⊕ (MT)))) LN (0, ν9)).bind (fun ν12 => some ν12))
def m_X9_layNumbers (Z : ZT) (this : Nat) (μ : MT) : Option (MT) :=
  (loop (σ := Int32 × MT) (τ := MT) (fun (y1, ν2) => ((if 6 ≤ y1 then some (Sum.inr ν2) else (ast Z ν2 (zr Z this 39) y1 y1).bind fun ν9 => (some (y1 + 1)).bind fun x10 => some (Sum.inl (x10, ν9))) : Option ((Int32 × MT) ⊕ (MT)))) LN (0, μ)).bind (fun ν3 => some ν3)
def m_X9_minutes (Z : ZT) (this : Nat) (μ : MT) : Option (Int32 × MT) :=
  (some (u2 μ this 0 0)).bind fun ν1 => (if (ν1 this 31) = 0 then some (0, ν1) else some (ν1 this 37, ν1))
def m_X9_fits (Z : ZT) (this : Nat) (μ : MT) : Option (Int32) :=
  (loop (σ := Int32 × Int32) (τ := Int32) (fun (y1, y2) => ((if (μ this 8) ≤ y2 then some (Sum.inr y1) else (loop (σ := Int32 × Int32 × Int32) (τ := Int32 × Int32) (fun (y10, y11, y12) => ((if (μ this 6) ≤ y12 then some (Sum.inr (y10, y11)) else (ald Z μ (zr Z this 39) y12).bind fun x27 => (ald Z μ (zr Z this 10) y2).bind fun x29 => (((if x27 = x29 then some y12 else some y10) : Option (Int32))).bind (fun z30 => (ald Z μ (zr Z this 39) y12).bind fun x34 => (ald Z μ (zr Z this 11) y2).bind fun x36 => (((if x34 = x36 then some y12 else some y11) : Option (Int32))).bind (fun z37 => (some (y12 + 1)).bind fun x40 => some (Sum.inl (z30, z37, x40))))) : Option ((Int32 × Int32 × Int32) ⊕ (Int32 × Int32)))) LN (0, 0, 0)).bind (fun (y13, y14) => (((((if y1 = 0 then some (Sum.inr ()) else (if y14 ≤ y13 then some (Sum.inr ()) else some (Sum.inl 1))) : Option ((Int32) ⊕ (Unit)))).bind (jn (fun (_ : Unit) => some 0)) : Option (Int32))).bind (fun z19 => (some (y2 + 1)).bind fun x22 => some (Sum.inl (z19, x22))))) : Option ((Int32 × Int32) ⊕ (Int32)))) LN (1, 0)).bind (fun y3 => (bz y3).bind fun x8 => some x8)
def m_X9_nextOrder (Z : ZT) (this : Nat) (μ : MT) : Option (Int32 × MT) :=
  (some ((μ this 6) - 2)).bind fun x1 => (loop (σ := Int32) (τ := Int32) (fun y2 => ((if y2 < 0 then some (Sum.inr y2) else (ald Z μ (zr Z this 39) y2).bind fun x49 => (ald Z μ (zr Z this 39) (y2 + 1)).bind fun x51 => (if x49 ≤ x51 then some (Sum.inr y2) else (some (y2 + (-1))).bind fun x52 => some (Sum.inl x52))) : Option ((Int32) ⊕ (Int32)))) LN x1).bind (fun y3 => (if 0 ≤ y3 then (some ((μ this 6) - 1)).bind fun x8 => (loop (σ := Int32) (τ := Int32) (fun y9 => ((ald Z μ (zr Z this 39) y9).bind fun x44 => (ald Z μ (zr Z this 39) y3).bind fun x46 => (if x46 ≤ x44 then some (Sum.inr y9) else (some (y9 + (-1))).bind fun x47 => some (Sum.inl x47)) : Option ((Int32) ⊕ (Int32)))) LN x8).bind (fun y10 => (ald Z μ (zr Z this 39) y3).bind fun x16 => (ald Z μ (zr Z this 39) y10).bind fun x19 => (ast Z μ (zr Z this 39) y3 x19).bind fun ν20 => (ast Z ν20 (zr Z this 39) y10 x16).bind fun ν22 => (some (y3 + 1)).bind fun x23 => (some ((ν22 this 6) - 1)).bind fun x24 => (loop (σ := Int32 × Int32 × MT) (τ := MT) (fun (y25, y26, ν27) => ((if y26 ≤ y25 then some (Sum.inr ν27) else (ald Z ν27 (zr Z this 39) y25).bind fun x34 => (ald Z ν27 (zr Z this 39) y26).bind fun x37 => (ast Z ν27 (zr Z this 39) y25 x37).bind fun ν38 => (ast Z ν38 (zr Z this 39) y26 x34).bind fun ν40 => (some (y25 + 1)).bind fun x41 => (some (y26 + (-1))).bind fun x42 => some (Sum.inl (x41, x42, ν40))) : Option ((Int32 × Int32 × MT) ⊕ (MT)))) LN (x23, x24, ν22)).bind (fun ν28 => some (1, ν28))) else some (0, μ)))
def m_X9_flame (Z : ZT) (this : Nat) (a0 : Int32) (a1 : Int32) (μ : MT) : Option (MT) :=
  (ald Z μ (zr Z this 32) (24 + a0)).bind fun x2 => (((if x2 ≤ a1 then (if (-a1) ≤ x2 then some 0 else some (x2 + a1)) else some (x2 - a1)) : Option (Int32))).bind (fun z4 => (ast Z μ (zr Z this 32) (24 + a0) z4).bind fun ν7 => (((if a0 ≤ 0 then some ν7 else (ald Z ν7 (zr Z this 32) ((24 + a0) - 1)).bind fun x15 => (ast Z ν7 (zr Z this 32) ((24 + a0) - 1) (x15 + 1)).bind fun ν16 => some ν16) : Option (MT))).bind (fun ν8 => (if ((ν8 this 5) - 1) ≤ a0 then some ν8 else (ald Z ν8 (zr Z this 32) ((24 + a0) + 1)).bind fun x12 => (ast Z ν8 (zr Z this 32) ((24 + a0) + 1) (x12 + 1)).bind fun ν13 => some ν13)))
def m_X9_bendBy (Z : ZT) (this : Nat) (a0 : Int32) (a1 : Int32) (μ : MT) : Option (Int32) :=
  (ald Z μ (zr Z this 4) ((a0 + a1) + 1)).bind fun x2 => (ald Z μ (zr Z this 4) (a0 + a1)).bind fun x4 => (some (x2 - x4)).bind fun x5 => (if a1 = 0 then some x5 else (ald Z μ (zr Z this 4) (a0 + a1)).bind fun x7 => (ald Z μ (zr Z this 4) ((a0 + a1) - 1)).bind fun x9 => some (x5 - (x7 - x9)))
def m_X9_began (Z : ZT) (this : Nat) (a0 : Int32) (μ : MT) : Option (MT) :=
  (if 16 ≤ (μ this 42) then some μ else (ast Z μ (zr Z this 41) (μ this 42) a0).bind fun ν2 => (some (u2 ν2 this 42 ((ν2 this 42) + 1))).bind fun ν3 => some ν3)
def m_X9_count (Z : ZT) (this : Nat) (a0 : Int32) (μ : MT) : Option (Int32 × MT) :=
  (some (u2 μ this 0 0)).bind fun ν1 => (if a0 = 0 then (loop (σ := Int32 × Int32) (τ := Int32) (fun (y3, y4) => ((if 8 ≤ y4 then some (Sum.inr y3) else (ald Z ν1 (zr Z this 2) y4).bind fun x11 => (((if x11 < 0 then some 0 else some 1) : Option (Int32))).bind (fun z12 => (some (y3 + z12)).bind fun x15 => (some (y4 + 1)).bind fun x16 => some (Sum.inl (x15, x16)))) : Option ((Int32 × Int32) ⊕ (Int32)))) LN (0, 0)).bind (fun y5 => some (y5, ν1)) else if a0 = 1 then some (ν1 this 5, ν1) else if a0 = 2 then some (ν1 this 6, ν1) else if a0 = 3 then some (ν1 this 7, ν1) else if a0 = 4 then some (ν1 this 8, ν1) else if a0 = 5 then some (ν1 this 20, ν1) else some ((-1000001), ν1))
def m_X9_status (Z : ZT) (this : Nat) (μ : MT) : Option (Int32 × MT) :=
  (some (u2 μ this 0 0)).bind fun ν1 => some (ν1 this 1, ν1)
def m_J6_bitCount_0f7a4 (Z : ZT) (a0 : Int32) (μ : MT) : Option (Int32) :=
  (some (a0 - (((a0.toUInt32 >>> ((1 : Int32).toUInt32 &&& Int32.toUInt32 31)).toInt32) &&& 1431655765))).bind fun x1 => (some ((x1 &&& 858993459) + (((x1.toUInt32 >>> ((2 : Int32).toUInt32 &&& Int32.toUInt32 31)).toInt32) &&& 858993459))).bind fun x2 => (some ((x2 + ((x2.toUInt32 >>> ((4 : Int32).toUInt32 &&& Int32.toUInt32 31)).toInt32)) &&& 252645135)).bind fun x3 => (some (x3 + ((x3.toUInt32 >>> ((8 : Int32).toUInt32 &&& Int32.toUInt32 31)).toInt32))).bind fun x4 => (some (x4 + ((x4.toUInt32 >>> ((16 : Int32).toUInt32 &&& Int32.toUInt32 31)).toInt32))).bind fun x5 => some (x5 &&& 63)
def m_J0_coder_7d493 (Z : ZT) (this : Nat) (μ : MT) : Option (Int32) :=
  (if (1 : Int32) = 0 then some 1 else some 0)
def m_J0_isLatin1_aae02 (Z : ZT) (this : Nat) (μ : MT) : Option (Int32) :=
  (if (1 : Int32) = 0 then some 0 else (if (0 : Int32) = 0 then some 1 else some 0))
def m_J1_charAt_3b067 (Z : ZT) (a0 : Nat) (a1 : Int32) (μ : MT) : Option (Int32) :=
  (m_J0_checkIndex_df160 Z a1 (Int32.ofNat (slen a0)) μ).bind fun _ => (sld a0 a1).bind fun x1 => some (((x1 &&& 255).toUInt32 % 65536).toInt32)
def m_J7_fill_53178 (Z : ZT) (a0 : Nat) (a1 : Int32) (μ : MT) : Option (MT) :=
  (some (Int32.ofNat (zl Z a0))).bind fun x1 => (loop (σ := Int32 × MT) (τ := MT) (fun (y2, ν3) => ((if x1 ≤ y2 then some (Sum.inr ν3) else (ast Z ν3 a0 y2 a1).bind fun ν9 => (some (y2 + 1)).bind fun x10 => some (Sum.inl (x10, ν9))) : Option ((Int32 × MT) ⊕ (MT)))) LN (0, μ)).bind (fun ν4 => some ν4)
def m_X0_isOfKind (Z : ZT) (a0 : Int32) (a1 : Int32) (μ : MT) : Option (Int32) :=
  (loop (σ := Int32 × Int32) (τ := Int32) (fun (y1, y2) => ((if 8 ≤ y2 then some (Sum.inr y1) else (m_X0_hasKind Z y1 μ).bind fun r8 => (if r8 = 0 then some (Sum.inr y1) else (if y1 = 0 then some (Sum.inr y1) else (if y1 = a1 then some (Sum.inr y1) else (ald Z μ 1001 y1).bind fun x9 => (some (y2 + 1)).bind fun x10 => some (Sum.inl (x9, x10)))))) : Option ((Int32 × Int32) ⊕ (Int32)))) LN (a0, 0)).bind (fun y3 => (if y3 = a1 then some 1 else some 0))
def m_X0_bodyFor (Z : ZT) (a0 : Int32) (a1 : Int32) (μ : MT) : Option (Int32) :=
  (loop (σ := Int32 × Int32) (τ := (Int32) ⊕ (Unit)) (fun (y1, y2) => ((if 8 ≤ y2 then some (Sum.inr (Sum.inr ())) else (m_X0_hasKind Z y1 μ).bind fun r8 => (if r8 = 0 then some (Sum.inr (Sum.inr ())) else (if y1 = 0 then some (Sum.inr (Sum.inr ())) else (((if a1 = 0 then (ald Z μ 1002 y1).bind fun x15 => some x15 else (ald Z μ 1003 y1).bind fun x14 => some x14) : Option (Int32))).bind (fun z9 => (if z9 = 0 then (ald Z μ 1001 y1).bind fun x12 => (some (y2 + 1)).bind fun x13 => some (Sum.inl (x12, x13)) else some (Sum.inr (Sum.inl z9))))))) : Option ((Int32 × Int32) ⊕ ((Int32) ⊕ (Unit))))) LN (a0, 0)).bind (jn (fun (_ : Unit) => (if a1 = 0 then some 10 else some 20)))
def m_X2_begin (Z : ZT) (this : Nat) (a0 : Int32) (a1 : Nat) (μ : MT) : Option (MT) :=
  (some (u2 μ this 7 (imin a0 12))).bind fun ν1 => (some (u2 ν1 this 8 0)).bind fun ν2 => (some (u2 ν2 this 9 0)).bind fun ν3 => (some (u2 ν3 this 6 0)).bind fun ν4 => (m_J7_fill_53178 Z (zr Z this 0) 0 ν4).bind fun ν6 => (m_J7_fill_53178 Z (zr Z this 1) 0 ν6).bind fun ν8 => (m_J7_fill_53178 Z (zr Z this 2) 0 ν8).bind fun ν10 => (m_J7_fill_53178 Z (zr Z this 4) 0 ν10).bind fun ν12 => (m_J7_fill_53178 Z (zr Z this 5) 0 ν12).bind fun ν14 => (acp Z ν14 a1 0 (zr Z this 3) 0 12).bind fun ν16 => some ν16
def m_X2_shrinkageOf (Z : ZT) (this : Nat) (a0 : Int32) (a1 : Int32) (a2 : Int32) (μ : MT) : Option (Int32) :=
  (m_X2_holds Z this (a1 + 1) μ).bind fun r1 => (((if r1 = 0 then some a2 else some (a2 - 1)) : Option (Int32))).bind (fun z2 => (if a0 = 0 then some 1 else if a0 = 2 then some z2 else if a0 = 3 then (m_X2_holds Z this (a1 - 1) μ).bind fun r8 => (((if r8 = 0 then (m_X2_holds Z this (a1 + 1) μ).bind fun r12 => (if r12 = 0 then some (Sum.inl (z2 - 1)) else some (Sum.inr ())) else some (Sum.inr ())) : Option ((Int32) ⊕ (Unit)))).bind (jn (fun (_ : Unit) => some z2)) else if a0 = 4 then (m_X2_holds Z this a1 μ).bind fun r14 => (if r14 = 0 then some a2 else (idv a2 2).bind fun x15 => some x15) else if a0 = 5 then some (-a2) else if a0 = 6 then (ald Z μ (zr Z this 3) a1).bind fun x19 => (if x19 ≤ 0 then some a2 else some (-a2)) else some a2))
def m_X2_freeOne (Z : ZT) (this : Nat) (a0 : Int32) (μ : MT) : Option (MT) :=
  (m_X2_has Z this a0 μ).bind fun r1 => (if r1 = 0 then some μ else (m_X2_isClamped Z this a0 μ).bind fun r2 => (if r2 = 0 then some μ else (some (u2 μ this 6 ((μ this 6) &&& ((1 <<< (a0 &&& 31)) ^^^ (-1))))).bind fun ν3 => (ald Z ν3 (zr Z this 3) a0).bind fun x5 => (ald Z ν3 (zr Z this 4) a0).bind fun x7 => (idv x7 2).bind fun x8 => (ast Z ν3 (zr Z this 3) a0 (x5 + x8)).bind fun ν9 => (ast Z ν9 (zr Z this 4) a0 0).bind fun ν11 => some ν11))
def m_X2_heatOf (Z : ZT) (this : Nat) (a0 : Int32) (μ : MT) : Option (Int32 × MT) :=
  (m_X2_has Z this a0 μ).bind fun r1 => (if r1 = 0 then some (0, μ) else (m_X2_cool Z this a0 μ).bind fun ν2 => (ald Z ν2 (zr Z this 0) a0).bind fun x4 => some (x4, ν2))
def m_X2_pullOf (Z : ZT) (this : Nat) (a0 : Int32) (μ : MT) : Option (Int32) :=
  (m_X2_has Z this a0 μ).bind fun r1 => (if r1 = 0 then some 0 else (ald Z μ (zr Z this 5) a0).bind fun x3 => some (((μ this 7) * x3) - (μ this 9)))
def m_X2_off (Z : ZT) (this : Nat) (μ : MT) : Option (Int32) :=
  (m_X2_heightAt Z this (μ this 7) μ).bind fun r1 => (loop (σ := Int32 × Int32 × Int32 × Int32) (τ := Int32) (fun (y2, y3, y4, y5) => ((if (μ this 7) ≤ y5 then some (Sum.inr y4) else (ald Z μ (zr Z this 3) y5).bind fun x13 => (some (y2 + x13)).bind fun x14 => (some (y3 + x14)).bind fun x15 => (some (imax y4 (iabs (((μ this 7) * x15) - ((y5 + 1) * r1))))).bind fun x16 => (some (y5 + 1)).bind fun x17 => some (Sum.inl (x14, x15, x16, x17))) : Option ((Int32 × Int32 × Int32 × Int32) ⊕ (Int32)))) LN (0, 0, 0, 0)).bind (fun y6 => (if (μ this 7) ≤ 0 then some 0 else (idv y6 (μ this 7)).bind fun x11 => some x11))
def m_X3_clear (Z : ZT) (this : Nat) (μ : MT) : Option (MT) :=
  (some (u2 μ this 0 0)).bind fun ν1 => (some (u2 ν1 this 1 0)).bind fun ν2 => (some (u2 ν2 this 2 0)).bind fun ν3 => (some (u2 ν3 this 3 0)).bind fun ν4 => (m_J7_fill_53178 Z (zr Z this 9) 0 ν4).bind fun ν6 => some ν6
def m_X3_isStep (Z : ZT) (this : Nat) (a0 : Int32) (μ : MT) : Option (Int32) :=
  (m_X3_hasAct Z this a0 μ).bind fun r1 => (if r1 = 0 then some 0 else (ald Z μ (zr Z this 4) a0).bind fun x3 => (if 6 < x3 then some 0 else some 1))
def m_X3_addBefore (Z : ZT) (this : Nat) (a0 : Int32) (a1 : Int32) (μ : MT) : Option (MT) :=
  (m_X3_hasSeam Z this a0 μ).bind fun r1 => (if r1 = 0 then some μ else (m_X3_hasSeam Z this a1 μ).bind fun r2 => (if r2 = 0 then some μ else (ald Z μ (zr Z this 9) a1).bind fun x4 => (ast Z μ (zr Z this 9) a1 (x4 ||| (1 <<< (a0 &&& 31)))).bind fun ν5 => (some (u2 ν5 this 3 ((ν5 this 3) + 1))).bind fun ν6 => some ν6))
def m_X3_endOfActs (Z : ZT) (this : Nat) (a0 : Int32) (μ : MT) : Option (Int32) :=
  (m_X3_hasSeam Z this a0 μ).bind fun r1 => (if r1 = 0 then some 0 else (ald Z μ (zr Z this 8) a0).bind fun x3 => some x3)
def m_X3_mayFollow (Z : ZT) (this : Nat) (a0 : Int32) (a1 : Int32) (μ : MT) : Option (Int32) :=
  (m_X3_hasSeam Z this a0 μ).bind fun r1 => (if r1 = 0 then some 0 else (if ((a1 >>> (a0 &&& 31)) &&& 1) = 0 then (ald Z μ (zr Z this 9) a0).bind fun x3 => (if (x3 &&& (a1 ^^^ (-1))) = 0 then some 1 else some 0) else some 0))
def m_X6_findingAt (Z : ZT) (this : Nat) (a0 : Int32) (a1 : Int32) (a2 : Int32) (μ : MT) : Option (Int32) :=
  (m_X6_isMissing Z this a0 μ).bind fun r1 => (if r1 = 0 then (((if a1 < 0 then some (Sum.inr ()) else (if a2 < 0 then some (Sum.inr ()) else (ald Z μ (zr Z this 1) a0).bind fun x6 => (if a1 ≤ (x6 - a2) then some (Sum.inl 0) else some (Sum.inr ())))) : Option ((Int32) ⊕ (Unit)))).bind (jn (fun (_ : Unit) => some 2)) else some 1)
def m_X6_findingBetween (Z : ZT) (this : Nat) (a0 : Int32) (a1 : Int32) (μ : MT) : Option (Int32) :=
  (m_X6_isMissing Z this a0 μ).bind fun r1 => (if r1 = 0 then (m_X6_isMissing Z this a1 μ).bind fun r2 => (if r2 = 0 then (ald Z μ (zr Z this 0) a0).bind fun x4 => (ald Z μ (zr Z this 0) a1).bind fun x6 => (if x4 = x6 then some 0 else some 5) else some 1) else some 1)
def m_X6_lay (Z : ZT) (this : Nat) (a0 : Int32) (a1 : Int32) (a2 : Int32) (μ : MT) : Option (MT) :=
  (ast Z μ (zr Z this 0) a0 a1).bind fun ν2 => (ast Z ν2 (zr Z this 1) a0 a2).bind fun ν4 => (ard Z (zr Z this 2) a0).bind fun q6 => (m_J7_fill_53178 Z q6 0 ν4).bind fun ν8 => some ν8
def m_X6_put (Z : ZT) (this : Nat) (a0 : Int32) (a1 : Int32) (a2 : Int32) (μ : MT) : Option (Int32 × MT) :=
  (ard Z (zr Z this 2) a0).bind fun q2 => (ald Z μ (zr Z this 0) a0).bind fun x5 => (m_X6_narrowed Z x5 a2 μ).bind fun r6 => (ast Z μ q2 a1 r6).bind fun ν7 => (ard Z (zr Z this 2) a0).bind fun q9 => (ald Z ν7 q9 a1).bind fun x11 => some (x11, ν7)
def m_X7_toNext (Z : ZT) (this : Nat) (μ : MT) : Option (MT) :=
  (some (u2 μ this 2 (μ this 3))).bind fun ν1 => (loop (σ := MT) (τ := MT) (fun ν2 => ((if (ν2 this 1) ≤ (ν2 this 2) then some (Sum.inr ν2) else (ald Z ν2 (zr Z this 0) (ν2 this 2)).bind fun x34 => (((if x34 = 32 then some (Sum.inr ()) else (ald Z ν2 (zr Z this 0) (ν2 this 2)).bind fun x40 => (if x40 = 10 then some (Sum.inr ()) else some (Sum.inl (Sum.inr ν2)))) : Option (((MT) ⊕ (MT)) ⊕ (Unit)))).bind (jn (fun (_ : Unit) => (some (u2 ν2 this 2 ((ν2 this 2) + 1))).bind fun ν38 => some (Sum.inl ν38)))) : Option ((MT) ⊕ (MT)))) LN ν1).bind (fun ν3 => (((if (ν3 this 1) ≤ (ν3 this 2) then some 0 else (ald Z ν3 (zr Z this 0) (ν3 this 2)).bind fun x31 => (m_X7_sortOf Z x31 ν3).bind fun r32 => some r32) : Option (Int32))).bind (fun z8 => (some (u2 ν3 this 4 z8)).bind fun ν11 => (((if (ν11 this 1) ≤ (ν11 this 2) then some (ν11 this 2) else some ((ν11 this 2) + 1)) : Option (Int32))).bind (fun z12 => (some (u2 ν11 this 3 z12)).bind fun ν15 => (loop (σ := MT) (τ := MT) (fun ν16 => ((if (ν16 this 1) ≤ (ν16 this 3) then some (Sum.inr ν16) else (((if (ν16 this 4) = 1 then some (Sum.inr ()) else (if (ν16 this 4) = 2 then some (Sum.inr ()) else some (Sum.inl (Sum.inr ν16)))) : Option (((MT) ⊕ (MT)) ⊕ (Unit)))).bind (jn (fun (_ : Unit) => (ald Z ν16 (zr Z this 0) (ν16 this 3)).bind fun x27 => (m_X7_sortOf Z x27 ν16).bind fun r28 => (if r28 = (ν16 this 4) then (some (u2 ν16 this 3 ((ν16 this 3) + 1))).bind fun ν29 => some (Sum.inl ν29) else some (Sum.inr ν16))))) : Option ((MT) ⊕ (MT)))) LN ν15).bind (fun ν17 => (if (ν17 this 4) = 2 then (if ((ν17 this 3) - (ν17 this 2)) ≤ 2 then some ν17 else (some (u2 ν17 this 4 4)).bind fun ν22 => some ν22) else some ν17)))))
def m_X8_drop (Z : ZT) (this : Nat) (a0 : Int32) (μ : MT) : Option (Int32 × MT) :=
  (m_X6_hasNumber Z (zr Z this 0) a0 μ).bind fun r2 => (if r2 = 0 then some ((-1000001), μ) else (m_X6_isMissing Z (zr Z this 0) a0 μ).bind fun r4 => (if r4 = 0 then (m_X6_takeAway Z (zr Z this 0) a0 μ).bind fun (r6, ν7) => (m_X8_fine Z this r6 ν7).bind fun (r8, ν9) => some (r8, ν9) else (m_X8_found Z this 1 μ).bind fun (r10, ν11) => some (r10, ν11)))
def m_X8_feed (Z : ZT) (this : Nat) (a0 : Int64) (a1 : Int32) (μ : MT) : Option (Int32 × MT) :=
  (if a1 < 1 then some ((-1000001), μ) else (if a1 ≤ 8 then (m_X7_hasRoom Z (zr Z this 1) a1 μ).bind fun r2 => (if r2 = 0 then some ((-1000003), μ) else (m_X7_append Z (zr Z this 1) a0 a1 μ).bind fun (r4, ν5) => some (r4, ν5)) else some ((-1000001), μ)))
def m_X8_height (Z : ZT) (zn : Nat) (this : Nat) (a0 : Int32) (μ : MT) : Option (Int32) :=
  (mrd Z zn 3 (μ this 11)).bind fun q1 => (m_X3_isNone Z q1 μ).bind fun r3 => (if r3 = 0 then (if a0 < 0 then some (-1000001) else (mrd Z zn 3 (μ this 11)).bind fun q4 => (if a0 ≤ (μ q4 0) then (m_X2_heightAt Z (zr Z this 6) a0 μ).bind fun r7 => some r7 else some (-1000001))) else some (-1000002))
def m_X8_drawDown (Z : ZT) (zn : Nat) (this : Nat) (a0 : Int32) (a1 : Int32) (a2 : Int32) (μ : MT) : Option (Int32 × MT) :=
  (acp Z μ (zr Z (zr Z this 6) 3) 0 (zr Z this 5) 0 12).bind fun ν4 => (loop (σ := Int32 × MT) (τ := MT) (fun (y5, ν6) => ((mrd Z zn 3 (ν6 this 11)).bind fun q23 => (if (ν6 q23 0) ≤ y5 then some (Sum.inr ν6) else (((if ((a0 >>> (y5 &&& 31)) &&& 1) = 1 then (m_X8_spotAt Z zn this y5 a1 ν6).bind fun ν29 => some ν29 else some ν6) : Option (MT))).bind (fun ν25 => (some (y5 + 1)).bind fun x28 => some (Sum.inl (x28, ν25)))) : Option ((Int32 × MT) ⊕ (MT)))) LN (0, ν4)).bind (fun ν7 => (loop (σ := Int32) (τ := (Int32 × MT) ⊕ (Unit)) (fun y12 => ((mrd Z zn 3 (ν7 this 11)).bind fun q18 => (if (ν7 q18 0) ≤ y12 then some (Sum.inr (Sum.inr ())) else (ald Z ν7 (zr Z this 5) y12).bind fun x21 => (if (iabs x21) ≤ a2 then (some (y12 + 1)).bind fun x22 => some (Sum.inl x22) else some (Sum.inr (Sum.inl (0, ν7))))) : Option ((Int32) ⊕ ((Int32 × MT) ⊕ (Unit))))) LN 0).bind (jn (fun (_ : Unit) => some (1, ν7))))
def m_X8_trace (Z : ZT) (this : Nat) (a0 : Int32) (μ : MT) : Option (Int32) :=
  (m_X0_traced Z (zr Z this 10) a0 μ).bind fun r2 => some r2
def m_X8_count (Z : ZT) (zn : Nat) (this : Nat) (a0 : Int32) (μ : MT) : Option (Int32) :=
  (if a0 = 0 then (m_X6_howMany Z (zr Z this 0) μ).bind fun r3 => some r3 else if a0 = 1 then (mrd Z zn 3 (μ this 11)).bind fun q5 => some (μ q5 0) else if a0 = 2 then (mrd Z zn 3 (μ this 11)).bind fun q8 => some (μ q8 1) else if a0 = 3 then (mrd Z zn 3 (μ this 11)).bind fun q11 => some (μ q11 2) else if a0 = 4 then (mrd Z zn 3 (μ this 11)).bind fun q14 => some (μ q14 3) else if a0 = 5 then some (μ (zr Z this 1) 1) else some (-1000001))
def m_X9_isSheet (Z : ZT) (a0 : Int32) (μ : MT) : Option (Int32) :=
  (m_X9_in Z ((a0 : Int32).toInt64) 0 7 μ).bind fun r1 => (bz r1).bind fun x2 => some x2
def m_X9_feed (Z : ZT) (this : Nat) (a0 : Int64) (a1 : Int32) (μ : MT) : Option (Int32 × MT) :=
  (some (u2 μ this 0 0)).bind fun ν1 => (m_X9_in Z ((a1 : Int32).toInt64) 1 8 ν1).bind fun r2 => (if r2 = 0 then some ((-1000001), ν1) else (if ((ν1 this 20) + a1) ≤ 500 then (some (a1 - 1)).bind fun x3 => (loop (σ := Int32 × MT) (τ := MT) (fun (y4, ν5) => ((if y4 < 0 then some (Sum.inr ν5) else (ast Z ν5 (zr Z this 19) (ν5 this 20) (((a0 >>> ((8 * y4 : Int32).toInt64 &&& 63)) &&& 255 : Int64).toInt32)).bind fun ν12 => (some (u2 ν12 this 20 ((ν12 this 20) + 1))).bind fun ν13 => (some (y4 + (-1))).bind fun x14 => some (Sum.inl (x14, ν13))) : Option ((Int32 × MT) ⊕ (MT)))) LN (x3, ν1)).bind (fun ν6 => some (ν6 this 20, ν6)) else some ((-1000003), ν1)))
def m_X9_next (Z : ZT) (this : Nat) (μ : MT) : Option (MT) :=
  (loop (σ := MT) (τ := MT) (fun ν1 => ((m_X9_byteAt Z this (ν1 this 23) ν1).bind fun r44 => (((if r44 = 32 then some (Sum.inr ()) else (m_X9_byteAt Z this (ν1 this 23) ν1).bind fun r49 => (if r49 = 10 then some (Sum.inr ()) else some (Sum.inl (Sum.inr ν1)))) : Option (((MT) ⊕ (MT)) ⊕ (Unit)))).bind (jn (fun (_ : Unit) => (some (u2 ν1 this 23 ((ν1 this 23) + 1))).bind fun ν48 => some (Sum.inl ν48))) : Option ((MT) ⊕ (MT)))) LN μ).bind (fun ν2 => (some (u2 ν2 this 25 (ν2 this 23))).bind fun ν7 => (m_X9_byteAt Z this (ν7 this 23) ν7).bind fun r8 => (((if r8 = (-1000000) then (some (u2 ν7 this 24 1)).bind fun ν43 => some ν43 else (m_X9_isLetter Z r8 ν7).bind fun r13 => (if r13 = 0 then (m_X9_isFigure Z r8 ν7).bind fun r14 => (if r14 = 0 then (some (u2 ν7 this 23 ((ν7 this 23) + 1))).bind fun ν15 => (((if r8 = 59 then some 4 else some 0) : Option (Int32))).bind (fun z16 => (some (u2 ν15 this 24 z16)).bind fun ν19 => some ν19) else (loop (σ := MT) (τ := MT) (fun ν20 => ((m_X9_byteAt Z this (ν20 this 23) ν20).bind fun r30 => (m_X9_isFigure Z r30 ν20).bind fun r31 => (if r31 = 0 then some (Sum.inr ν20) else (some (u2 ν20 this 23 ((ν20 this 23) + 1))).bind fun ν32 => some (Sum.inl ν32)) : Option ((MT) ⊕ (MT)))) LN ν7).bind (fun ν21 => (((if ((ν21 this 23) - (ν21 this 25)) ≤ 2 then some 3 else some 0) : Option (Int32))).bind (fun z26 => (some (u2 ν21 this 24 z26)).bind fun ν29 => some ν29))) else (loop (σ := MT) (τ := MT) (fun ν33 => ((m_X9_byteAt Z this (ν33 this 23) ν33).bind fun r40 => (m_X9_isLetter Z r40 ν33).bind fun r41 => (if r41 = 0 then some (Sum.inr ν33) else (some (u2 ν33 this 23 ((ν33 this 23) + 1))).bind fun ν42 => some (Sum.inl ν42)) : Option ((MT) ⊕ (MT)))) LN ν7).bind (fun ν34 => (some (u2 ν34 this 24 2)).bind fun ν39 => some ν39))) : Option (MT))).bind (fun ν9 => (some (u2 ν9 this 26 (ν9 this 23))).bind fun ν12 => some ν12))
def m_X9_kindOfWord (Z : ZT) (this : Nat) (μ : MT) : Option (Int32) :=
  (m_X9_word Z this μ).bind fun r1 => (if (lg_cmp r1 1952539499) = 0 then some 1 else (if (lg_cmp r1 28526) = 0 then some 2 else (if (lg_cmp r1 1650549611) = 0 then some 3 else (if (lg_cmp r1 1936419184) = 0 then some 4 else (if (lg_cmp r1 126879297138276) = 0 then some 5 else (if (lg_cmp r1 128047779833188) = 0 then some 6 else (if (lg_cmp r1 439904988517) = 0 then some 7 else (if (lg_cmp r1 2002872692) = 0 then some 8 else (if (lg_cmp r1 427020086640) = 0 then some 9 else (if (lg_cmp r1 1718773093) = 0 then some 10 else some (-1000000)))))))))))
def m_X9_isAct (Z : ZT) (this : Nat) (a0 : Int32) (μ : MT) : Option (Int32) :=
  (m_X9_in Z ((a0 : Int32).toInt64) 0 (((μ this 7) - 1 : Int32).toInt64) μ).bind fun r1 => (bz r1).bind fun x2 => some x2
def m_X9_isCell (Z : ZT) (this : Nat) (a0 : Int32) (μ : MT) : Option (Int32) :=
  (m_X9_in Z ((a0 : Int32).toInt64) 0 (((μ this 5) - 1 : Int32).toInt64) μ).bind fun r1 => (bz r1).bind fun x2 => some x2
def m_X9_offBy (Z : ZT) (this : Nat) (μ : MT) : Option (Int32) :=
  (m_X9_heightBy Z this (zr Z this 32) (μ this 5) μ).bind fun r2 => (loop (σ := Int32 × Int32) (τ := Int32) (fun (y3, y4) => ((if (μ this 5) < y4 then some (Sum.inr y3) else (m_X9_heightBy Z this (zr Z this 32) y4 μ).bind fun r12 => (some (((μ this 5) * r12) - (y4 * r2))).bind fun x13 => (((if 0 ≤ x13 then some x13 else some (-x13)) : Option (Int32))).bind (fun z14 => (((if z14 ≤ y3 then some y3 else some z14) : Option (Int32))).bind (fun z17 => (some (y4 + 1)).bind fun x20 => some (Sum.inl (z17, x20))))) : Option ((Int32 × Int32) ⊕ (Int32)))) LN (0, 0)).bind (fun y5 => (idv y5 (μ this 5)).bind fun x10 => some x10)
def m_X9_layStanding (Z : ZT) (this : Nat) (μ : MT) : Option (MT) :=
  (loop (σ := Int32 × MT) (τ := MT) (fun (y1, ν2) => ((if 48 ≤ y1 then some (Sum.inr ν2) else (((if (ν2 this 31) = 0 then (m_X9_in Z ((y1 : Int32).toInt64) 24 35 ν2).bind fun r14 => (if r14 = 0 then some 0 else (ald Z ν2 (zr Z this 29) (y1 - 24)).bind fun x16 => some x16) else (ald Z ν2 (zr Z this 36) y1).bind fun x18 => some x18) : Option (Int32))).bind (fun z9 => (ast Z ν2 (zr Z this 32) y1 z9).bind fun ν12 => (some (y1 + 1)).bind fun x13 => some (Sum.inl (x13, ν12)))) : Option ((Int32 × MT) ⊕ (MT)))) LN (0, μ)).bind (fun ν3 => some ν3)
def m_X9_orders (Z : ZT) (this : Nat) (μ : MT) : Option (Int32 × MT) :=
  (some (u2 μ this 0 0)).bind fun ν1 => (if (ν1 this 5) = 0 then some ((-1000002), ν1) else (m_X9_layNumbers Z this ν1).bind fun ν2 => (loop (σ := Int32 × Int32 × MT) (τ := Int32 × MT) (fun (y3, y4, ν5) => ((if y4 = 0 then some (Sum.inr (y3, ν5)) else (m_X9_fits Z this ν5).bind fun r12 => (((if r12 = 0 then some 0 else some 1) : Option (Int32))).bind (fun z13 => (some (y3 + z13)).bind fun x16 => (m_X9_nextOrder Z this ν5).bind fun (r17, ν18) => some (Sum.inl (x16, r17, ν18)))) : Option ((Int32 × Int32 × MT) ⊕ (Int32 × MT)))) LN (0, 1, ν2)).bind (fun (y6, ν7) => some (y6, ν7)))
def m_X9_isOf (Z : ZT) (a0 : Int32) (a1 : Int32) (μ : MT) : Option (Int32) :=
  (((if a1 = 0 then some (Sum.inr ()) else (if a0 = a1 then some (Sum.inr ()) else (((if a1 = 2 then (m_X9_in Z ((a0 : Int32).toInt64) 3 6 μ).bind fun r7 => (if r7 = 0 then some (Sum.inr ()) else some (Sum.inl (Sum.inr ()))) else some (Sum.inr ())) : Option (((Int32) ⊕ (Unit)) ⊕ (Unit)))).bind (jn (fun (_ : Unit) => (if a1 = 3 then (if a0 = 4 then some (Sum.inr ()) else some (Sum.inl 0)) else some (Sum.inl 0)))))) : Option ((Int32) ⊕ (Unit)))).bind (jn (fun (_ : Unit) => some 1))
def m_X9_flameSize (Z : ZT) (this : Nat) (a0 : Int32) (μ : MT) : Option (Int32 × MT) :=
  (m_X9_began Z this 14 μ).bind fun ν1 => (m_X9_began Z this 10 ν1).bind fun ν2 => (ald Z ν2 (zr Z this 9) ((4 * a0) + 2)).bind fun x4 => some (-x4, ν2)
def m_X9_trace (Z : ZT) (this : Nat) (a0 : Int32) (μ : MT) : Option (Int32 × MT) :=
  (some (u2 μ this 0 0)).bind fun ν1 => (m_X9_in Z ((a0 : Int32).toInt64) 0 (((ν1 this 42) - 1 : Int32).toInt64) ν1).bind fun r2 => (if r2 = 0 then some ((-1000000), ν1) else (ald Z ν1 (zr Z this 41) a0).bind fun x4 => some (x4, ν1))
def m_J0_length_8abf5 (Z : ZT) (this : Nat) (μ : MT) : Option (Int32) :=
  (m_J0_coder_7d493 Z this μ).bind fun r1 => some ((Int32.ofNat (slen (this + 100))) >>> (r1 &&& 31))
def m_J0_charAt_5068e (Z : ZT) (this : Nat) (a0 : Int32) (μ : MT) : Option (Int32) :=
  (m_J0_isLatin1_aae02 Z this μ).bind fun r1 => (if r1 = 0 then none else (m_J1_charAt_3b067 Z (this + 100) a0 μ).bind fun r2 => (cz r2).bind fun x3 => some x3)
def m_X2_doStep (Z : ZT) (this : Nat) (a0 : Int32) (a1 : Int32) (a2 : Int32) (μ : MT) : Option (MT) :=
  (m_X2_has Z this a1 μ).bind fun r1 => (if r1 = 0 then some μ else (m_X2_cool Z this a1 μ).bind fun ν2 => (m_X2_shrinkageOf Z this a0 a1 a2 ν2).bind fun r3 => (m_X2_effectOf Z this r3 a1 ν2).bind fun r4 => (m_X2_isClamped Z this a1 ν2).bind fun r5 => (((if r5 = 0 then (ald Z ν2 (zr Z this 3) a1).bind fun x23 => (ast Z ν2 (zr Z this 3) a1 (x23 + r4)).bind fun ν24 => some ν24 else (ald Z ν2 (zr Z this 4) a1).bind fun x26 => (ast Z ν2 (zr Z this 4) a1 (x26 + r4)).bind fun ν27 => some ν27) : Option (MT))).bind (fun ν6 => (ald Z ν6 (zr Z this 5) a1).bind fun x10 => (ast Z ν6 (zr Z this 5) a1 (x10 + r4)).bind fun ν11 => (some (u2 ν11 this 9 ((ν11 this 9) + r4))).bind fun ν12 => (ald Z ν12 (zr Z this 0) a1).bind fun x14 => (m_X2_heatOfStep Z a0 a2 ν12).bind fun r15 => (ast Z ν12 (zr Z this 0) a1 (x14 + r15)).bind fun ν16 => (ald Z ν16 (zr Z this 2) a1).bind fun x18 => (m_X2_holdOfStep Z a0 ν16).bind fun r19 => (ast Z ν16 (zr Z this 2) a1 (x18 + r19)).bind fun ν20 => (some (u2 ν20 this 8 ((ν20 this 8) + 1))).bind fun ν21 => some ν21))
def m_X2_freeAll (Z : ZT) (this : Nat) (μ : MT) : Option (MT) :=
  (loop (σ := Int32 × MT) (τ := MT) (fun (y1, ν2) => ((if (ν2 this 7) ≤ y1 then some (Sum.inr ν2) else (m_X2_freeOne Z this y1 ν2).bind fun ν8 => (some (y1 + 1)).bind fun x9 => some (Sum.inl (x9, ν8))) : Option ((Int32 × MT) ⊕ (MT)))) LN (0, μ)).bind (fun ν3 => some ν3)
def m_X2_firstAbove (Z : ZT) (this : Nat) (a0 : Int32) (μ : MT) : Option (Int32) :=
  (loop (σ := Int32) (τ := (Int32) ⊕ (Unit)) (fun y1 => ((if (μ this 7) ≤ y1 then some (Sum.inr (Sum.inr ())) else (m_X2_pullOf Z this y1 μ).bind fun r7 => (if r7 ≤ a0 then (some (y1 + 1)).bind fun x8 => some (Sum.inl x8) else some (Sum.inr (Sum.inl y1)))) : Option ((Int32) ⊕ ((Int32) ⊕ (Unit))))) LN 0).bind (jn (fun (_ : Unit) => some (-1000000)))
def m_X4_takeNumber (Z : ZT) (this : Nat) (a0 : Int32) (a1 : Int32) (μ : MT) : Option (Int32 × MT) :=
  (m_X7_atNumber Z (zr Z this 0) μ).bind fun r2 => (if r2 = 0 then some (1, μ) else (m_X7_numberHere Z (zr Z this 0) μ).bind fun r4 => (some (u2 μ this 1 r4)).bind fun ν5 => (if (ν5 this 1) < a0 then some (2, ν5) else (if (ν5 this 1) ≤ a1 then (m_X7_toNext Z (zr Z this 0) ν5).bind fun ν7 => some (0, ν7) else some (2, ν5))))
def m_X4_takeSign (Z : ZT) (this : Nat) (μ : MT) : Option (Int32 × MT) :=
  (m_X7_atSign Z (zr Z this 0) μ).bind fun r2 => (if r2 = 0 then some (1, μ) else (m_X7_toNext Z (zr Z this 0) μ).bind fun ν4 => some (0, ν4))
def m_X5_howManyFit (Z : ZT) (this : Nat) (a0 : Nat) (μ : MT) : Option (Int32 × MT) :=
  (some ((1 <<< ((μ a0 1) &&& 31)) - 1)).bind fun x1 => (m_J7_fill_53178 Z (zr Z this 3) 0 μ).bind fun ν3 => (ast Z ν3 (zr Z this 3) 0 1).bind fun ν5 => (loop (σ := Int32 × MT) (τ := MT) (fun (y6, ν7) => ((if x1 ≤ y6 then some (Sum.inr ν7) else (loop (σ := Int32 × MT) (τ := MT) (fun (y15, ν16) => ((if (ν16 a0 1) ≤ y15 then some (Sum.inr ν16) else (m_X3_mayFollow Z a0 y15 y6 ν16).bind fun r23 => (((if r23 = 0 then some ν16 else (ald Z ν16 (zr Z this 3) (y6 ||| (1 <<< (y15 &&& 31)))).bind fun x29 => (ald Z ν16 (zr Z this 3) y6).bind fun x31 => (ast Z ν16 (zr Z this 3) (y6 ||| (1 <<< (y15 &&& 31))) (x29 + x31)).bind fun ν32 => some ν32) : Option (MT))).bind (fun ν24 => (some (y15 + 1)).bind fun x27 => some (Sum.inl (x27, ν24)))) : Option ((Int32 × MT) ⊕ (MT)))) LN (0, ν7)).bind (fun ν17 => (some (y6 + 1)).bind fun x22 => some (Sum.inl (x22, ν17)))) : Option ((Int32 × MT) ⊕ (MT)))) LN (0, ν5)).bind (fun ν8 => (ald Z ν8 (zr Z this 3) x1).bind fun x14 => some (x14, ν8))
def m_X6_itemAt (Z : ZT) (this : Nat) (a0 : Int32) (a1 : Int32) (μ : MT) : Option (Int32) :=
  (m_X6_findingAt Z this a0 a1 1 μ).bind fun r1 => (if r1 = 0 then (ard Z (zr Z this 2) a0).bind fun q3 => (ald Z μ q3 a1).bind fun x5 => some x5 else some 0)
def m_X7_toFirst (Z : ZT) (this : Nat) (μ : MT) : Option (MT) :=
  (some (u2 μ this 3 0)).bind fun ν1 => (m_X7_toNext Z this ν1).bind fun ν2 => some ν2
def m_X7_spells (Z : ZT) (this : Nat) (a0 : Nat) (μ : MT) : Option (Int32) :=
  (m_J0_length_8abf5 Z a0 μ).bind fun r1 => (if r1 = ((μ this 3) - (μ this 2)) then (loop (σ := Int32) (τ := (Int32) ⊕ (Unit)) (fun y2 => ((m_J0_length_8abf5 Z a0 μ).bind fun r8 => (if r8 ≤ y2 then some (Sum.inr (Sum.inr ())) else (m_J0_charAt_5068e Z a0 y2 μ).bind fun r9 => (ald Z μ (zr Z this 0) ((μ this 2) + y2)).bind fun x11 => (if r9 = x11 then (some (y2 + 1)).bind fun x12 => some (Sum.inl x12) else some (Sum.inr (Sum.inl 0)))) : Option ((Int32) ⊕ ((Int32) ⊕ (Unit))))) LN 0).bind (jn (fun (_ : Unit) => some 1)) else some 0)
def m_X8_sheet (Z : ZT) (this : Nat) (a0 : Int32) (a1 : Int32) (a2 : Int32) (μ : MT) : Option (Int32 × MT) :=
  (m_X6_hasNumber Z (zr Z this 0) a0 μ).bind fun r2 => (if r2 = 0 then some ((-1000001), μ) else (if a1 < 0 then some ((-1000001), μ) else (if 3 ≤ a1 then some ((-1000001), μ) else (if a2 ≤ 40 then (if 0 ≤ a2 then (m_X6_lay Z (zr Z this 0) a0 a1 a2 μ).bind fun ν4 => (m_X8_fine Z this a2 ν4).bind fun (r5, ν6) => some (r5, ν6) else (m_X8_found Z this 4 μ).bind fun (r7, ν8) => some (r7, ν8)) else some ((-1000001), μ)))))
def m_X8_set (Z : ZT) (this : Nat) (a0 : Int32) (a1 : Int32) (a2 : Int32) (μ : MT) : Option (Int32 × MT) :=
  (m_X6_hasNumber Z (zr Z this 0) a0 μ).bind fun r2 => (if r2 = 0 then some ((-1000001), μ) else (m_X6_findingAt Z (zr Z this 0) a0 a1 1 μ).bind fun r4 => (if r4 = 0 then (m_X6_put Z (zr Z this 0) a0 a1 a2 μ).bind fun (r6, ν7) => (m_X8_fine Z this r6 ν7).bind fun (r8, ν9) => some (r8, ν9) else (m_X8_found Z this r4 μ).bind fun (r10, ν11) => some (r10, ν11)))
def m_X8_copy (Z : ZT) (this : Nat) (a0 : Int32) (a1 : Int32) (a2 : Int32) (a3 : Int32) (a4 : Int32) (μ : MT) : Option (Int32 × MT) :=
  (m_X6_hasNumber Z (zr Z this 0) a0 μ).bind fun r2 => (if r2 = 0 then some ((-1000001), μ) else (m_X6_hasNumber Z (zr Z this 0) a2 μ).bind fun r4 => (if r4 = 0 then some ((-1000001), μ) else (m_X6_findingBetween Z (zr Z this 0) a0 a2 μ).bind fun r6 => (((if r6 = 0 then (m_X6_findingAt Z (zr Z this 0) a0 a1 a4 μ).bind fun r22 => some r22 else some r6) : Option (Int32))).bind (fun y7 => (((if y7 = 0 then (m_X6_findingAt Z (zr Z this 0) a2 a3 a4 μ).bind fun r20 => some r20 else some y7) : Option (Int32))).bind (fun y10 => (if y10 = 0 then (m_X6_carry Z (zr Z this 0) a0 a1 a2 a3 a4 μ).bind fun ν14 => (m_X8_fine Z this a4 ν14).bind fun (r15, ν16) => some (r15, ν16) else (m_X8_found Z this y10 μ).bind fun (r17, ν18) => some (r17, ν18))))))
def m_X8_beginPlan (Z : ZT) (zn : Nat) (this : Nat) (μ : MT) : Option (MT) :=
  (some (u2 μ this 13 0)).bind fun ν1 => (m_J7_fill_53178 Z (zr Z this 3) 0 ν1).bind fun ν3 => (acp Z ν3 1000 0 (zr Z this 4) 0 6).bind fun ν5 => (mrd Z zn 3 (ν5 this 11)).bind fun q7 => (m_X2_begin Z (zr Z this 6) (ν5 q7 0) (zr Z this 3) ν5).bind fun ν10 => (m_X5_forget Z (zr Z this 8) ν10).bind fun ν12 => (m_X1_forget Z (zr Z this 9) ν12).bind fun ν14 => some ν14
def m_X8_act (Z : ZT) (zn : Nat) (this : Nat) (a0 : Int32) (a1 : Int32) (μ : MT) : Option (Int32) :=
  (mrd Z zn 3 (μ this 11)).bind fun q1 => (m_X3_hasAct Z q1 a0 μ).bind fun r3 => (if r3 = 0 then some (-1000001) else (if a1 = 0 then (mrd Z zn 3 (μ this 11)).bind fun q5 => (ald Z μ (zr Z q5 4) a0).bind fun x8 => some x8 else if a1 = 1 then (mrd Z zn 3 (μ this 11)).bind fun q10 => (ald Z μ (zr Z q10 5) a0).bind fun x13 => some x13 else if a1 = 2 then (mrd Z zn 3 (μ this 11)).bind fun q15 => (m_X3_isStep Z q15 a0 μ).bind fun r17 => (if r17 = 0 then some (-1000000) else (mrd Z zn 3 (μ this 11)).bind fun q18 => (ald Z μ (zr Z q18 6) a0).bind fun x21 => some x21) else if a1 = 3 then (mrd Z zn 3 (μ this 11)).bind fun q23 => (ald Z μ (zr Z q23 7) a0).bind fun x26 => some x26 else some (-1000001)))
def m_X8_open (Z : ZT) (zn : Nat) (this : Nat) (a0 : Int32) (a1 : Int32) (μ : MT) : Option (Int32 × MT) :=
  (mrd Z zn 3 (μ this 11)).bind fun q1 => (m_X3_hasCell Z q1 a0 μ).bind fun r3 => (if r3 = 0 then some ((-1000001), μ) else (if a1 < (-40) then some ((-1000001), μ) else (if a1 ≤ 40 then (ald Z μ (zr Z this 3) a0).bind fun x5 => (ast Z μ (zr Z this 3) a0 a1).bind fun ν7 => (m_X5_forget Z (zr Z this 8) ν7).bind fun ν9 => (if (ν9 this 13) = 0 then (mrd Z zn 3 (ν9 this 11)).bind fun q11 => (m_X2_begin Z (zr Z this 6) (ν9 q11 0) (zr Z this 3) ν9).bind fun ν14 => some (x5, ν14) else some (x5, ν9)) else some ((-1000001), μ))))
def m_X8_cell (Z : ZT) (zn : Nat) (this : Nat) (a0 : Int32) (a1 : Int32) (μ : MT) : Option (Int32 × MT) :=
  (mrd Z zn 3 (μ this 11)).bind fun q1 => (m_X3_hasCell Z q1 a0 μ).bind fun r3 => (if r3 = 0 then some ((-1000001), μ) else (if a1 = 0 then (m_X2_heatOf Z (zr Z this 6) a0 μ).bind fun (r6, ν7) => some (r6, ν7) else if a1 = 1 then (ald Z μ (zr Z (zr Z this 6) 2) a0).bind fun x11 => some (x11, μ) else if a1 = 2 then (ald Z μ (zr Z (zr Z this 6) 3) a0).bind fun x15 => some (x15, μ) else if a1 = 3 then (m_X2_pullOf Z (zr Z this 6) a0 μ).bind fun r18 => some (r18, μ) else some ((-1000001), μ)))
def m_X8_spots (Z : ZT) (zn : Nat) (this : Nat) (a0 : Int32) (a1 : Int32) (μ : MT) : Option (Int32 × MT) :=
  (if a0 < 1 then some ((-1000001), μ) else (if 20 < a0 then some ((-1000001), μ) else (if a1 < 0 then some ((-1000001), μ) else (if a1 ≤ 40 then (mrd Z zn 3 (μ this 11)).bind fun q1 => (m_X3_isNone Z q1 μ).bind fun r3 => (if r3 = 0 then (loop (σ := Int32 × Int32 × Int32 × MT) (τ := Int32 × MT) (fun (y4, y5, y6, ν7) => ((mrd Z zn 3 (ν7 this 11)).bind fun q14 => (if (1 <<< ((ν7 q14 0) &&& 31)) ≤ y6 then some (Sum.inr (y4, ν7)) else (m_J6_bitCount_0f7a4 Z y6 ν7).bind fun r16 => (((if y5 ≤ r16 then some (y4, y5, ν7) else (m_X8_drawDown Z zn this y6 a0 a1 ν7).bind fun (r23, ν24) => (if r23 = 0 then some (y4, y5, ν24) else some (y6, r16, ν24))) : Option (Int32 × Int32 × MT))).bind (fun (y17, y18, ν19) => (some (y6 + 1)).bind fun x22 => some (Sum.inl (y17, y18, x22, ν19)))) : Option ((Int32 × Int32 × Int32 × MT) ⊕ (Int32 × MT)))) LN ((-1000000), 4, 0, μ)).bind (fun (y8, ν9) => some (y8, ν9)) else some ((-1000002), μ)) else some ((-1000001), μ)))))
def m_X8_kind (Z : ZT) (zn : Nat) (this : Nat) (a0 : Int32) (μ : MT) : Option (Int32) :=
  (mrd Z zn 3 (μ this 11)).bind fun q1 => (m_X3_isStep Z q1 a0 μ).bind fun r3 => (if r3 = 0 then some (-1000001) else (mrd Z zn 3 (μ this 11)).bind fun q4 => (m_X3_stepKind Z q4 a0 μ).bind fun r6 => some r6)
def m_X8_as (Z : ZT) (zn : Nat) (this : Nat) (a0 : Int32) (a1 : Int32) (μ : MT) : Option (Int32 × MT) :=
  (mrd Z zn 3 (μ this 11)).bind fun q1 => (m_X3_isStep Z q1 a0 μ).bind fun r3 => (if r3 = 0 then some ((-1000001), μ) else (m_X0_hasKind Z a1 μ).bind fun r4 => (if r4 = 0 then some ((-1000001), μ) else (mrd Z zn 3 (μ this 11)).bind fun q5 => (m_X3_stepKind Z q5 a0 μ).bind fun r7 => (m_X0_isOfKind Z r7 a1 μ).bind fun r8 => (if r8 = 0 then (m_X8_found Z this 3 μ).bind fun (r15, ν16) => some (r15, ν16) else (mrd Z zn 3 (μ this 11)).bind fun q9 => (ald Z μ (zr Z q9 5) a0).bind fun x12 => (m_X8_fine Z this x12 μ).bind fun (r13, ν14) => some (r13, ν14))))
def m_X9_sheet (Z : ZT) (this : Nat) (a0 : Int32) (a1 : Int32) (a2 : Int32) (μ : MT) : Option (Int32 × MT) :=
  (some (u2 μ this 0 0)).bind fun ν1 => (m_X9_isSheet Z a0 ν1).bind fun r2 => (if r2 = 0 then some ((-1000001), ν1) else (m_X9_in Z ((a1 : Int32).toInt64) 0 2 ν1).bind fun r3 => (if r3 = 0 then some ((-1000001), ν1) else (if a2 ≤ 40 then (some (u2 ν1 this 1 0)).bind fun ν4 => (if 0 ≤ a2 then (ast Z ν4 (zr Z this 2) a0 a1).bind fun ν6 => (ast Z ν6 (zr Z this 3) a0 a2).bind fun ν8 => (loop (σ := Int32 × MT) (τ := MT) (fun (y9, ν10) => ((if 40 ≤ y9 then some (Sum.inr ν10) else (ast Z ν10 (zr Z this 4) ((40 * a0) + y9) 0).bind fun ν17 => (some (y9 + 1)).bind fun x18 => some (Sum.inl (x18, ν17))) : Option ((Int32 × MT) ⊕ (MT)))) LN (0, ν8)).bind (fun ν11 => some (a2, ν11)) else (m_X9_finding Z this 4 ν4).bind fun (r19, ν20) => some (r19, ν20)) else some ((-1000001), ν1))))
def m_X9_set (Z : ZT) (this : Nat) (a0 : Int32) (a1 : Int32) (a2 : Int32) (μ : MT) : Option (Int32 × MT) :=
  (some (u2 μ this 0 0)).bind fun ν1 => (m_X9_isSheet Z a0 ν1).bind fun r2 => (if r2 = 0 then some ((-1000001), ν1) else (some (u2 ν1 this 1 0)).bind fun ν3 => (ald Z ν3 (zr Z this 2) a0).bind fun x5 => (if 0 ≤ x5 then (ald Z ν3 (zr Z this 3) a0).bind fun x7 => (m_X9_in Z ((a1 : Int32).toInt64) 0 ((x7 - 1 : Int32).toInt64) ν3).bind fun r8 => (if r8 = 0 then (m_X9_finding Z this 2 ν3).bind fun (r20, ν21) => some (r20, ν21) else (ald Z ν3 (zr Z this 2) a0).bind fun x11 => (((if x11 = 0 then some ((a2 : Int32).toInt8.toInt32) else (ald Z ν3 (zr Z this 2) a0).bind fun x19 => (if x19 = 1 then some ((a2 : Int32).toInt16.toInt32) else some a2)) : Option (Int32))).bind (fun z12 => (ast Z ν3 (zr Z this 4) ((40 * a0) + a1) z12).bind fun ν15 => (ald Z ν15 (zr Z this 4) ((40 * a0) + a1)).bind fun x17 => some (x17, ν15))) else (m_X9_finding Z this 1 ν3).bind fun (r22, ν23) => some (r22, ν23)))
def m_X9_copy (Z : ZT) (this : Nat) (a0 : Int32) (a1 : Int32) (a2 : Int32) (a3 : Int32) (a4 : Int32) (μ : MT) : Option (Int32 × MT) :=
  (some (u2 μ this 0 0)).bind fun ν1 => (m_X9_isSheet Z a0 ν1).bind fun r2 => (if r2 = 0 then some ((-1000001), ν1) else (m_X9_isSheet Z a2 ν1).bind fun r3 => (if r3 = 0 then some ((-1000001), ν1) else (some (u2 ν1 this 1 0)).bind fun ν4 => (ald Z ν4 (zr Z this 2) a0).bind fun x6 => (((if x6 < 0 then some (Sum.inr ν4) else (ald Z ν4 (zr Z this 2) a2).bind fun x14 => (if 0 ≤ x14 then (ald Z ν4 (zr Z this 2) a0).bind fun x16 => (ald Z ν4 (zr Z this 2) a2).bind fun x18 => (if x16 = x18 then (((if a1 < 0 then some (Sum.inr ν4) else (if a3 < 0 then some (Sum.inr ν4) else (if a4 < 0 then some (Sum.inr ν4) else (ald Z ν4 (zr Z this 3) a0).bind fun x26 => (if 0 < (lg_cmp (((a1 : Int32).toInt64) + ((a4 : Int32).toInt64)) ((x26 : Int32).toInt64)) then some (Sum.inr ν4) else (ald Z ν4 (zr Z this 3) a2).bind fun x28 => (if (lg_cmp (((a3 : Int32).toInt64) + ((a4 : Int32).toInt64)) ((x28 : Int32).toInt64)) ≤ 0 then (((if a1 < a3 then some 0 else some 1) : Option (Int32))).bind (fun z29 => (loop (σ := Int32 × MT) (τ := MT) (fun (y32, ν33) => ((if a4 ≤ y32 then some (Sum.inr ν33) else (((if z29 = 0 then some ((a4 - 1) - y32) else some y32) : Option (Int32))).bind (fun z39 => (ald Z ν33 (zr Z this 4) (((40 * a0) + a1) + z39)).bind fun x44 => (ast Z ν33 (zr Z this 4) (((40 * a2) + a3) + z39) x44).bind fun ν45 => (some (y32 + 1)).bind fun x46 => some (Sum.inl (x46, ν45)))) : Option ((Int32 × MT) ⊕ (MT)))) LN (0, ν4)).bind (fun ν34 => some (Sum.inl (Sum.inl (a4, ν34))))) else some (Sum.inr ν4)))))) : Option (((Int32 × MT) ⊕ (MT)) ⊕ (MT)))).bind (jn (fun ν19 => (m_X9_finding Z this 2 ν19).bind fun (r23, ν24) => some (Sum.inl (r23, ν24)))) else (m_X9_finding Z this 5 ν4).bind fun (r47, ν48) => some (Sum.inl (r47, ν48))) else some (Sum.inr ν4))) : Option ((Int32 × MT) ⊕ (MT)))).bind (jn (fun ν7 => (m_X9_finding Z this 1 ν7).bind fun (r11, ν12) => some (r11, ν12)))))
def m_X9_drop (Z : ZT) (this : Nat) (a0 : Int32) (μ : MT) : Option (Int32 × MT) :=
  (some (u2 μ this 0 0)).bind fun ν1 => (m_X9_isSheet Z a0 ν1).bind fun r2 => (if r2 = 0 then some ((-1000001), ν1) else (some (u2 ν1 this 1 0)).bind fun ν3 => (ald Z ν3 (zr Z this 2) a0).bind fun x5 => (if 0 ≤ x5 then (ast Z ν3 (zr Z this 2) a0 (-1)).bind fun ν7 => (ald Z ν7 (zr Z this 3) a0).bind fun x9 => some (x9, ν7) else (m_X9_finding Z this 1 ν3).bind fun (r10, ν11) => some (r10, ν11)))
def m_X9_must (Z : ZT) (this : Nat) (a0 : Int32) (μ : MT) : Option (MT) :=
  (((if a0 = 0 then (m_X9_bad Z this 1 μ).bind fun ν5 => some ν5 else some μ) : Option (MT))).bind (fun ν1 => (if (ν1 this 27) = 0 then (m_X9_next Z this ν1).bind fun ν4 => some ν4 else some ν1))
def m_X9_act (Z : ZT) (this : Nat) (a0 : Int32) (a1 : Int32) (μ : MT) : Option (Int32 × MT) :=
  (some (u2 μ this 0 0)).bind fun ν1 => (m_X9_isAct Z this a0 ν1).bind fun r2 => (((if r2 = 0 then some (Sum.inr ()) else (m_X9_in Z ((a1 : Int32).toInt64) 0 3 ν1).bind fun r6 => (if r6 = 0 then some (Sum.inr ()) else (ald Z ν1 (zr Z this 9) ((4 * a0) + a1)).bind fun x8 => (if a1 = 0 then some (Sum.inl (x8 - 1, ν1)) else some (Sum.inl (x8 - 0, ν1))))) : Option ((Int32 × MT) ⊕ (Unit)))).bind (jn (fun (_ : Unit) => some ((-1000001), ν1)))
def m_X9_open (Z : ZT) (this : Nat) (a0 : Int32) (a1 : Int32) (μ : MT) : Option (Int32 × MT) :=
  (some (u2 μ this 0 0)).bind fun ν1 => (m_X9_isCell Z this a0 ν1).bind fun r2 => (if r2 = 0 then some ((-1000001), ν1) else (m_X9_in Z ((a1 : Int32).toInt64) (-40) 40 ν1).bind fun r3 => (if r3 = 0 then some ((-1000001), ν1) else (ald Z ν1 (zr Z this 29) a0).bind fun x5 => (ast Z ν1 (zr Z this 29) a0 a1).bind fun ν7 => some (x5, ν7)))
def m_X9_holds (Z : ZT) (this : Nat) (a0 : Int32) (μ : MT) : Option (Int32) :=
  (m_X9_isCell Z this a0 μ).bind fun r1 => (if r1 = 0 then some 0 else (ald Z μ (zr Z this 32) (12 + a0)).bind fun x3 => (if x3 ≤ 0 then some 0 else some 1))
def m_X9_cell (Z : ZT) (this : Nat) (a0 : Int32) (a1 : Int32) (μ : MT) : Option (Int32 × MT) :=
  (some (u2 μ this 0 0)).bind fun ν1 => (m_X9_isCell Z this a0 ν1).bind fun r2 => (if r2 = 0 then some ((-1000001), ν1) else (m_X9_in Z ((a1 : Int32).toInt64) 0 3 ν1).bind fun r3 => (if r3 = 0 then some ((-1000001), ν1) else (m_X9_layStanding Z this ν1).bind fun ν4 => (ald Z ν4 (zr Z this 32) ((12 * a1) + a0)).bind fun x6 => some (x6, ν4)))
def m_X9_height (Z : ZT) (this : Nat) (a0 : Int32) (μ : MT) : Option (Int32 × MT) :=
  (some (u2 μ this 0 0)).bind fun ν1 => (if (ν1 this 5) = 0 then some ((-1000002), ν1) else (m_X9_in Z ((a0 : Int32).toInt64) 0 ((ν1 this 5 : Int32).toInt64) ν1).bind fun r2 => (if r2 = 0 then some ((-1000001), ν1) else (m_X9_layStanding Z this ν1).bind fun ν3 => (m_X9_heightBy Z this (zr Z this 32) a0 ν3).bind fun r5 => some (r5, ν3)))
def m_X9_spots (Z : ZT) (this : Nat) (a0 : Int32) (a1 : Int32) (μ : MT) : Option (Int32 × MT) :=
  (some (u2 μ this 0 0)).bind fun ν1 => (m_X9_in Z ((a0 : Int32).toInt64) 1 20 ν1).bind fun r2 => (if r2 = 0 then some ((-1000001), ν1) else (m_X9_in Z ((a1 : Int32).toInt64) 0 40 ν1).bind fun r3 => (if r3 = 0 then some ((-1000001), ν1) else (if (ν1 this 5) = 0 then some ((-1000002), ν1) else (loop (σ := Int32 × MT) (τ := (Int32 × MT) ⊕ (MT)) (fun (y4, ν5) => ((if 4 ≤ y4 then some (Sum.inr (Sum.inr ν5)) else (loop (σ := Int32 × MT) (τ := ((Int32 × MT) ⊕ ((Int32 × MT) ⊕ (MT))) ⊕ (MT)) (fun (y12, ν13) => ((if (1 <<< ((ν13 this 5) &&& 31)) ≤ y12 then some (Sum.inr (Sum.inr ν13)) else (loop (σ := Int32 × Int32) (τ := Int32) (fun (y21, y22) => ((if (ν13 this 5) ≤ y22 then some (Sum.inr y21) else (some (y21 + ((y12 >>> (y22 &&& 31)) &&& 1))).bind fun x63 => (some (y22 + 1)).bind fun x64 => some (Sum.inl (x63, x64))) : Option ((Int32 × Int32) ⊕ (Int32)))) LN (0, 0)).bind (fun y23 => (((if y23 = y4 then (m_X9_layStanding Z this ν13).bind fun ν33 => (loop (σ := Int32 × MT) (τ := MT) (fun (y34, ν35) => ((if (ν35 this 5) ≤ y34 then some (Sum.inr ν35) else (((if ((y12 >>> (y34 &&& 31)) &&& 1) = 1 then (m_X9_flame Z this y34 a0 ν35).bind fun ν62 => some ν62 else some ν35) : Option (MT))).bind (fun ν58 => (some (y34 + 1)).bind fun x61 => some (Sum.inl (x61, ν58)))) : Option ((Int32 × MT) ⊕ (MT)))) LN (0, ν33)).bind (fun ν36 => (loop (σ := Int32 × Int32) (τ := Int32) (fun (y41, y42) => ((if (ν36 this 5) ≤ y42 then some (Sum.inr y41) else (((((if y41 = 0 then some (Sum.inr ()) else (ald Z ν36 (zr Z this 32) (24 + y42)).bind fun x56 => (m_X9_in Z ((x56 : Int32).toInt64) ((-a1 : Int32).toInt64) ((a1 : Int32).toInt64) ν36).bind fun r57 => (if r57 = 0 then some (Sum.inr ()) else some (Sum.inl 1))) : Option ((Int32) ⊕ (Unit)))).bind (jn (fun (_ : Unit) => some 0)) : Option (Int32))).bind (fun z48 => (some (y42 + 1)).bind fun x51 => some (Sum.inl (z48, x51)))) : Option ((Int32 × Int32) ⊕ (Int32)))) LN (1, 0)).bind (fun y43 => (if y43 = 0 then some (Sum.inr ν36) else some (Sum.inl (Sum.inr (Sum.inl (Sum.inr (Sum.inl (y12, ν36))))))))) else some (Sum.inr ν13)) : Option (((Int32 × MT) ⊕ (((Int32 × MT) ⊕ ((Int32 × MT) ⊕ (MT))) ⊕ (MT))) ⊕ (MT)))).bind (jn (fun ν28 => (some (y12 + 1)).bind fun x32 => some (Sum.inl (x32, ν28)))))) : Option ((Int32 × MT) ⊕ (((Int32 × MT) ⊕ ((Int32 × MT) ⊕ (MT))) ⊕ (MT))))) LN (0, ν5)).bind (jn (fun ν14 => (some (y4 + 1)).bind fun x20 => some (Sum.inl (x20, ν14))))) : Option ((Int32 × MT) ⊕ ((Int32 × MT) ⊕ (MT))))) LN (0, ν1)).bind (jn (fun ν6 => some ((-1000000), ν6))))))
def m_X9_crackAt (Z : ZT) (this : Nat) (a0 : Int32) (μ : MT) : Option (Int32 × MT) :=
  (m_X9_layStanding Z this μ).bind fun ν1 => (loop (σ := Int32) (τ := (Int32 × MT) ⊕ (Unit)) (fun y2 => ((if (ν1 this 5) ≤ y2 then some (Sum.inr (Sum.inr ())) else (ald Z ν1 (zr Z this 32) (36 + y2)).bind fun x9 => (if x9 ≤ (300 - (4 * a0)) then (some (y2 + 1)).bind fun x10 => some (Sum.inl x10) else some (Sum.inr (Sum.inl (y2, ν1))))) : Option ((Int32) ⊕ ((Int32 × MT) ⊕ (Unit))))) LN 0).bind (jn (fun (_ : Unit) => some ((-1000000), ν1)))
def m_X9_wire (Z : ZT) (this : Nat) (a0 : Int32) (a1 : Int32) (a2 : Int32) (μ : MT) : Option (Int32 × MT) :=
  (some (u2 μ this 0 0)).bind fun ν1 => (m_X9_isSheet Z a0 ν1).bind fun r2 => (if r2 = 0 then some ((-1000001), ν1) else (if (ν1 this 5) = 0 then some ((-1000002), ν1) else (m_X9_in Z ((a2 : Int32).toInt64) (-1) (((ν1 this 5) - 1 : Int32).toInt64) ν1).bind fun r3 => (if r3 = 0 then some ((-1000001), ν1) else (ald Z ν1 (zr Z this 2) a0).bind fun x5 => (if 0 ≤ x5 then (((if a1 < 0 then some (Sum.inr ν1) else (ald Z ν1 (zr Z this 3) a0).bind fun x13 => (if (lg_cmp ((((a1 : Int32).toInt64) + ((ν1 this 5 : Int32).toInt64)) + 1) ((x13 : Int32).toInt64)) ≤ 0 then (some ((40 * a0) + a1)).bind fun x14 => (loop (σ := Int32) (τ := ((Int32 × MT) ⊕ (MT)) ⊕ (Unit)) (fun y15 => ((if (ν1 this 5) < y15 then some (Sum.inr (Sum.inr ())) else (ald Z ν1 (zr Z this 4) (x14 + y15)).bind fun x50 => (m_X9_in Z ((x50 : Int32).toInt64) (-9999) 9999 ν1).bind fun r51 => (if r51 = 0 then some (Sum.inr (Sum.inl (Sum.inl ((-1000001), ν1)))) else (some (y15 + 1)).bind fun x52 => some (Sum.inl x52))) : Option ((Int32) ⊕ (((Int32 × MT) ⊕ (MT)) ⊕ (Unit))))) LN 0).bind (jn (fun (_ : Unit) => (some (u2 ν1 this 1 0)).bind fun ν21 => (if a2 < 0 then (m_X9_layStanding Z this ν21).bind fun ν22 => (loop (σ := Int32) (τ := ((Int32 × MT) ⊕ (MT)) ⊕ (Unit)) (fun y23 => ((if 10 ≤ y23 then some (Sum.inr (Sum.inr ())) else (loop (σ := Int32 × Int32) (τ := Int32) (fun (y29, y30) => ((if (ν22 this 5) ≤ y30 then some (Sum.inr y29) else (((((if y29 = 0 then some (Sum.inr ()) else (m_X9_bendBy Z this x14 y30 ν22).bind fun r44 => (ald Z ν22 (zr Z this 32) (24 + y30)).bind fun x46 => (idv (y23 * x46) 4).bind fun x47 => (if r44 = x47 then some (Sum.inl 1) else some (Sum.inr ()))) : Option ((Int32) ⊕ (Unit)))).bind (jn (fun (_ : Unit) => some 0)) : Option (Int32))).bind (fun z37 => (some (y30 + 1)).bind fun x40 => some (Sum.inl (z37, x40)))) : Option ((Int32 × Int32) ⊕ (Int32)))) LN (1, 0)).bind (fun y31 => (if y31 = 0 then (some (y23 + 1)).bind fun x36 => some (Sum.inl x36) else some (Sum.inr (Sum.inl (Sum.inl (y23, ν22))))))) : Option ((Int32) ⊕ (((Int32 × MT) ⊕ (MT)) ⊕ (Unit))))) LN 1).bind (jn (fun (_ : Unit) => some (Sum.inl ((-1000000), ν22)))) else (m_X9_bendBy Z this x14 a2 ν21).bind fun r48 => some (Sum.inl (r48, ν21))))) else some (Sum.inr ν1))) : Option ((Int32 × MT) ⊕ (MT)))).bind (jn (fun ν6 => (m_X9_finding Z this 2 ν6).bind fun (r10, ν11) => some (r10, ν11))) else (m_X9_finding Z this 1 ν1).bind fun (r53, ν54) => some (r53, ν54)))))
def m_X9_isStep (Z : ZT) (this : Nat) (a0 : Int32) (μ : MT) : Option (Int32) :=
  (m_X9_isAct Z this a0 μ).bind fun r1 => (if r1 = 0 then some 0 else (ald Z μ (zr Z this 9) (4 * a0)).bind fun x3 => (if 8 ≤ x3 then some 0 else some 1))
def m_X9_markOf (Z : ZT) (this : Nat) (a0 : Int32) (a1 : Int32) (μ : MT) : Option (Int32 × MT) :=
  (((((if a1 = 1 then some (Sum.inr ()) else (if a1 = 6 then some (Sum.inr ()) else (if a1 = 7 then some (Sum.inr ()) else some (Sum.inl μ)))) : Option ((MT) ⊕ (Unit)))).bind (jn (fun (_ : Unit) => (((if a1 = 1 then some 21 else (if a1 = 6 then some 22 else some 23)) : Option (Int32))).bind (fun z10 => (m_X9_began Z this z10 μ).bind fun ν13 => some ν13))) : Option (MT))).bind (fun ν1 => (m_X9_began Z this 20 ν1).bind fun ν4 => (if a1 = 1 then some (a0 + 100, ν4) else (if a1 = 6 then some (-a0, ν4) else (if a1 = 7 then (m_X9_flameSize Z this a0 ν4).bind fun (r5, ν6) => some (a0 + r5, ν6) else some (a0, ν4)))))
def m_X2_doSeam (Z : ZT) (this : Nat) (a0 : Nat) (a1 : Int32) (μ : MT) : Option (MT) :=
  (m_X3_firstAct Z a0 a1 μ).bind fun r1 => (loop (σ := Int32 × MT) (τ := MT) (fun (y2, ν3) => ((m_X3_endOfActs Z a0 a1 ν3).bind fun r9 => (if r9 ≤ y2 then some (Sum.inr ν3) else (ald Z ν3 (zr Z a0 5) y2).bind fun x11 => (ald Z ν3 (zr Z a0 4) y2).bind fun x13 => (((if x13 = 7 then (some (u2 ν3 this 8 ((ν3 this 8) + x11))).bind fun ν19 => some ν19 else if x13 = 8 then (some (u2 ν3 this 6 ((ν3 this 6) ||| (1 <<< (x11 &&& 31))))).bind fun ν21 => some ν21 else if x13 = 9 then (m_X2_freeOne Z this x11 ν3).bind fun ν23 => some ν23 else (ald Z ν3 (zr Z a0 4) y2).bind fun x25 => (ald Z ν3 (zr Z a0 6) y2).bind fun x27 => (m_X2_doStep Z this x25 x11 x27 ν3).bind fun ν28 => some ν28) : Option (MT))).bind (fun ν14 => (some (y2 + 1)).bind fun x17 => some (Sum.inl (x17, ν14)))) : Option ((Int32 × MT) ⊕ (MT)))) LN (r1, μ)).bind (fun ν4 => some ν4)
def m_X4_takeAct (Z : ZT) (this : Nat) (a0 : Nat) (a1 : Int32) (μ : MT) : Option (Int32 × MT) :=
  (if (μ a0 2) < 40 then (m_X7_toNext Z (zr Z this 0) μ).bind fun ν2 => (((if a1 = 7 then (m_X4_takeNumber Z this 1 30 ν2).bind fun (r19, ν20) => some (r19, ν20) else (m_X4_takeNumber Z this 0 ((ν2 a0 0) - 1) ν2).bind fun (r17, ν18) => some (r17, ν18)) : Option (Int32 × MT))).bind (fun (z3, ν4) => (some (ν4 this 1)).bind fun x7 => (((if z3 = 0 then (if 6 < a1 then some (z3, 0, ν4) else (m_X4_takeNumber Z this 1 20 ν4).bind fun (r14, ν15) => (some (ν15 this 1)).bind fun x16 => some (r14, x16, ν15)) else some (z3, 0, ν4)) : Option (Int32 × Int32 × MT))).bind (fun (y8, y9, ν10) => (if y8 = 0 then (m_X3_addAct Z a0 a1 x7 y9 ν10).bind fun ν13 => some (y8, ν13) else some (y8, ν10)))) else some (3, μ))
def m_X4_takeBefore (Z : ZT) (this : Nat) (a0 : Nat) (μ : MT) : Option (Int32 × MT) :=
  (if (μ a0 3) < 10 then (m_X7_toNext Z (zr Z this 0) μ).bind fun ν2 => (m_X4_takeNumber Z this 0 ((ν2 a0 1) - 1) ν2).bind fun (r3, ν4) => (if r3 = 0 then (some (ν4 this 1)).bind fun x5 => (m_X7_atNumber Z (zr Z this 0) ν4).bind fun r7 => (((if r7 = 0 then some (Sum.inr ()) else (m_X7_numberHere Z (zr Z this 0) ν4).bind fun r17 => (if r17 = x5 then some (Sum.inl (2, ν4)) else some (Sum.inr ()))) : Option ((Int32 × MT) ⊕ (Unit)))).bind (jn (fun (_ : Unit) => (m_X4_takeNumber Z this 0 ((ν4 a0 1) - 1) ν4).bind fun (r11, ν12) => (if r11 = 0 then (m_X3_addBefore Z a0 x5 (ν12 this 1) ν12).bind fun ν13 => (m_X4_takeSign Z this ν13).bind fun (r14, ν15) => some (r14, ν15) else some (r11, ν12)))) else some (r3, ν4)) else some (3, μ))
def m_X5_weigh (Z : ZT) (this : Nat) (a0 : Nat) (a1 : Int32) (μ : MT) : Option (MT) :=
  (m_X2_freeAll Z a0 μ).bind fun ν1 => (m_X2_off Z a0 ν1).bind fun r2 => (((if (ν1 this 5) = 0 then some (Sum.inr ()) else (if (ν1 this 6) ≤ r2 then some (Sum.inl ν1) else some (Sum.inr ()))) : Option ((MT) ⊕ (Unit)))).bind (jn (fun (_ : Unit) => (some (u2 ν1 this 5 1)).bind fun ν6 => (some (u2 ν6 this 6 r2)).bind fun ν7 => (acp Z ν7 (zr Z this 1) 0 (zr Z this 2) 0 a1).bind fun ν10 => some ν10))
def m_X6_tellsOrder (Z : ZT) (this : Nat) (a0 : Int32) (a1 : Int32) (a2 : Int32) (μ : MT) : Option (Int32) :=
  (loop (σ := Int32 × Int32) (τ := (Int32) ⊕ (Unit)) (fun (y1, y2) => ((if a2 ≤ y2 then some (Sum.inr (Sum.inr ())) else (m_X6_itemAt Z this a0 (a1 + y2) μ).bind fun r8 => (if r8 < 0 then some (Sum.inr (Sum.inl 0)) else (if a2 ≤ r8 then some (Sum.inr (Sum.inl 0)) else (if ((y1 >>> (r8 &&& 31)) &&& 1) = 1 then some (Sum.inr (Sum.inl 0)) else (some (y1 ||| (1 <<< (r8 &&& 31)))).bind fun x9 => (some (y2 + 1)).bind fun x10 => some (Sum.inl (x9, x10)))))) : Option ((Int32 × Int32) ⊕ ((Int32) ⊕ (Unit))))) LN (0, 0)).bind (jn (fun (_ : Unit) => some 1))
def m_X6_allWithin (Z : ZT) (this : Nat) (a0 : Int32) (a1 : Int32) (a2 : Int32) (a3 : Int32) (μ : MT) : Option (Int32) :=
  (loop (σ := Int32) (τ := (Int32) ⊕ (Unit)) (fun y1 => ((if a2 ≤ y1 then some (Sum.inr (Sum.inr ())) else (m_X6_itemAt Z this a0 (a1 + y1) μ).bind fun r7 => (if r7 < (-a3) then some (Sum.inr (Sum.inl 0)) else (if r7 ≤ a3 then (some (y1 + 1)).bind fun x8 => some (Sum.inl x8) else some (Sum.inr (Sum.inl 0))))) : Option ((Int32) ⊕ ((Int32) ⊕ (Unit))))) LN 0).bind (jn (fun (_ : Unit) => some 1))
def m_X7_atWord (Z : ZT) (this : Nat) (a0 : Int32) (μ : MT) : Option (Int32) :=
  (if (μ this 4) = 1 then (m_X7_spelling Z a0 μ).bind fun r1 => (stc r1).bind fun r1 => (m_X7_spells Z this r1 μ).bind fun r2 => (if r2 = 0 then some 0 else some 1) else some 0)
def m_X8_orders (Z : ZT) (zn : Nat) (this : Nat) (μ : MT) : Option (Int32 × MT) :=
  (mrd Z zn 3 (μ this 11)).bind fun q1 => (m_X3_isNone Z q1 μ).bind fun r3 => (if r3 = 0 then (mrd Z zn 3 (μ this 11)).bind fun q5 => (m_X5_howManyFit Z (zr Z this 8) q5 μ).bind fun (r7, ν8) => some (r7, ν8) else some ((-1000002), μ))
def m_X8_crack (Z : ZT) (this : Nat) (a0 : Int32) (μ : MT) : Option (Int32) :=
  (if a0 < 0 then some (-1000001) else (if a0 ≤ 60 then (m_X2_firstAbove Z (zr Z this 6) (300 - (4 * a0)) μ).bind fun r2 => some r2 else some (-1000001)))
def m_X8_warm (Z : ZT) (zn : Nat) (this : Nat) (μ : MT) : Option (Int32) :=
  (mrd Z zn 3 (μ this 11)).bind fun q1 => (m_X3_isNone Z q1 μ).bind fun r3 => (if r3 = 0 then (loop (σ := Int32) (τ := (Int32) ⊕ (Unit)) (fun y4 => ((if y4 < 0 then some (Sum.inr (Sum.inr ())) else (m_X2_firstAbove Z (zr Z this 6) (300 - (4 * y4)) μ).bind fun r11 => (if r11 = (-1000000) then some (Sum.inr (Sum.inl y4)) else (some (y4 + (-1))).bind fun x12 => some (Sum.inl x12))) : Option ((Int32) ⊕ ((Int32) ⊕ (Unit))))) LN 60).bind (jn (fun (_ : Unit) => some (-1000000))) else some (-1000002))
def m_X8_wireBend (Z : ZT) (this : Nat) (a0 : Int32) (a1 : Int32) (a2 : Int32) (μ : MT) : Option (Int32) :=
  (m_X6_itemAt Z (zr Z this 0) a0 (a1 + a2) μ).bind fun r2 => (m_X6_itemAt Z (zr Z this 0) a0 ((a1 + a2) + 1) μ).bind fun r4 => (some (r4 - r2)).bind fun x5 => (if a2 = 0 then some (x5 - 0) else (m_X6_itemAt Z (zr Z this 0) a0 ((a1 + a2) - 1) μ).bind fun r7 => (some (r2 - r7)).bind fun x8 => some (x5 - x8))
def m_X9_numberIn (Z : ZT) (this : Nat) (a0 : Int32) (a1 : Int32) (a2 : Int32) (μ : MT) : Option (Int32 × MT) :=
  (if (μ this 27) ≤ 0 then (some (μ this 25)).bind fun x1 => (loop (σ := Int32 × Int32) (τ := Int32) (fun (y2, y3) => ((if (μ this 26) ≤ y3 then some (Sum.inr y2) else (if (μ this 24) = 3 then (ald Z μ (zr Z this 19) y3).bind fun x22 => (some (((10 * y2) + x22) - 48)).bind fun x23 => (some (y3 + 1)).bind fun x24 => some (Sum.inl (x23, x24)) else some (Sum.inr y2))) : Option ((Int32 × Int32) ⊕ (Int32)))) LN (0, x1)).bind (fun y4 => (((if (μ this 24) = 3 then (m_X9_in Z ((y4 : Int32).toInt64) ((a0 : Int32).toInt64) ((a1 : Int32).toInt64) μ).bind fun r16 => (((if r16 = 0 then some (Sum.inr ()) else (if y4 = a2 then some (Sum.inr ()) else some (Sum.inl μ))) : Option ((MT) ⊕ (Unit)))).bind (jn (fun (_ : Unit) => (m_X9_bad Z this 2 μ).bind fun ν20 => some ν20)) else some μ) : Option (MT))).bind (fun ν9 => (((if (ν9 this 24) = 3 then some 1 else some 0) : Option (Int32))).bind (fun z12 => (m_X9_must Z this z12 ν9).bind fun ν15 => some (y4, ν15)))) else some (0, μ))
def m_X9_mustEnd (Z : ZT) (this : Nat) (μ : MT) : Option (MT) :=
  (if (μ this 27) = 0 then (((if (μ this 24) = 4 then some 1 else some 0) : Option (Int32))).bind (fun z1 => (m_X9_must Z this z1 μ).bind fun ν4 => some ν4) else some μ)
def m_X9_shrinks (Z : ZT) (this : Nat) (a0 : Int32) (a1 : Int32) (a2 : Int32) (μ : MT) : Option (Int32) :=
  (m_X9_holds Z this (a1 + 1) μ).bind fun r1 => (((if r1 = 0 then some 0 else some 1) : Option (Int32))).bind (fun z2 => (some (a2 - z2)).bind fun x5 => (if a0 = 1 then some 1 else if a0 = 3 then some x5 else if a0 = 4 then (m_X9_holds Z this (a1 - 1) μ).bind fun r9 => (((if r9 = 0 then (m_X9_holds Z this (a1 + 1) μ).bind fun r13 => (if r13 = 0 then some (Sum.inl (x5 - 1)) else some (Sum.inr ())) else some (Sum.inr ())) : Option ((Int32) ⊕ (Unit)))).bind (jn (fun (_ : Unit) => some (x5 - 0))) else if a0 = 5 then (m_X9_holds Z this a1 μ).bind fun r15 => (if r15 = 0 then some a2 else (idv a2 2).bind fun x16 => some x16) else if a0 = 6 then some (-a2) else if a0 = 7 then (ald Z μ (zr Z this 32) (24 + a1)).bind fun x20 => (if x20 ≤ 0 then some a2 else some (-a2)) else some a2))
def m_X9_crack (Z : ZT) (this : Nat) (a0 : Int32) (μ : MT) : Option (Int32 × MT) :=
  (some (u2 μ this 0 0)).bind fun ν1 => (m_X9_in Z ((a0 : Int32).toInt64) 0 60 ν1).bind fun r2 => (if r2 = 0 then some ((-1000001), ν1) else (m_X9_crackAt Z this a0 ν1).bind fun (r3, ν4) => some (r3, ν4))
def m_X9_warm (Z : ZT) (this : Nat) (μ : MT) : Option (Int32 × MT) :=
  (some (u2 μ this 0 0)).bind fun ν1 => (if (ν1 this 5) = 0 then some ((-1000002), ν1) else (loop (σ := Int32 × MT) (τ := Int32 × MT) (fun (y2, ν3) => ((if y2 < 0 then some (Sum.inr (y2, ν3)) else (m_X9_crackAt Z this y2 ν3).bind fun (r10, ν11) => (if r10 = (-1000000) then some (Sum.inr (y2, ν11)) else (some (y2 + (-1))).bind fun x12 => some (Sum.inl (x12, ν11)))) : Option ((Int32 × MT) ⊕ (Int32 × MT)))) LN (60, ν1)).bind (fun (y4, ν5) => (if 0 ≤ y4 then some (y4, ν5) else some ((-1000000), ν5))))
def m_X9_kind (Z : ZT) (this : Nat) (a0 : Int32) (μ : MT) : Option (Int32 × MT) :=
  (some (u2 μ this 0 0)).bind fun ν1 => (m_X9_isStep Z this a0 ν1).bind fun r2 => (if r2 = 0 then some ((-1000001), ν1) else (ald Z ν1 (zr Z this 9) (4 * a0)).bind fun x4 => some (x4, ν1))
def m_X9_as (Z : ZT) (this : Nat) (a0 : Int32) (a1 : Int32) (μ : MT) : Option (Int32 × MT) :=
  (some (u2 μ this 0 0)).bind fun ν1 => (m_X9_isStep Z this a0 ν1).bind fun r2 => (if r2 = 0 then some ((-1000001), ν1) else (m_X9_in Z ((a1 : Int32).toInt64) 0 7 ν1).bind fun r3 => (if r3 = 0 then some ((-1000001), ν1) else (some (u2 ν1 this 1 0)).bind fun ν4 => (ald Z ν4 (zr Z this 9) (4 * a0)).bind fun x6 => (m_X9_isOf Z x6 a1 ν4).bind fun r7 => (if r7 = 0 then (m_X9_finding Z this 3 ν4).bind fun (r8, ν9) => some (r8, ν9) else (ald Z ν4 (zr Z this 9) ((4 * a0) + 1)).bind fun x11 => some (x11, ν4))))
def m_X9_sizeOf (Z : ZT) (this : Nat) (a0 : Int32) (a1 : Int32) (μ : MT) : Option (Int32 × MT) :=
  (if a1 = 7 then (m_X9_flameSize Z this a0 μ).bind fun (r30, ν31) => some (r30, ν31) else (((if a1 = 4 then (m_X9_began Z this 13 μ).bind fun ν29 => some ν29 else some μ) : Option (MT))).bind (fun ν1 => (m_X9_isOf Z a1 3 ν1).bind fun r4 => (((if r4 = 0 then some ν1 else (m_X9_began Z this 12 ν1).bind fun ν28 => some ν28) : Option (MT))).bind (fun ν5 => (m_X9_isOf Z a1 2 ν5).bind fun r8 => (((if r8 = 0 then some ν5 else (m_X9_began Z this 11 ν5).bind fun ν27 => some ν27) : Option (MT))).bind (fun ν9 => (m_X9_began Z this 10 ν9).bind fun ν12 => (ald Z ν12 (zr Z this 9) ((4 * a0) + 2)).bind fun x14 => (((if r8 = 0 then some (0, ν12) else (m_X9_markOf Z this a0 a1 ν12).bind fun (r25, ν26) => some (r25, ν26)) : Option (Int32 × MT))).bind (fun (z15, ν16) => (some (x14 + z15)).bind fun x19 => (m_X9_isOf Z a1 3 ν16).bind fun r20 => (((if r20 = 0 then some 0 else some 1) : Option (Int32))).bind (fun z21 => (some (x19 - z21)).bind fun x24 => (if a1 = 4 then some (2 * x24, ν16) else some (x24, ν16))))))))
def m_X2_go (Z : ZT) (this : Nat) (a0 : Nat) (a1 : Nat) (a2 : Nat) (a3 : Int32) (μ : MT) : Option (MT) :=
  (m_X2_begin Z this (μ a0 0) a1 μ).bind fun ν1 => (loop (σ := Int32 × MT) (τ := MT) (fun (y2, ν3) => ((if (ν3 a0 1) ≤ y2 then some (Sum.inr ν3) else (if (Int32.ofNat (zl Z a2)) ≤ y2 then some (Sum.inr ν3) else (ald Z ν3 a2 y2).bind fun x10 => (((if x10 = a3 then some ν3 else (ald Z ν3 a2 y2).bind fun x15 => (m_X2_doSeam Z this a0 x15 ν3).bind fun ν16 => some ν16) : Option (MT))).bind (fun ν11 => (some (y2 + 1)).bind fun x14 => some (Sum.inl (x14, ν11))))) : Option ((Int32 × MT) ⊕ (MT)))) LN (0, ν1)).bind (fun ν4 => (m_X2_freeAll Z this ν4).bind fun ν9 => some ν9)
def m_X4_takePanel (Z : ZT) (this : Nat) (a0 : Nat) (μ : MT) : Option (Int32 × MT) :=
  (m_X7_atWord Z (zr Z this 0) 10 μ).bind fun r2 => (if r2 = 0 then some (1, μ) else (m_X7_toNext Z (zr Z this 0) μ).bind fun ν4 => (m_X4_takeNumber Z this 4 12 ν4).bind fun (r5, ν6) => (if r5 = 0 then (some (u2 ν6 a0 0 (ν6 this 1))).bind fun ν7 => (m_X4_takeSign Z this ν7).bind fun (r8, ν9) => some (r8, ν9) else some (r5, ν6)))
def m_X5_tryFrom (Z : ZT) : Nat → Nat → Nat → Int32 → Int32 → MT → Option (MT)
  | 0, _, _, _, _, _ => none
  | n + 1, this, a0, a1, a2, μ => (((if (μ a0 1) ≤ a1 then some (Sum.inr μ) else (if a1 < 6 then (loop (σ := Int32 × MT) (τ := MT) (fun (y9, ν10) => ((if (ν10 a0 1) ≤ y9 then some (Sum.inr ν10) else (m_X3_mayFollow Z a0 y9 a2 ν10).bind fun r16 => (((if r16 = 0 then some ν10 else (ard Z (zr Z this 0) (a1 + 1)).bind fun q22 => (ard Z (zr Z this 0) a1).bind fun q25 => (m_X2_becomeAs Z q22 q25 ν10).bind fun ν27 => (ard Z (zr Z this 0) (a1 + 1)).bind fun q29 => (m_X2_doSeam Z q29 a0 y9 ν27).bind fun ν31 => (ast Z ν31 (zr Z this 1) a1 y9).bind fun ν33 => (m_X5_tryFrom Z n this a0 (a1 + 1) (a2 ||| (1 <<< (y9 &&& 31))) ν33).bind fun ν34 => some ν34) : Option (MT))).bind (fun ν17 => (some (y9 + 1)).bind fun x20 => some (Sum.inl (x20, ν17)))) : Option ((Int32 × MT) ⊕ (MT)))) LN (0, μ)).bind (fun ν11 => some (Sum.inl ν11)) else some (Sum.inr μ))) : Option ((MT) ⊕ (MT)))).bind (jn (fun ν1 => (ard Z (zr Z this 0) a1).bind fun q6 => (m_X5_weigh Z this q6 a1 ν1).bind fun ν8 => some ν8))
def m_X7_actHere (Z : ZT) (this : Nat) (μ : MT) : Option (Int32) :=
  (loop (σ := Int32) (τ := (Int32) ⊕ (Unit)) (fun y1 => ((if 9 < y1 then some (Sum.inr (Sum.inr ())) else (m_X7_atWord Z this y1 μ).bind fun r7 => (if r7 = 0 then (some (y1 + 1)).bind fun x8 => some (Sum.inl x8) else some (Sum.inr (Sum.inl y1)))) : Option ((Int32) ⊕ ((Int32) ⊕ (Unit))))) LN 0).bind (jn (fun (_ : Unit) => some (-1)))
def m_X8_isSteel (Z : ZT) (zn : Nat) (this : Nat) (a0 : Int32) (a1 : Int32) (a2 : Int32) (μ : MT) : Option (Int32) :=
  (loop (σ := Int32) (τ := (Int32) ⊕ (Unit)) (fun y1 => ((mrd Z zn 3 (μ this 11)).bind fun q7 => (if (μ q7 0) ≤ y1 then some (Sum.inr (Sum.inr ())) else (m_X8_wireBend Z this a0 a1 y1 μ).bind fun r9 => (ald Z μ (zr Z (zr Z this 6) 3) y1).bind fun x12 => (idv (a2 * x12) 4).bind fun x13 => (if r9 = x13 then (some (y1 + 1)).bind fun x14 => some (Sum.inl x14) else some (Sum.inr (Sum.inl 0)))) : Option ((Int32) ⊕ ((Int32) ⊕ (Unit))))) LN 0).bind (jn (fun (_ : Unit) => some 1))
def m_X9_readAct (Z : ZT) (this : Nat) (a0 : Int32) (μ : MT) : Option (MT) :=
  (((if (μ this 14) = 40 then (m_X9_bad Z this 3 μ).bind fun ν28 => some ν28 else some μ) : Option (MT))).bind (fun ν1 => (m_X9_must Z this 1 ν1).bind fun ν4 => (((if a0 = 8 then (m_X9_numberIn Z this 1 30 (-1000000) ν4).bind fun (r26, ν27) => some (r26, ν27) else (m_X9_numberIn Z this 0 ((ν4 this 12) - 1) (-1000000) ν4).bind fun (r24, ν25) => some (r24, ν25)) : Option (Int32 × MT))).bind (fun (z5, ν6) => (((if 8 ≤ a0 then some ((-1000000), ν6) else (m_X9_numberIn Z this 1 20 (-1000000) ν6).bind fun (r22, ν23) => some (r22, ν23)) : Option (Int32 × MT))).bind (fun (z9, ν10) => (if (ν10 this 27) = 0 then (ast Z ν10 (zr Z this 16) (4 * (ν10 this 14)) a0).bind fun ν14 => (ast Z ν14 (zr Z this 16) ((4 * (ν14 this 14)) + 1) z5).bind fun ν16 => (ast Z ν16 (zr Z this 16) ((4 * (ν16 this 14)) + 2) z9).bind fun ν18 => (ast Z ν18 (zr Z this 16) ((4 * (ν18 this 14)) + 3) (ν18 this 13)).bind fun ν20 => (some (u2 ν20 this 14 ((ν20 this 14) + 1))).bind fun ν21 => some ν21 else some ν10))))
def m_X9_readBefore (Z : ZT) (this : Nat) (μ : MT) : Option (MT) :=
  (((if (μ this 15) = 10 then (m_X9_bad Z this 3 μ).bind fun ν19 => some ν19 else some μ) : Option (MT))).bind (fun ν1 => (m_X9_word Z this ν1).bind fun r4 => (((if (lg_cmp r4 108187649798757) = 0 then some 1 else some 0) : Option (Int32))).bind (fun z5 => (m_X9_must Z this z5 ν1).bind fun ν8 => (m_X9_numberIn Z this 0 ((ν8 this 13) - 1) (-1000000) ν8).bind fun (r9, ν10) => (m_X9_numberIn Z this 0 ((ν10 this 13) - 1) r9 ν10).bind fun (r11, ν12) => (m_X9_mustEnd Z this ν12).bind fun ν13 => (if (ν13 this 27) = 0 then (ast Z ν13 (zr Z this 17) (ν13 this 15) r9).bind fun ν15 => (ast Z ν15 (zr Z this 18) (ν15 this 15) r11).bind fun ν17 => (some (u2 ν17 this 15 ((ν17 this 15) + 1))).bind fun ν18 => some ν18 else some ν13)))
def m_X9_step (Z : ZT) (this : Nat) (a0 : Int32) (a1 : Int32) (a2 : Int32) (μ : MT) : Option (MT) :=
  (m_X9_shrinks Z this a0 a1 a2 μ).bind fun r1 => (ald Z μ (zr Z this 32) (12 + a1)).bind fun x3 => (idv (8 * r1) (8 + x3)).bind fun x4 => (ald Z μ (zr Z this 32) (0 + a1)).bind fun x6 => (((if x6 < 100 then some x4 else (idv x4 2).bind fun x51 => some x51) : Option (Int32))).bind (fun z7 => (ald Z μ (zr Z this 34) a1).bind fun x11 => (((if x11 = 0 then (ald Z μ (zr Z this 32) (24 + a1)).bind fun x46 => (ast Z μ (zr Z this 32) (24 + a1) (x46 + z7)).bind fun ν47 => some ν47 else (ald Z μ (zr Z this 33) a1).bind fun x49 => (ast Z μ (zr Z this 33) a1 (x49 + z7)).bind fun ν50 => some ν50) : Option (MT))).bind (fun ν12 => (loop (σ := Int32 × MT) (τ := MT) (fun (y15, ν16) => ((if (ν16 this 5) ≤ y15 then some (Sum.inr ν16) else (ald Z ν16 (zr Z this 32) (36 + y15)).bind fun x39 => (((if y15 = a1 then some (z7 * ((ν16 this 5) - 1)) else some (-z7)) : Option (Int32))).bind (fun z40 => (ast Z ν16 (zr Z this 32) (36 + y15) (x39 + z40)).bind fun ν43 => (some (y15 + 1)).bind fun x44 => some (Sum.inl (x44, ν43)))) : Option ((Int32 × MT) ⊕ (MT)))) LN (0, ν12)).bind (fun ν17 => (ald Z ν17 (zr Z this 32) (0 + a1)).bind fun x23 => (((if a0 = 1 then some a2 else (if a0 = 7 then some (6 * a2) else some (4 * a2))) : Option (Int32))).bind (fun z24 => (ast Z ν17 (zr Z this 32) (0 + a1) (x23 + z24)).bind fun ν27 => (ald Z ν27 (zr Z this 32) (12 + a1)).bind fun x29 => (((if a0 = 7 then some 0 else (((if a0 = 1 then some (Sum.inr ()) else (if a0 = 5 then some (Sum.inr ()) else some (Sum.inl 2))) : Option ((Int32) ⊕ (Unit)))).bind (jn (fun (_ : Unit) => some 1))) : Option (Int32))).bind (fun z30 => (ast Z ν27 (zr Z this 32) (12 + a1) (x29 + z30)).bind fun ν33 => (m_X9_minute Z this ν33).bind fun ν34 => some ν34)))))
def m_X9_ask (Z : ZT) (this : Nat) (a0 : Int32) (a1 : Int32) (μ : MT) : Option (Int32 × MT) :=
  (some (u2 μ this 0 0)).bind fun ν1 => (m_X9_isStep Z this a0 ν1).bind fun r2 => (if r2 = 0 then some ((-1000001), ν1) else (m_X9_in Z ((a1 : Int32).toInt64) 0 1 ν1).bind fun r3 => (if r3 = 0 then some ((-1000001), ν1) else (some (u2 ν1 this 42 0)).bind fun ν4 => (if a1 = 0 then (ald Z ν4 (zr Z this 9) (4 * a0)).bind fun x10 => (m_X9_sizeOf Z this a0 x10 ν4).bind fun (r11, ν12) => some (r11, ν12) else (ald Z ν4 (zr Z this 9) (4 * a0)).bind fun x6 => (m_X9_markOf Z this a0 x6 ν4).bind fun (r7, ν8) => some (r7, ν8))))
def m_X1_look (Z : ZT) (this : Nat) (a0 : Nat) (a1 : Nat) (μ : MT) : Option (MT) :=
  (if (μ this 2) = 0 then (some (u2 μ this 2 1)).bind fun ν1 => (m_J7_fill_53178 Z (zr Z this 0) (-1000000) ν1).bind fun ν3 => (loop (σ := Int32 × MT) (τ := MT) (fun (y4, ν5) => ((if 80 < y4 then some (Sum.inr ν5) else (irm y4 2).bind fun x26 => (((if x26 = 1 then (idv y4 2).bind fun x37 => some ((-x37) - 1) else (idv y4 2).bind fun x36 => some x36) : Option (Int32))).bind (fun z27 => (m_J7_fill_53178 Z (zr Z this 1) z27 ν5).bind fun ν31 => (m_X2_go Z a1 a0 (zr Z this 1) 1000 (-1) ν31).bind fun ν33 => (m_X1_keepWhereFlat Z this a1 z27 ν33).bind fun ν34 => (some (y4 + 1)).bind fun x35 => some (Sum.inl (x35, ν34)))) : Option ((Int32 × MT) ⊕ (MT)))) LN (0, ν3)).bind (fun ν6 => (loop (σ := Int32 × MT) (τ := MT) (fun (y11, ν12) => ((if 12 ≤ y11 then some (Sum.inr ν12) else (ald Z ν12 (zr Z this 0) (y11 - 1)).bind fun x19 => (((if x19 = (-1000000) then (ast Z ν12 (zr Z this 0) y11 (-1000000)).bind fun ν25 => some ν25 else some ν12) : Option (MT))).bind (fun ν20 => (some (y11 + 1)).bind fun x23 => some (Sum.inl (x23, ν20)))) : Option ((Int32 × MT) ⊕ (MT)))) LN (1, ν6)).bind (fun ν13 => some ν13)) else some μ)
def m_X4_takeSeam (Z : ZT) (this : Nat) (a0 : Nat) (μ : MT) : Option (Int32 × MT) :=
  (if (μ a0 1) < 6 then (m_X7_toNext Z (zr Z this 0) μ).bind fun ν2 => (m_X7_actHere Z (zr Z this 0) ν2).bind fun r4 => (loop (σ := Int32 × Int32 × Int32 × MT) (τ := Int32 × MT) (fun (y5, y6, y7, ν8) => ((if 40 < y7 then some (Sum.inr (y5, ν8)) else (if y5 = 0 then (if y6 = (-1) then some (Sum.inr (y5, ν8)) else (m_X4_takeAct Z this a0 y6 ν8).bind fun (r18, ν19) => (m_X7_actHere Z (zr Z this 0) ν19).bind fun r21 => (some (y7 + 1)).bind fun x22 => some (Sum.inl (r18, r21, x22, ν19))) else some (Sum.inr (y5, ν8)))) : Option ((Int32 × Int32 × Int32 × MT) ⊕ (Int32 × MT)))) LN (0, r4, 0, ν2)).bind (fun (y9, ν10) => (m_X3_endSeam Z a0 ν10).bind fun ν15 => (if y9 = 0 then (m_X4_takeSign Z this ν15).bind fun (r16, ν17) => some (r16, ν17) else some (y9, ν15))) else some (3, μ))
def m_X5_look (Z : ZT) (this : Nat) (a0 : Nat) (a1 : Nat) (μ : MT) : Option (MT) :=
  (if (μ this 4) = 0 then (some (u2 μ this 4 1)).bind fun ν1 => (some (u2 ν1 this 5 0)).bind fun ν2 => (ard Z (zr Z this 0) 0).bind fun q4 => (m_X2_begin Z q4 (ν2 a0 0) a1 ν2).bind fun ν6 => (m_X5_tryFrom Z 8 this a0 0 0 ν6).bind fun ν7 => some ν7 else some μ)
def m_X8_standByOrder (Z : ZT) (zn : Nat) (this : Nat) (μ : MT) : Option (Int32 × MT) :=
  (some (u2 μ this 13 1)).bind fun ν1 => (mrd Z zn 3 (ν1 this 11)).bind fun q3 => (m_X2_go Z (zr Z this 6) q3 (zr Z this 3) (zr Z this 4) (-1) ν1).bind fun ν7 => (m_X2_off Z (zr Z this 6) ν7).bind fun r9 => some (r9, ν7)
def m_X8_gives (Z : ZT) (zn : Nat) (this : Nat) (a0 : Int32) (μ : MT) : Option (Int32 × MT) :=
  (mrd Z zn 3 (μ this 11)).bind fun q1 => (m_X3_hasSeam Z q1 a0 μ).bind fun r3 => (if r3 = 0 then some ((-1000001), μ) else (mrd Z zn 3 (μ this 11)).bind fun q5 => (m_X2_go Z (zr Z this 7) q5 (zr Z this 3) (zr Z this 4) (-1) μ).bind fun ν9 => (m_X2_off Z (zr Z this 7) ν9).bind fun r11 => (mrd Z zn 3 (ν9 this 11)).bind fun q13 => (m_X2_go Z (zr Z this 7) q13 (zr Z this 3) (zr Z this 4) a0 ν9).bind fun ν17 => (m_X2_off Z (zr Z this 7) ν17).bind fun r19 => some (r11 - r19, ν17))
def m_X8_steelOf (Z : ZT) (zn : Nat) (this : Nat) (a0 : Int32) (a1 : Int32) (μ : MT) : Option (Int32) :=
  (loop (σ := Int32) (τ := (Int32) ⊕ (Unit)) (fun y1 => ((if 9 < y1 then some (Sum.inr (Sum.inr ())) else (m_X8_isSteel Z zn this a0 a1 y1 μ).bind fun r7 => (if r7 = 0 then (some (y1 + 1)).bind fun x8 => some (Sum.inl x8) else some (Sum.inr (Sum.inl y1)))) : Option ((Int32) ⊕ ((Int32) ⊕ (Unit))))) LN 1).bind (jn (fun (_ : Unit) => some (-1000000)))
def m_X9_readSeam (Z : ZT) (this : Nat) (μ : MT) : Option (MT) :=
  (((if (μ this 13) = 6 then (m_X9_bad Z this 3 μ).bind fun ν17 => some ν17 else some μ) : Option (MT))).bind (fun ν1 => (m_X9_must Z this 1 ν1).bind fun ν4 => (m_X9_kindOfWord Z this ν4).bind fun r5 => (loop (σ := Int32 × MT) (τ := MT) (fun (y6, ν7) => ((if (ν7 this 27) = 0 then (if y6 = (-1000000) then some (Sum.inr ν7) else (m_X9_readAct Z this y6 ν7).bind fun ν15 => (m_X9_kindOfWord Z this ν15).bind fun r16 => some (Sum.inl (r16, ν15))) else some (Sum.inr ν7)) : Option ((Int32 × MT) ⊕ (MT)))) LN (r5, ν4)).bind (fun ν8 => (m_X9_mustEnd Z this ν8).bind fun ν13 => (some (u2 ν13 this 13 ((ν13 this 13) + 1))).bind fun ν14 => some ν14))
def m_X9_doAct (Z : ZT) (this : Nat) (a0 : Int32) (μ : MT) : Option (MT) :=
  (ald Z μ (zr Z this 9) (4 * a0)).bind fun x2 => (ald Z μ (zr Z this 9) ((4 * a0) + 1)).bind fun x4 => (if x2 = 8 then (loop (σ := Int32 × MT) (τ := MT) (fun (y11, ν12) => ((if x4 ≤ y11 then some (Sum.inr ν12) else (m_X9_minute Z this ν12).bind fun ν18 => (some (y11 + 1)).bind fun x19 => some (Sum.inl (x19, ν18))) : Option ((Int32 × MT) ⊕ (MT)))) LN (0, μ)).bind (fun ν13 => some ν13) else (if x2 = 9 then (ast Z μ (zr Z this 34) x4 (vp_nar .boolean 1)).bind fun ν10 => some ν10 else (if x2 = 10 then (m_X9_free Z this x4 μ).bind fun ν8 => some ν8 else (ald Z μ (zr Z this 9) ((4 * a0) + 2)).bind fun x6 => (m_X9_step Z this x2 x4 x6 μ).bind fun ν7 => some ν7)))
def m_X4_readInto (Z : ZT) (this : Nat) (a0 : Nat) (μ : MT) : Option (Int32 × MT) :=
  (m_X3_clear Z a0 μ).bind fun ν1 => (m_X7_toFirst Z (zr Z this 0) ν1).bind fun ν3 => (m_X4_takePanel Z this a0 ν3).bind fun (r4, ν5) => (loop (σ := Int32 × Int32 × MT) (τ := Int32 × MT) (fun (y6, y7, ν8) => ((if 6 < y7 then some (Sum.inr (y6, ν8)) else (if y6 = 0 then (m_X7_atWord Z (zr Z this 0) 11 ν8).bind fun r32 => (if r32 = 0 then some (Sum.inr (y6, ν8)) else (m_X4_takeSeam Z this a0 ν8).bind fun (r33, ν34) => (some (y7 + 1)).bind fun x35 => some (Sum.inl (r33, x35, ν34))) else some (Sum.inr (y6, ν8)))) : Option ((Int32 × Int32 × MT) ⊕ (Int32 × MT)))) LN (r4, 0, ν5)).bind (fun (y9, ν10) => (loop (σ := Int32 × Int32 × MT) (τ := Int32 × MT) (fun (y15, y16, ν17) => ((if 10 < y16 then some (Sum.inr (y15, ν17)) else (if y15 = 0 then (m_X7_atWord Z (zr Z this 0) 12 ν17).bind fun r27 => (if r27 = 0 then some (Sum.inr (y15, ν17)) else (m_X4_takeBefore Z this a0 ν17).bind fun (r28, ν29) => (some (y16 + 1)).bind fun x30 => some (Sum.inl (r28, x30, ν29))) else some (Sum.inr (y15, ν17)))) : Option ((Int32 × Int32 × MT) ⊕ (Int32 × MT)))) LN (y9, 0, ν10)).bind (fun (y18, ν19) => (if y18 = 0 then (m_X7_atEnd Z (zr Z this 0) ν19).bind fun r25 => (if r25 = 0 then some (1, ν19) else some (y18, ν19)) else some (y18, ν19))))
def m_X8_run (Z : ZT) (zn : Nat) (this : Nat) (a0 : Int32) (a1 : Int32) (μ : MT) : Option (Int32 × MT) :=
  (m_X6_hasNumber Z (zr Z this 0) a0 μ).bind fun r2 => (if r2 = 0 then some ((-1000001), μ) else (mrd Z zn 3 (μ this 11)).bind fun q3 => (m_X3_isNone Z q3 μ).bind fun r5 => (if r5 = 0 then (mrd Z zn 3 (μ this 11)).bind fun q7 => (m_X6_findingAt Z (zr Z this 0) a0 a1 (μ q7 1) μ).bind fun r9 => (if r9 = 0 then (mrd Z zn 3 (μ this 11)).bind fun q11 => (m_X6_tellsOrder Z (zr Z this 0) a0 a1 (μ q11 1) μ).bind fun r13 => (if r13 = 0 then some ((-1000001), μ) else (loop (σ := Int32 × MT) (τ := MT) (fun (y14, ν15) => ((mrd Z zn 3 (ν15 this 11)).bind fun q25 => (if (ν15 q25 1) ≤ y14 then some (Sum.inr ν15) else (m_X6_itemAt Z (zr Z this 0) a0 (a1 + y14) ν15).bind fun r29 => (ast Z ν15 (zr Z this 4) y14 r29).bind fun ν30 => (some (y14 + 1)).bind fun x31 => some (Sum.inl (x31, ν30))) : Option ((Int32 × MT) ⊕ (MT)))) LN (0, μ)).bind (fun ν16 => (m_X8_standByOrder Z zn this ν16).bind fun (r21, ν22) => (m_X8_fine Z this r21 ν22).bind fun (r23, ν24) => some (r23, ν24))) else (m_X8_found Z this r9 μ).bind fun (r32, ν33) => some (r32, ν33)) else some ((-1000002), μ)))
def m_X8_runs (Z : ZT) (zn : Nat) (this : Nat) (μ : MT) : Option (Int32 × MT) :=
  (mrd Z zn 3 (μ this 11)).bind fun q1 => (m_X3_isNone Z q1 μ).bind fun r3 => (if r3 = 0 then (acp Z μ 1000 0 (zr Z this 4) 0 6).bind fun ν5 => (m_X8_standByOrder Z zn this ν5).bind fun (r6, ν7) => some (r6, ν7) else some ((-1000002), μ))
def m_X8_best (Z : ZT) (zn : Nat) (this : Nat) (a0 : Int32) (μ : MT) : Option (Int32 × MT) :=
  (if (-1) ≤ a0 then (mrd Z zn 3 (μ this 11)).bind fun q1 => (m_X3_isNone Z q1 μ).bind fun r3 => (if r3 = 0 then (mrd Z zn 3 (μ this 11)).bind fun q5 => (m_X5_look Z (zr Z this 8) q5 (zr Z this 3) μ).bind fun ν8 => (if (ν8 (zr Z this 8) 5) = 0 then some ((-1000000), ν8) else (if a0 = (-1) then some (ν8 (zr Z this 8) 6, ν8) else (mrd Z zn 3 (ν8 this 11)).bind fun q10 => (m_X3_hasSeam Z q10 a0 ν8).bind fun r12 => (if r12 = 0 then some ((-1000000), ν8) else (ald Z ν8 (zr Z (zr Z this 8) 2) a0).bind fun x15 => some (x15, ν8)))) else some ((-1000002), μ)) else some ((-1000001), μ))
def m_X8_beforehand (Z : ZT) (zn : Nat) (this : Nat) (a0 : Int32) (μ : MT) : Option (Int32 × MT) :=
  (mrd Z zn 3 (μ this 11)).bind fun q1 => (m_X3_hasCell Z q1 a0 μ).bind fun r3 => (if r3 = 0 then some ((-1000001), μ) else (mrd Z zn 3 (μ this 11)).bind fun q5 => (m_X1_look Z (zr Z this 9) q5 (zr Z this 7) μ).bind fun ν8 => (ald Z ν8 (zr Z (zr Z this 9) 0) a0).bind fun x11 => some (x11, ν8))
def m_X8_wire (Z : ZT) (zn : Nat) (this : Nat) (a0 : Int32) (a1 : Int32) (a2 : Int32) (μ : MT) : Option (Int32 × MT) :=
  (m_X6_hasNumber Z (zr Z this 0) a0 μ).bind fun r2 => (if r2 = 0 then some ((-1000001), μ) else (mrd Z zn 3 (μ this 11)).bind fun q3 => (m_X3_isNone Z q3 μ).bind fun r5 => (if r5 = 0 then (if a2 < (-1) then some ((-1000001), μ) else (mrd Z zn 3 (μ this 11)).bind fun q6 => (if a2 < (μ q6 0) then (mrd Z zn 3 (μ this 11)).bind fun q9 => (m_X6_findingAt Z (zr Z this 0) a0 a1 ((μ q9 0) + 1) μ).bind fun r11 => (if r11 = 0 then (mrd Z zn 3 (μ this 11)).bind fun q13 => (m_X6_allWithin Z (zr Z this 0) a0 a1 ((μ q13 0) + 1) 9999 μ).bind fun r15 => (if r15 = 0 then some ((-1000001), μ) else (((if a2 = (-1) then (m_X8_steelOf Z zn this a0 a1 μ).bind fun r22 => some r22 else (m_X8_wireBend Z this a0 a1 a2 μ).bind fun r21 => some r21) : Option (Int32))).bind (fun z16 => (m_X8_fine Z this z16 μ).bind fun (r19, ν20) => some (r19, ν20))) else (m_X8_found Z this r11 μ).bind fun (r23, ν24) => some (r23, ν24)) else some ((-1000001), μ))) else some ((-1000002), μ)))
def m_X9_plan (Z : ZT) (this : Nat) (μ : MT) : Option (Int32 × MT) :=
  (some (u2 μ this 0 0)).bind fun ν1 => (some (u2 ν1 this 22 (ν1 this 20))).bind fun ν2 => (some (u2 ν2 this 20 0)).bind fun ν3 => (some (u2 ν3 this 23 0)).bind fun ν4 => (some (u2 ν4 this 27 0)).bind fun ν5 => (some (u2 ν5 this 13 0)).bind fun ν6 => (some (u2 ν6 this 14 0)).bind fun ν7 => (some (u2 ν7 this 15 0)).bind fun ν8 => (m_X9_next Z this ν8).bind fun ν9 => (m_X9_word Z this ν9).bind fun r10 => (((if (lg_cmp r10 482670962028) = 0 then some 1 else some 0) : Option (Int32))).bind (fun z11 => (m_X9_must Z this z11 ν9).bind fun ν14 => (m_X9_numberIn Z this 4 12 (-1000000) ν14).bind fun (r15, ν16) => (some (u2 ν16 this 12 r15)).bind fun ν17 => (m_X9_mustEnd Z this ν17).bind fun ν18 => (loop (σ := MT) (τ := MT) (fun ν19 => ((m_X9_word Z this ν19).bind fun r88 => (if (lg_cmp r88 1936023917) = 0 then (m_X9_readSeam Z this ν19).bind fun ν89 => some (Sum.inl ν89) else some (Sum.inr ν19)) : Option ((MT) ⊕ (MT)))) LN ν18).bind (fun ν20 => (loop (σ := MT) (τ := MT) (fun ν25 => ((if (ν25 this 27) = 0 then (if (ν25 this 24) = 1 then some (Sum.inr ν25) else (m_X9_word Z this ν25).bind fun r85 => (if (lg_cmp r85 108187649798757) = 0 then (m_X9_readBefore Z this ν25).bind fun ν86 => some (Sum.inl ν86) else (m_X9_bad Z this 1 ν25).bind fun ν87 => some (Sum.inl ν87))) else some (Sum.inr ν25)) : Option ((MT) ⊕ (MT)))) LN ν20).bind (fun ν26 => (if (ν26 this 27) ≤ 0 then (some (u2 ν26 this 5 (ν26 this 12))).bind fun ν31 => (some (u2 ν31 this 6 (ν31 this 13))).bind fun ν32 => (some (u2 ν32 this 7 (ν32 this 14))).bind fun ν33 => (some (u2 ν33 this 8 (ν33 this 15))).bind fun ν34 => (loop (σ := Int32 × MT) (τ := MT) (fun (y35, ν36) => ((if 160 ≤ y35 then some (Sum.inr ν36) else (ald Z ν36 (zr Z this 16) y35).bind fun x81 => (ast Z ν36 (zr Z this 9) y35 x81).bind fun ν82 => (some (y35 + 1)).bind fun x83 => some (Sum.inl (x83, ν82))) : Option ((Int32 × MT) ⊕ (MT)))) LN (0, ν34)).bind (fun ν37 => (loop (σ := Int32 × MT) (τ := MT) (fun (y42, ν43) => ((if 10 ≤ y42 then some (Sum.inr ν43) else (ald Z ν43 (zr Z this 17) y42).bind fun x72 => (ast Z ν43 (zr Z this 10) y42 x72).bind fun ν73 => (ald Z ν73 (zr Z this 18) y42).bind fun x76 => (ast Z ν73 (zr Z this 11) y42 x76).bind fun ν77 => (some (y42 + 1)).bind fun x78 => some (Sum.inl (x78, ν77))) : Option ((Int32 × MT) ⊕ (MT)))) LN (0, ν37)).bind (fun ν44 => (loop (σ := Int32 × MT) (τ := MT) (fun (y49, ν50) => ((if 12 ≤ y49 then some (Sum.inr ν50) else (ast Z ν50 (zr Z this 29) y49 0).bind fun ν68 => (some (y49 + 1)).bind fun x69 => some (Sum.inl (x69, ν68))) : Option ((Int32 × MT) ⊕ (MT)))) LN (0, ν44)).bind (fun ν51 => (some (u2 ν51 this 31 0)).bind fun ν56 => (loop (σ := Int32 × MT) (τ := MT) (fun (y57, ν58) => ((if 6 ≤ y57 then some (Sum.inr ν58) else (ast Z ν58 (zr Z this 30) y57 y57).bind fun ν65 => (some (y57 + 1)).bind fun x66 => some (Sum.inl (x66, ν65))) : Option ((Int32 × MT) ⊕ (MT)))) LN (0, ν56)).bind (fun ν59 => some (ν59 this 7, ν59))))) else (some (u2 ν26 this 21 (ν26 this 27))).bind fun ν84 => some ((-1000100) - (ν84 this 28), ν84)))))
def m_X9_go (Z : ZT) (this : Nat) (a0 : Int32) (μ : MT) : Option (MT) :=
  (loop (σ := Int32 × MT) (τ := MT) (fun (y1, ν2) => ((if 48 ≤ y1 then some (Sum.inr ν2) else (m_X9_in Z ((y1 : Int32).toInt64) 24 35 ν2).bind fun r45 => (((if r45 = 0 then some 0 else (ald Z ν2 (zr Z this 38) (y1 - 24)).bind fun x58 => some x58) : Option (Int32))).bind (fun z46 => (ast Z ν2 (zr Z this 32) y1 z46).bind fun ν49 => (irm y1 12).bind fun x51 => (ast Z ν49 (zr Z this 33) x51 0).bind fun ν52 => (irm y1 12).bind fun x54 => (ast Z ν52 (zr Z this 34) x54 (vp_nar .boolean 0)).bind fun ν55 => (some (y1 + 1)).bind fun x56 => some (Sum.inl (x56, ν55)))) : Option ((Int32 × MT) ⊕ (MT)))) LN (0, μ)).bind (fun ν3 => (some (u2 ν3 this 35 0)).bind fun ν8 => (loop (σ := Int32 × MT) (τ := MT) (fun (y9, ν10) => ((if (ν10 this 6) ≤ y9 then some (Sum.inr ν10) else (loop (σ := Int32 × MT) (τ := MT) (fun (y25, ν26) => ((if (ν26 this 7) ≤ y25 then some (Sum.inr ν26) else (ald Z ν26 (zr Z this 9) ((4 * y25) + 3)).bind fun x34 => (ald Z ν26 (zr Z this 39) y9).bind fun x36 => (((if x34 = x36 then (ald Z ν26 (zr Z this 39) y9).bind fun x42 => (if x42 = a0 then some ν26 else (m_X9_doAct Z this y25 ν26).bind fun ν43 => some ν43) else some ν26) : Option (MT))).bind (fun ν37 => (some (y25 + 1)).bind fun x40 => some (Sum.inl (x40, ν37)))) : Option ((Int32 × MT) ⊕ (MT)))) LN (0, ν10)).bind (fun ν27 => (some (y9 + 1)).bind fun x32 => some (Sum.inl (x32, ν27)))) : Option ((Int32 × MT) ⊕ (MT)))) LN (0, ν8)).bind (fun ν11 => (loop (σ := Int32 × MT) (τ := MT) (fun (y16, ν17) => ((if (ν17 this 5) ≤ y16 then some (Sum.inr ν17) else (m_X9_free Z this y16 ν17).bind fun ν23 => (some (y16 + 1)).bind fun x24 => some (Sum.inl (x24, ν23))) : Option ((Int32 × MT) ⊕ (MT)))) LN (0, ν11)).bind (fun ν18 => some ν18)))
def m_X8_plan (Z : ZT) (zn : Nat) (this : Nat) (μ : MT) : Option (Int32 × MT) :=
  (mrd Z zn 3 (μ this 12)).bind fun q2 => (m_X4_readInto Z (zr Z this 2) q2 μ).bind fun (r4, ν5) => (m_X7_tokenPlace Z (zr Z this 1) ν5).bind fun r7 => (m_X7_empty Z (zr Z this 1) ν5).bind fun ν9 => (if r4 = 0 then (mrd Z zn 3 (ν9 this 11)).bind fun q10 => (mrd Z zn 3 (ν9 this 12)).bind fun q12 => (some (u2 ν9 this 11 (Int32.ofNat q12))).bind fun ν14 => (some (u2 ν14 this 12 (Int32.ofNat q10))).bind fun ν15 => (m_X8_beginPlan Z zn this ν15).bind fun ν16 => (mrd Z zn 3 (ν16 this 11)).bind fun q17 => some (ν16 q17 2, ν16) else (some (u2 ν9 this 14 r4)).bind fun ν19 => some ((-1000100) - r7, ν19))
def m_X9_run (Z : ZT) (this : Nat) (a0 : Int32) (a1 : Int32) (μ : MT) : Option (Int32 × MT) :=
  (some (u2 μ this 0 0)).bind fun ν1 => (m_X9_isSheet Z a0 ν1).bind fun r2 => (if r2 = 0 then some ((-1000001), ν1) else (if (ν1 this 5) = 0 then some ((-1000002), ν1) else (ald Z ν1 (zr Z this 2) a0).bind fun x4 => (if 0 ≤ x4 then (((if a1 < 0 then some (Sum.inr ν1) else (ald Z ν1 (zr Z this 3) a0).bind fun x12 => (if (lg_cmp (((a1 : Int32).toInt64) + ((ν1 this 6 : Int32).toInt64)) ((x12 : Int32).toInt64)) ≤ 0 then (loop (σ := Int32 × Int32) (τ := ((Int32 × MT) ⊕ (MT)) ⊕ (Unit)) (fun (y13, y14) => ((if (ν1 this 6) ≤ y14 then some (Sum.inr (Sum.inr ())) else (ald Z ν1 (zr Z this 4) (((40 * a0) + a1) + y14)).bind fun x41 => (m_X9_in Z ((x41 : Int32).toInt64) 0 (((ν1 this 6) - 1 : Int32).toInt64) ν1).bind fun r42 => (if r42 = 0 then some (Sum.inr (Sum.inl (Sum.inl ((-1000001), ν1)))) else (if ((y13 >>> (x41 &&& 31)) &&& 1) = 1 then some (Sum.inr (Sum.inl (Sum.inl ((-1000001), ν1)))) else (some (y13 ||| (1 <<< (x41 &&& 31)))).bind fun x43 => (some (y14 + 1)).bind fun x44 => some (Sum.inl (x43, x44))))) : Option ((Int32 × Int32) ⊕ (((Int32 × MT) ⊕ (MT)) ⊕ (Unit))))) LN (0, 0)).bind (jn (fun (_ : Unit) => (some (u2 ν1 this 1 0)).bind fun ν20 => (loop (σ := Int32 × MT) (τ := MT) (fun (y21, ν22) => ((if 6 ≤ y21 then some (Sum.inr ν22) else (((if (ν22 this 6) ≤ y21 then some y21 else (ald Z ν22 (zr Z this 4) (((40 * a0) + a1) + y21)).bind fun x39 => some x39) : Option (Int32))).bind (fun z33 => (ast Z ν22 (zr Z this 39) y21 z33).bind fun ν36 => (some (y21 + 1)).bind fun x37 => some (Sum.inl (x37, ν36)))) : Option ((Int32 × MT) ⊕ (MT)))) LN (0, ν20)).bind (fun ν23 => (m_X9_layOpened Z this ν23).bind fun ν28 => (m_X9_go Z this (-1000000) ν28).bind fun ν29 => (m_X9_stand Z this ν29).bind fun ν30 => (m_X9_offBy Z this ν30).bind fun r31 => some (Sum.inl (r31, ν30))))) else some (Sum.inr ν1))) : Option ((Int32 × MT) ⊕ (MT)))).bind (jn (fun ν5 => (m_X9_finding Z this 2 ν5).bind fun (r9, ν10) => some (r9, ν10))) else (m_X9_finding Z this 1 ν1).bind fun (r45, ν46) => some (r45, ν46))))
def m_X9_runs (Z : ZT) (this : Nat) (μ : MT) : Option (Int32 × MT) :=
  (some (u2 μ this 0 0)).bind fun ν1 => (if (ν1 this 5) = 0 then some ((-1000002), ν1) else (m_X9_layNumbers Z this ν1).bind fun ν2 => (m_X9_layOpened Z this ν2).bind fun ν3 => (m_X9_go Z this (-1000000) ν3).bind fun ν4 => (m_X9_stand Z this ν4).bind fun ν5 => (m_X9_offBy Z this ν5).bind fun r6 => some (r6, ν5))
def m_X9_gives (Z : ZT) (this : Nat) (a0 : Int32) (μ : MT) : Option (Int32 × MT) :=
  (some (u2 μ this 0 0)).bind fun ν1 => (m_X9_in Z ((a0 : Int32).toInt64) 0 (((ν1 this 6) - 1 : Int32).toInt64) ν1).bind fun r2 => (if r2 = 0 then some ((-1000001), ν1) else (loop (σ := Int32 × MT) (τ := MT) (fun (y3, ν4) => ((if 6 ≤ y3 then some (Sum.inr ν4) else (ald Z ν4 (zr Z this 30) y3).bind fun x17 => (ast Z ν4 (zr Z this 39) y3 x17).bind fun ν18 => (some (y3 + 1)).bind fun x19 => some (Sum.inl (x19, ν18))) : Option ((Int32 × MT) ⊕ (MT)))) LN (0, ν1)).bind (fun ν5 => (m_X9_layOpened Z this ν5).bind fun ν10 => (m_X9_go Z this (-1000000) ν10).bind fun ν11 => (m_X9_offBy Z this ν11).bind fun r12 => (m_X9_go Z this a0 ν11).bind fun ν13 => (m_X9_offBy Z this ν13).bind fun r14 => some (r12 - r14, ν13)))
def m_X9_best (Z : ZT) (this : Nat) (a0 : Int32) (μ : MT) : Option (Int32 × MT) :=
  (some (u2 μ this 0 0)).bind fun ν1 => (if (-1) ≤ a0 then (if (ν1 this 5) = 0 then some ((-1000002), ν1) else (m_X9_layNumbers Z this ν1).bind fun ν2 => (m_X9_layOpened Z this ν2).bind fun ν3 => (loop (σ := Int32 × Int32 × MT) (τ := Int32 × MT) (fun (y4, y5, ν6) => ((if y5 = 0 then some (Sum.inr (y4, ν6)) else (m_X9_fits Z this ν6).bind fun r18 => (((if r18 = 0 then some (y4, ν6) else (m_X9_go Z this (-1000000) ν6).bind fun ν25 => (m_X9_offBy Z this ν25).bind fun r26 => (((if y4 = (-1000000) then some (Sum.inr ()) else (if y4 ≤ r26 then some (Sum.inl (y4, ν25)) else some (Sum.inr ()))) : Option ((Int32 × MT) ⊕ (Unit)))).bind (jn (fun (_ : Unit) => (loop (σ := Int32 × MT) (τ := MT) (fun (y30, ν31) => ((if 6 ≤ y30 then some (Sum.inr ν31) else (ald Z ν31 (zr Z this 39) y30).bind fun x39 => (ast Z ν31 (zr Z this 40) y30 x39).bind fun ν40 => (some (y30 + 1)).bind fun x41 => some (Sum.inl (x41, ν40))) : Option ((Int32 × MT) ⊕ (MT)))) LN (0, ν25)).bind (fun ν32 => some (r26, ν32))))) : Option (Int32 × MT))).bind (fun (y19, ν20) => (m_X9_nextOrder Z this ν20).bind fun (r23, ν24) => some (Sum.inl (y19, r23, ν24)))) : Option ((Int32 × Int32 × MT) ⊕ (Int32 × MT)))) LN ((-1000000), 1, ν3)).bind (fun (y7, ν8) => (if a0 = (-1) then some (y7, ν8) else (((if y7 = (-1000000) then some (Sum.inr ()) else (if a0 < (ν8 this 6) then (ald Z ν8 (zr Z this 40) a0).bind fun x17 => some (Sum.inl (x17, ν8)) else some (Sum.inr ()))) : Option ((Int32 × MT) ⊕ (Unit)))).bind (jn (fun (_ : Unit) => some ((-1000000), ν8)))))) else some ((-1000001), ν1))
def m_X9_setBy (Z : ZT) (this : Nat) (a0 : Int32) (μ : MT) : Option (Int32 × MT) :=
  (loop (σ := Int32 × MT) (τ := (Int32 × MT) ⊕ (MT)) (fun (y1, ν2) => ((if 41 ≤ y1 then some (Sum.inr (Sum.inr ν2)) else (loop (σ := Int32 × MT) (τ := ((Int32 × MT) ⊕ ((Int32 × MT) ⊕ (MT))) ⊕ (MT)) (fun (y9, ν10) => ((if 2 ≤ y9 then some (Sum.inr (Sum.inr ν10)) else (ast Z ν10 (zr Z this 38) a0 (y9 * y1)).bind fun ν19 => (m_X9_go Z this (-1000000) ν19).bind fun ν20 => (ald Z ν20 (zr Z this 32) (24 + a0)).bind fun x22 => (if x22 = 0 then some (Sum.inr (Sum.inl (Sum.inr (Sum.inl (y9 * y1, ν20))))) else (some (y9 + 2)).bind fun x23 => some (Sum.inl (x23, ν20)))) : Option ((Int32 × MT) ⊕ (((Int32 × MT) ⊕ ((Int32 × MT) ⊕ (MT))) ⊕ (MT))))) LN ((-1), ν2)).bind (jn (fun ν11 => (some (y1 + 1)).bind fun x17 => some (Sum.inl (x17, ν11))))) : Option ((Int32 × MT) ⊕ ((Int32 × MT) ⊕ (MT))))) LN (0, μ)).bind (jn (fun ν3 => some ((-1000000), ν3)))
def m_X9_beforehand (Z : ZT) (this : Nat) (a0 : Int32) (μ : MT) : Option (Int32 × MT) :=
  (some (u2 μ this 0 0)).bind fun ν1 => (m_X9_isCell Z this a0 ν1).bind fun r2 => (if r2 = 0 then some ((-1000001), ν1) else (m_X9_layNumbers Z this ν1).bind fun ν3 => (m_X9_layOpened Z this ν3).bind fun ν4 => (loop (σ := Int32 × Int32 × MT) (τ := Int32 × MT) (fun (y5, y6, ν7) => ((if a0 < y6 then some (Sum.inr (y5, ν7)) else (if y5 = (-1000000) then some (Sum.inr (y5, ν7)) else (m_X9_setBy Z this y6 ν7).bind fun (r14, ν15) => (some (y6 + 1)).bind fun x16 => some (Sum.inl (r14, x16, ν15)))) : Option ((Int32 × Int32 × MT) ⊕ (Int32 × MT)))) LN (0, 0, ν4)).bind (fun (y8, ν9) => some (y8, ν9)))
def m_X0_asked (gv : Nat → Nat → Int32 → Int32 → Int32 → MT → Option (Int32 × MT)) (Z : ZT) (this : Nat) (a0 : Nat) (a1 : Int32) (a2 : Int32) (a3 : Int32) (μ : MT) : Option (Int32 × MT) :=
  (m_X3_stepKind Z a0 a1 μ).bind fun r1 => (m_X0_bodyFor Z r1 a2 μ).bind fun r2 => (gv this a0 a1 r2 (a3 + 1) μ).bind fun (r3, ν4) => some (r3, ν4)
def m_X0_given (Z : ZT) : Nat → Nat → Nat → Int32 → Int32 → Int32 → MT → Option (Int32 × MT)
  | 0, _, _, _, _, _, _ => none
  | n + 1, this, a0, a1, a2, a3, μ => (if a3 ≤ 16 then (m_X0_leave Z this a2 μ).bind fun ν1 => (if a2 = 10 then (ald Z ν1 (zr Z a0 6) a1).bind fun x4 => some (x4, ν1) else if a2 = 11 then (m_X0_given Z n this a0 a1 10 (a3 + 1) ν1).bind fun (r6, ν7) => (m_X0_asked (m_X0_given Z n) Z this a0 a1 1 (a3 + 1) ν7).bind fun (r8, ν9) => some (r6 + r8, ν9) else if a2 = 12 then (m_X0_given Z n this a0 a1 11 (a3 + 1) ν1).bind fun (r11, ν12) => some (r11 - 1, ν12) else if a2 = 13 then (m_X0_given Z n this a0 a1 12 (a3 + 1) ν1).bind fun (r14, ν15) => some (2 * r14, ν15) else if a2 = 14 then (m_X0_given Z n this a0 a1 10 (a3 + 1) ν1).bind fun (r17, ν18) => some (-r17, ν18) else if a2 = 20 then some (a1, ν1) else if a2 = 21 then (m_X0_given Z n this a0 a1 20 (a3 + 1) ν1).bind fun (r21, ν22) => some (r21 + 100, ν22) else if a2 = 22 then (m_X0_given Z n this a0 a1 20 (a3 + 1) ν1).bind fun (r24, ν25) => some (-r24, ν25) else if a2 = 23 then (m_X0_given Z n this a0 a1 20 (a3 + 1) ν1).bind fun (r27, ν28) => (m_X0_asked (m_X0_given Z n) Z this a0 a1 0 (a3 + 1) ν28).bind fun (r29, ν30) => some (r27 + r29, ν30) else some (0, ν1)) else some (0, μ))
def m_X0_answerOf (Z : ZT) (this : Nat) (a0 : Nat) (a1 : Int32) (a2 : Int32) (μ : MT) : Option (Int32 × MT) :=
  (some (u2 μ this 1 0)).bind fun ν1 => (m_X0_asked (m_X0_given Z 20) Z this a0 a1 a2 0 ν1).bind fun (r2, ν3) => some (r2, ν3)
def m_X8_ask (Z : ZT) (zn : Nat) (this : Nat) (a0 : Int32) (a1 : Int32) (μ : MT) : Option (Int32 × MT) :=
  (mrd Z zn 3 (μ this 11)).bind fun q1 => (m_X3_isStep Z q1 a0 μ).bind fun r3 => (if r3 = 0 then some ((-1000001), μ) else (((if a1 = 0 then some (Sum.inr ()) else (if a1 = 1 then some (Sum.inr ()) else some (Sum.inl ((-1000001), μ)))) : Option ((Int32 × MT) ⊕ (Unit)))).bind (jn (fun (_ : Unit) => (mrd Z zn 3 (μ this 11)).bind fun q8 => (m_X0_answerOf Z (zr Z this 10) q8 a0 a1 μ).bind fun (r10, ν11) => some (r10, ν11))))
def scl (ss : Nat → Int32) (L : Nat) (i : Int32) : Option Int32 := if inb i L then some (ss i.toNatClampNeg) else none
/-- the memory before anything is made -/
def Zst : ZT := (fun k => if 1000 ≤ k ∧ k < 1004 then 20 else 99, fun k => (roT.getD (k - 1000) []).length, fun _ _ => 999)
def μst : MT := fun k j => roR (k - 1000) j
def σst : NS := (0, Zst, μst)
abbrev Zf : ZT := (c_L_law σst).2.1
abbrev μf : MT := (c_L_law σst).2.2
def lawB (ss : Nat → Int32) (L : Nat) : Int32 × MT → Option ((Int32 × MT) ⊕ ((Int32 × MT) ⊕ MT)) := (fun (y1, ν2) => ((if ((Int32.ofNat L) - 6) < y1 then some (Sum.inr (Sum.inr ν2)) else (scl ss L y1).bind fun x9 => (((if (x9 &&& 31) = 0 then (scl ss L (y1 + 1)).bind fun x16 => (scl ss L (y1 + 2)).bind fun x17 => (scl ss L (y1 + 3)).bind fun x18 => (m_X8_sheet Zf 0 x16 x17 x18 ν2).bind fun (r19, ν20) => (scl ss L (y1 + 1)).bind fun x21 => (scl ss L (y1 + 2)).bind fun x22 => (scl ss L (y1 + 3)).bind fun x23 => (m_X9_sheet Zf 106 x21 x22 x23 ν20).bind fun (r24, ν25) => (if r19 = r24 then some (Sum.inr ν25) else some (Sum.inl (Sum.inr (Sum.inl (0, ν25))))) else if (x9 &&& 31) = 1 then (scl ss L (y1 + 1)).bind fun x27 => (scl ss L (y1 + 2)).bind fun x28 => (scl ss L (y1 + 3)).bind fun x29 => (m_X8_set Zf 0 x27 x28 x29 ν2).bind fun (r30, ν31) => (scl ss L (y1 + 1)).bind fun x32 => (scl ss L (y1 + 2)).bind fun x33 => (scl ss L (y1 + 3)).bind fun x34 => (m_X9_set Zf 106 x32 x33 x34 ν31).bind fun (r35, ν36) => (if r30 = r35 then some (Sum.inr ν36) else some (Sum.inl (Sum.inr (Sum.inl (0, ν36))))) else if (x9 &&& 31) = 2 then (scl ss L (y1 + 1)).bind fun x38 => (scl ss L (y1 + 2)).bind fun x39 => (scl ss L (y1 + 3)).bind fun x40 => (scl ss L (y1 + 4)).bind fun x41 => (scl ss L (y1 + 5)).bind fun x42 => (m_X8_copy Zf 0 x38 x39 x40 x41 x42 ν2).bind fun (r43, ν44) => (scl ss L (y1 + 1)).bind fun x45 => (scl ss L (y1 + 2)).bind fun x46 => (scl ss L (y1 + 3)).bind fun x47 => (scl ss L (y1 + 4)).bind fun x48 => (scl ss L (y1 + 5)).bind fun x49 => (m_X9_copy Zf 106 x45 x46 x47 x48 x49 ν44).bind fun (r50, ν51) => (if r43 = r50 then some (Sum.inr ν51) else some (Sum.inl (Sum.inr (Sum.inl (0, ν51))))) else if (x9 &&& 31) = 3 then (scl ss L (y1 + 1)).bind fun x53 => (m_X8_drop Zf 0 x53 ν2).bind fun (r54, ν55) => (scl ss L (y1 + 1)).bind fun x56 => (m_X9_drop Zf 106 x56 ν55).bind fun (r57, ν58) => (if r54 = r57 then some (Sum.inr ν58) else some (Sum.inl (Sum.inr (Sum.inl (0, ν58))))) else if (x9 &&& 31) = 4 then (scl ss L (y1 + 1)).bind fun x60 => (scl ss L (y1 + 2)).bind fun x61 => (scl ss L (y1 + 3)).bind fun x62 => (m_X8_feed Zf 0 ((((x60 : Int32).toInt64) <<< ((32 : Int32).toInt64 &&& 63)) ||| (((x61 : Int32).toInt64) &&& 4294967295)) x62 ν2).bind fun (r63, ν64) => (scl ss L (y1 + 1)).bind fun x65 => (scl ss L (y1 + 2)).bind fun x66 => (scl ss L (y1 + 3)).bind fun x67 => (m_X9_feed Zf 106 ((((x65 : Int32).toInt64) <<< ((32 : Int32).toInt64 &&& 63)) ||| (((x66 : Int32).toInt64) &&& 4294967295)) x67 ν64).bind fun (r68, ν69) => (if r63 = r68 then some (Sum.inr ν69) else some (Sum.inl (Sum.inr (Sum.inl (0, ν69))))) else if (x9 &&& 31) = 5 then (m_X8_plan Zf 127 0 ν2).bind fun (r71, ν72) => (m_X9_plan Zf 106 ν72).bind fun (r73, ν74) => (if r71 = r73 then some (Sum.inr ν74) else some (Sum.inl (Sum.inr (Sum.inl (0, ν74))))) else if (x9 &&& 31) = 6 then (m_X8_fault Zf 0 ν2).bind fun r76 => (m_X9_fault Zf 106 ν2).bind fun (r77, ν78) => (if r76 = r77 then some (Sum.inr ν78) else some (Sum.inl (Sum.inr (Sum.inl (0, ν78))))) else if (x9 &&& 31) = 7 then (scl ss L (y1 + 1)).bind fun x80 => (scl ss L (y1 + 2)).bind fun x81 => (m_X8_act Zf 127 0 x80 x81 ν2).bind fun r82 => (scl ss L (y1 + 1)).bind fun x83 => (scl ss L (y1 + 2)).bind fun x84 => (m_X9_act Zf 106 x83 x84 ν2).bind fun (r85, ν86) => (if r82 = r85 then some (Sum.inr ν86) else some (Sum.inl (Sum.inr (Sum.inl (0, ν86))))) else if (x9 &&& 31) = 8 then (scl ss L (y1 + 1)).bind fun x88 => (scl ss L (y1 + 2)).bind fun x89 => (m_X8_open Zf 127 0 x88 x89 ν2).bind fun (r90, ν91) => (scl ss L (y1 + 1)).bind fun x92 => (scl ss L (y1 + 2)).bind fun x93 => (m_X9_open Zf 106 x92 x93 ν91).bind fun (r94, ν95) => (if r90 = r94 then some (Sum.inr ν95) else some (Sum.inl (Sum.inr (Sum.inl (0, ν95))))) else if (x9 &&& 31) = 9 then (scl ss L (y1 + 1)).bind fun x97 => (scl ss L (y1 + 2)).bind fun x98 => (m_X8_run Zf 127 0 x97 x98 ν2).bind fun (r99, ν100) => (scl ss L (y1 + 1)).bind fun x101 => (scl ss L (y1 + 2)).bind fun x102 => (m_X9_run Zf 106 x101 x102 ν100).bind fun (r103, ν104) => (if r99 = r103 then some (Sum.inr ν104) else some (Sum.inl (Sum.inr (Sum.inl (0, ν104))))) else if (x9 &&& 31) = 10 then (m_X8_runs Zf 127 0 ν2).bind fun (r106, ν107) => (m_X9_runs Zf 106 ν107).bind fun (r108, ν109) => (if r106 = r108 then some (Sum.inr ν109) else some (Sum.inl (Sum.inr (Sum.inl (0, ν109))))) else if (x9 &&& 31) = 11 then (scl ss L (y1 + 1)).bind fun x111 => (scl ss L (y1 + 2)).bind fun x112 => (m_X8_cell Zf 127 0 x111 x112 ν2).bind fun (r113, ν114) => (scl ss L (y1 + 1)).bind fun x115 => (scl ss L (y1 + 2)).bind fun x116 => (m_X9_cell Zf 106 x115 x116 ν114).bind fun (r117, ν118) => (if r113 = r117 then some (Sum.inr ν118) else some (Sum.inl (Sum.inr (Sum.inl (0, ν118))))) else if (x9 &&& 31) = 12 then (scl ss L (y1 + 1)).bind fun x120 => (m_X8_height Zf 127 0 x120 ν2).bind fun r121 => (scl ss L (y1 + 1)).bind fun x122 => (m_X9_height Zf 106 x122 ν2).bind fun (r123, ν124) => (if r121 = r123 then some (Sum.inr ν124) else some (Sum.inl (Sum.inr (Sum.inl (0, ν124))))) else if (x9 &&& 31) = 13 then (m_X8_minutes Zf 0 ν2).bind fun r126 => (m_X9_minutes Zf 106 ν2).bind fun (r127, ν128) => (if r126 = r127 then some (Sum.inr ν128) else some (Sum.inl (Sum.inr (Sum.inl (0, ν128))))) else if (x9 &&& 31) = 14 then (scl ss L (y1 + 1)).bind fun x130 => (m_X8_gives Zf 127 0 x130 ν2).bind fun (r131, ν132) => (scl ss L (y1 + 1)).bind fun x133 => (m_X9_gives Zf 106 x133 ν132).bind fun (r134, ν135) => (if r131 = r134 then some (Sum.inr ν135) else some (Sum.inl (Sum.inr (Sum.inl (0, ν135))))) else if (x9 &&& 31) = 15 then (scl ss L (y1 + 1)).bind fun x137 => (m_X8_best Zf 127 0 x137 ν2).bind fun (r138, ν139) => (scl ss L (y1 + 1)).bind fun x140 => (m_X9_best Zf 106 x140 ν139).bind fun (r141, ν142) => (if r138 = r141 then some (Sum.inr ν142) else some (Sum.inl (Sum.inr (Sum.inl (0, ν142))))) else if (x9 &&& 31) = 16 then (m_X8_orders Zf 127 0 ν2).bind fun (r144, ν145) => (m_X9_orders Zf 106 ν145).bind fun (r146, ν147) => (if r144 = r146 then some (Sum.inr ν147) else some (Sum.inl (Sum.inr (Sum.inl (0, ν147))))) else if (x9 &&& 31) = 17 then (scl ss L (y1 + 1)).bind fun x149 => (m_X8_beforehand Zf 127 0 x149 ν2).bind fun (r150, ν151) => (scl ss L (y1 + 1)).bind fun x152 => (m_X9_beforehand Zf 106 x152 ν151).bind fun (r153, ν154) => (if r150 = r153 then some (Sum.inr ν154) else some (Sum.inl (Sum.inr (Sum.inl (0, ν154))))) else if (x9 &&& 31) = 18 then (scl ss L (y1 + 1)).bind fun x156 => (scl ss L (y1 + 2)).bind fun x157 => (m_X8_spots Zf 127 0 x156 x157 ν2).bind fun (r158, ν159) => (scl ss L (y1 + 1)).bind fun x160 => (scl ss L (y1 + 2)).bind fun x161 => (m_X9_spots Zf 106 x160 x161 ν159).bind fun (r162, ν163) => (if r158 = r162 then some (Sum.inr ν163) else some (Sum.inl (Sum.inr (Sum.inl (0, ν163))))) else if (x9 &&& 31) = 19 then (scl ss L (y1 + 1)).bind fun x165 => (m_X8_crack Zf 0 x165 ν2).bind fun r166 => (scl ss L (y1 + 1)).bind fun x167 => (m_X9_crack Zf 106 x167 ν2).bind fun (r168, ν169) => (if r166 = r168 then some (Sum.inr ν169) else some (Sum.inl (Sum.inr (Sum.inl (0, ν169))))) else if (x9 &&& 31) = 20 then (m_X8_warm Zf 127 0 ν2).bind fun r171 => (m_X9_warm Zf 106 ν2).bind fun (r172, ν173) => (if r171 = r172 then some (Sum.inr ν173) else some (Sum.inl (Sum.inr (Sum.inl (0, ν173))))) else if (x9 &&& 31) = 21 then (scl ss L (y1 + 1)).bind fun x175 => (scl ss L (y1 + 2)).bind fun x176 => (scl ss L (y1 + 3)).bind fun x177 => (m_X8_wire Zf 127 0 x175 x176 x177 ν2).bind fun (r178, ν179) => (scl ss L (y1 + 1)).bind fun x180 => (scl ss L (y1 + 2)).bind fun x181 => (scl ss L (y1 + 3)).bind fun x182 => (m_X9_wire Zf 106 x180 x181 x182 ν179).bind fun (r183, ν184) => (if r178 = r183 then some (Sum.inr ν184) else some (Sum.inl (Sum.inr (Sum.inl (0, ν184))))) else if (x9 &&& 31) = 22 then (scl ss L (y1 + 1)).bind fun x186 => (m_X8_kind Zf 127 0 x186 ν2).bind fun r187 => (scl ss L (y1 + 1)).bind fun x188 => (m_X9_kind Zf 106 x188 ν2).bind fun (r189, ν190) => (if r187 = r189 then some (Sum.inr ν190) else some (Sum.inl (Sum.inr (Sum.inl (0, ν190))))) else if (x9 &&& 31) = 23 then (scl ss L (y1 + 1)).bind fun x192 => (scl ss L (y1 + 2)).bind fun x193 => (m_X8_as Zf 127 0 x192 x193 ν2).bind fun (r194, ν195) => (scl ss L (y1 + 1)).bind fun x196 => (scl ss L (y1 + 2)).bind fun x197 => (m_X9_as Zf 106 x196 x197 ν195).bind fun (r198, ν199) => (if r194 = r198 then some (Sum.inr ν199) else some (Sum.inl (Sum.inr (Sum.inl (0, ν199))))) else if (x9 &&& 31) = 24 then (scl ss L (y1 + 1)).bind fun x201 => (scl ss L (y1 + 2)).bind fun x202 => (m_X8_ask Zf 127 0 x201 x202 ν2).bind fun (r203, ν204) => (scl ss L (y1 + 1)).bind fun x205 => (scl ss L (y1 + 2)).bind fun x206 => (m_X9_ask Zf 106 x205 x206 ν204).bind fun (r207, ν208) => (if r203 = r207 then some (Sum.inr ν208) else some (Sum.inl (Sum.inr (Sum.inl (0, ν208))))) else if (x9 &&& 31) = 25 then (scl ss L (y1 + 1)).bind fun x210 => (m_X8_trace Zf 0 x210 ν2).bind fun r211 => (scl ss L (y1 + 1)).bind fun x212 => (m_X9_trace Zf 106 x212 ν2).bind fun (r213, ν214) => (if r211 = r213 then some (Sum.inr ν214) else some (Sum.inl (Sum.inr (Sum.inl (0, ν214))))) else if (x9 &&& 31) = 26 then (scl ss L (y1 + 1)).bind fun x216 => (m_X8_count Zf 127 0 x216 ν2).bind fun r217 => (scl ss L (y1 + 1)).bind fun x218 => (m_X9_count Zf 106 x218 ν2).bind fun (r219, ν220) => (if r217 = r219 then some (Sum.inr ν220) else some (Sum.inl (Sum.inr (Sum.inl (0, ν220))))) else if (x9 &&& 31) = 27 then (m_X8_status Zf 0 ν2).bind fun r222 => (m_X9_status Zf 106 ν2).bind fun (r223, ν224) => (if r222 = r223 then some (Sum.inr ν224) else some (Sum.inl (Sum.inr (Sum.inl (0, ν224))))) else some (Sum.inr ν2)) : Option (((Int32 × MT) ⊕ ((Int32 × MT) ⊕ (MT))) ⊕ (MT)))).bind (jn (fun ν10 => (some (y1 + 6)).bind fun x14 => some (Sum.inl (x14, ν10))))) : Option ((Int32 × MT) ⊕ ((Int32 × MT) ⊕ (MT)))))
def OkI (Inv : MT → Prop) (c : Option (Int32 × MT)) (r : MT → Option (Int32 × MT)) : Prop := ∃ a μ1 μ2, c = some (a, μ1) ∧ r μ1 = some (a, μ2) ∧ Inv μ2
def OkR (Inv : MT → Prop) (c : Option Int32) (r : Option (Int32 × MT)) : Prop := ∃ a μ2, c = some a ∧ r = some (a, μ2) ∧ Inv μ2
/-- every call answers alike and keeps the invariant -/
def Ops (Inv : MT → Prop) : Prop := ∀ ν, Inv ν → (∀ a0 a1 a2 : Int32, OkI Inv (m_X8_sheet Zf 0 a0 a1 a2 ν) (fun μ => m_X9_sheet Zf 106 a0 a1 a2 μ)) ∧ (∀ a0 a1 a2 : Int32, OkI Inv (m_X8_set Zf 0 a0 a1 a2 ν) (fun μ => m_X9_set Zf 106 a0 a1 a2 μ)) ∧ (∀ a0 a1 a2 a3 a4 : Int32, OkI Inv (m_X8_copy Zf 0 a0 a1 a2 a3 a4 ν) (fun μ => m_X9_copy Zf 106 a0 a1 a2 a3 a4 μ)) ∧ (∀ a0 : Int32, OkI Inv (m_X8_drop Zf 0 a0 ν) (fun μ => m_X9_drop Zf 106 a0 μ)) ∧ (∀ a0 a1 a2 : Int32, OkI Inv (m_X8_feed Zf 0 ((((a0 : Int32).toInt64) <<< ((32 : Int32).toInt64 &&& 63)) ||| (((a1 : Int32).toInt64) &&& 4294967295)) a2 ν) (fun μ => m_X9_feed Zf 106 ((((a0 : Int32).toInt64) <<< ((32 : Int32).toInt64 &&& 63)) ||| (((a1 : Int32).toInt64) &&& 4294967295)) a2 μ)) ∧ (OkI Inv (m_X8_plan Zf 127 0 ν) (fun μ => m_X9_plan Zf 106 μ)) ∧ (OkR Inv (m_X8_fault Zf 0 ν) (m_X9_fault Zf 106 ν)) ∧ (∀ a0 a1 : Int32, OkR Inv (m_X8_act Zf 127 0 a0 a1 ν) (m_X9_act Zf 106 a0 a1 ν)) ∧ (∀ a0 a1 : Int32, OkI Inv (m_X8_open Zf 127 0 a0 a1 ν) (fun μ => m_X9_open Zf 106 a0 a1 μ)) ∧ (∀ a0 a1 : Int32, OkI Inv (m_X8_run Zf 127 0 a0 a1 ν) (fun μ => m_X9_run Zf 106 a0 a1 μ)) ∧ (OkI Inv (m_X8_runs Zf 127 0 ν) (fun μ => m_X9_runs Zf 106 μ)) ∧ (∀ a0 a1 : Int32, OkI Inv (m_X8_cell Zf 127 0 a0 a1 ν) (fun μ => m_X9_cell Zf 106 a0 a1 μ)) ∧ (∀ a0 : Int32, OkR Inv (m_X8_height Zf 127 0 a0 ν) (m_X9_height Zf 106 a0 ν)) ∧ (OkR Inv (m_X8_minutes Zf 0 ν) (m_X9_minutes Zf 106 ν)) ∧ (∀ a0 : Int32, OkI Inv (m_X8_gives Zf 127 0 a0 ν) (fun μ => m_X9_gives Zf 106 a0 μ)) ∧ (∀ a0 : Int32, OkI Inv (m_X8_best Zf 127 0 a0 ν) (fun μ => m_X9_best Zf 106 a0 μ)) ∧ (OkI Inv (m_X8_orders Zf 127 0 ν) (fun μ => m_X9_orders Zf 106 μ)) ∧ (∀ a0 : Int32, OkI Inv (m_X8_beforehand Zf 127 0 a0 ν) (fun μ => m_X9_beforehand Zf 106 a0 μ)) ∧ (∀ a0 a1 : Int32, OkI Inv (m_X8_spots Zf 127 0 a0 a1 ν) (fun μ => m_X9_spots Zf 106 a0 a1 μ)) ∧ (∀ a0 : Int32, OkR Inv (m_X8_crack Zf 0 a0 ν) (m_X9_crack Zf 106 a0 ν)) ∧ (OkR Inv (m_X8_warm Zf 127 0 ν) (m_X9_warm Zf 106 ν)) ∧ (∀ a0 a1 a2 : Int32, OkI Inv (m_X8_wire Zf 127 0 a0 a1 a2 ν) (fun μ => m_X9_wire Zf 106 a0 a1 a2 μ)) ∧ (∀ a0 : Int32, OkR Inv (m_X8_kind Zf 127 0 a0 ν) (m_X9_kind Zf 106 a0 ν)) ∧ (∀ a0 a1 : Int32, OkI Inv (m_X8_as Zf 127 0 a0 a1 ν) (fun μ => m_X9_as Zf 106 a0 a1 μ)) ∧ (∀ a0 a1 : Int32, OkI Inv (m_X8_ask Zf 127 0 a0 a1 ν) (fun μ => m_X9_ask Zf 106 a0 a1 μ)) ∧ (∀ a0 : Int32, OkR Inv (m_X8_trace Zf 0 a0 ν) (m_X9_trace Zf 106 a0 ν)) ∧ (∀ a0 : Int32, OkR Inv (m_X8_count Zf 127 0 a0 ν) (m_X9_count Zf 106 a0 ν)) ∧ (OkR Inv (m_X8_status Zf 0 ν) (m_X9_status Zf 106 ν))
end
section
/-! ===== the fixed shape of the memory, as facts ===== -/
theorem exZ : ∃ Z : ZT, Z = Zf := ⟨Zf, rfl⟩
noncomputable def Zc : ZT := Classical.choose exZ
theorem Zc_eq : Zc = Zf := Classical.choose_spec exZ
theorem zA : zr Zc 0 0 = 1 ∧ zr Zc 0 1 = 13 ∧ zr Zc 0 2 = 15 ∧ zr Zc 0 3 = 16 ∧ zr Zc 0 4 = 17 ∧ zr Zc 0 5 = 18 ∧ zr Zc 0 6 = 19 ∧ zr Zc 0 7 = 26 ∧ zr Zc 0 8 = 33 ∧ zr Zc 0 9 = 87 ∧ zr Zc 0 10 = 90 ∧ zr Zc 1 0 = 2 ∧ zr Zc 1 1 = 3 ∧ zr Zc 1 2 = 4 ∧ zr Zc 13 0 = 14 ∧ zr Zc 15 0 = 13 ∧ zr Zc 33 0 = 34 ∧ zr Zc 33 1 = 35 ∧ zr Zc 33 2 = 36 ∧ zr Zc 33 3 = 37 ∧ zr Zc 87 0 = 88 ∧ zr Zc 87 1 = 89 ∧ zr Zc 90 0 = 91 ∧ zr Zc 106 2 = 107 ∧ zr Zc 106 3 = 108 ∧ zr Zc 106 4 = 109 ∧ zr Zc 106 9 = 110 ∧ zr Zc 106 10 = 111 ∧ zr Zc 106 11 = 112 ∧ zr Zc 106 16 = 113 ∧ zr Zc 106 17 = 114 ∧ zr Zc 106 18 = 115 ∧ zr Zc 106 19 = 116 ∧ zr Zc 106 29 = 117 ∧ zr Zc 106 30 = 118 ∧ zr Zc 106 32 = 119 ∧ zr Zc 106 33 = 120 ∧ zr Zc 106 34 = 121 ∧ zr Zc 106 36 = 122 ∧ zr Zc 106 38 = 123 ∧ zr Zc 106 39 = 124 ∧ zr Zc 106 40 = 125 ∧ zr Zc 106 41 = 126 ∧ zl Zc 2 = 8 ∧ zl Zc 3 = 8 ∧ zl Zc 4 = 8 ∧ zl Zc 5 = 40 ∧ zl Zc 6 = 40 ∧ zl Zc 7 = 40 ∧ zl Zc 8 = 40 ∧ zl Zc 9 = 40 ∧ zl Zc 10 = 40 ∧ zl Zc 11 = 40 ∧ zl Zc 12 = 40 ∧ zl Zc 14 = 500 ∧ zl Zc 16 = 12 ∧ zl Zc 17 = 6 ∧ zl Zc 18 = 12 ∧ zl Zc 34 = 7 ∧ zl Zc 35 = 6 ∧ zl Zc 36 = 6 ∧ zl Zc 37 = 64 ∧ zl Zc 88 = 12 ∧ zl Zc 89 = 12 ∧ zl Zc 91 = 16 ∧ zl Zc 107 = 8 ∧ zl Zc 108 = 8 ∧ zl Zc 109 = 320 ∧ zl Zc 110 = 160 ∧ zl Zc 111 = 10 ∧ zl Zc 112 = 10 ∧ zl Zc 113 = 160 ∧ zl Zc 114 = 10 ∧ zl Zc 115 = 10 ∧ zl Zc 116 = 500 ∧ zl Zc 117 = 12 ∧ zl Zc 118 = 6 ∧ zl Zc 119 = 48 ∧ zl Zc 120 = 12 ∧ zl Zc 121 = 12 ∧ zl Zc 122 = 48 ∧ zl Zc 123 = 12 ∧ zl Zc 124 = 6 ∧ zl Zc 125 = 6 ∧ zl Zc 126 = 16 ∧ zl Zc 1000 = 6 ∧ zl Zc 1001 = 8 ∧ zl Zc 1002 = 8 ∧ zl Zc 1003 = 8 := by rw [Zc_eq]; and_intros <;> decide +kernel
def isPn (b : Nat) : Prop := b = 19 ∨ b = 26 ∨ b = 38 ∨ b = 45 ∨ b = 52 ∨ b = 59 ∨ b = 66 ∨ b = 73 ∨ b = 80
def isPl (p : Nat) : Prop := p = 92 ∨ p = 99
theorem zp_0 {b : Nat} (h : isPn b) : zr Zc b 0 = b + 1 := by
  rcases h with rfl | rfl | rfl | rfl | rfl | rfl | rfl | rfl | rfl <;> (rw [Zc_eq]; decide +kernel)
theorem zp_1 {b : Nat} (h : isPn b) : zr Zc b 1 = b + 2 := by
  rcases h with rfl | rfl | rfl | rfl | rfl | rfl | rfl | rfl | rfl <;> (rw [Zc_eq]; decide +kernel)
theorem zp_2 {b : Nat} (h : isPn b) : zr Zc b 2 = b + 3 := by
  rcases h with rfl | rfl | rfl | rfl | rfl | rfl | rfl | rfl | rfl <;> (rw [Zc_eq]; decide +kernel)
theorem zp_3 {b : Nat} (h : isPn b) : zr Zc b 3 = b + 4 := by
  rcases h with rfl | rfl | rfl | rfl | rfl | rfl | rfl | rfl | rfl <;> (rw [Zc_eq]; decide +kernel)
theorem zp_4 {b : Nat} (h : isPn b) : zr Zc b 4 = b + 5 := by
  rcases h with rfl | rfl | rfl | rfl | rfl | rfl | rfl | rfl | rfl <;> (rw [Zc_eq]; decide +kernel)
theorem zp_5 {b : Nat} (h : isPn b) : zr Zc b 5 = b + 6 := by
  rcases h with rfl | rfl | rfl | rfl | rfl | rfl | rfl | rfl | rfl <;> (rw [Zc_eq]; decide +kernel)
theorem zpl {b : Nat} (h : isPn b) : zl Zc (b + 1) = 12 ∧ zl Zc (b + 2) = 12 ∧ zl Zc (b + 3) = 12 ∧ zl Zc (b + 4) = 12 ∧ zl Zc (b + 5) = 12 ∧ zl Zc (b + 6) = 12 := by
  rcases h with rfl | rfl | rfl | rfl | rfl | rfl | rfl | rfl | rfl <;> (rw [Zc_eq]; decide +kernel)
theorem zq_4 {p : Nat} (h : isPl p) : zr Zc p 4 = p + 1 := by
  rcases h with rfl | rfl <;> (rw [Zc_eq]; decide +kernel)
theorem zq_5 {p : Nat} (h : isPl p) : zr Zc p 5 = p + 2 := by
  rcases h with rfl | rfl <;> (rw [Zc_eq]; decide +kernel)
theorem zq_6 {p : Nat} (h : isPl p) : zr Zc p 6 = p + 3 := by
  rcases h with rfl | rfl <;> (rw [Zc_eq]; decide +kernel)
theorem zq_7 {p : Nat} (h : isPl p) : zr Zc p 7 = p + 4 := by
  rcases h with rfl | rfl <;> (rw [Zc_eq]; decide +kernel)
theorem zq_8 {p : Nat} (h : isPl p) : zr Zc p 8 = p + 5 := by
  rcases h with rfl | rfl <;> (rw [Zc_eq]; decide +kernel)
theorem zq_9 {p : Nat} (h : isPl p) : zr Zc p 9 = p + 6 := by
  rcases h with rfl | rfl <;> (rw [Zc_eq]; decide +kernel)
theorem zql {p : Nat} (h : isPl p) : zl Zc (p + 1) = 40 ∧ zl Zc (p + 2) = 40 ∧ zl Zc (p + 3) = 40 ∧ zl Zc (p + 4) = 40 ∧ zl Zc (p + 5) = 6 ∧ zl Zc (p + 6) = 6 := by
  rcases h with rfl | rfl <;> (rw [Zc_eq]; decide +kernel)
theorem zq_k {p : Nat} (h : isPl p) : zk Zc p = 3 ∧ p < 127 := by
  rcases h with rfl | rfl <;> (rw [Zc_eq]; decide +kernel)
theorem zr_4 {s : Nat} (h : s < 8) : zr Zc 4 s = 5 + s := by
  have := (by rw [Zc_eq]; decide +kernel : ∀ s, s < 8 → zr Zc 4 s = 5 + s)
  exact this s h
theorem zl_5s {s : Nat} (h : s < 8) : zl Zc (5 + s) = 40 := by
  have := (by rw [Zc_eq]; decide +kernel : ∀ s, s < 8 → zl Zc (5 + s) = 40)
  exact this s h
theorem zr_34 {d : Nat} (h : d < 7) : zr Zc 34 d = 38 + 7 * d := by
  have := (by rw [Zc_eq]; decide +kernel : ∀ s, s < 7 → zr Zc 34 s = 38 + 7 * s)
  exact this d h
theorem isPn_d {d : Nat} (h : d < 7) : isPn (38 + 7 * d) := by unfold isPn; omega
theorem isPn_le {b : Nat} (h : isPn b) : 19 ≤ b ∧ b ≤ 80 := by unfold isPn at h; omega
theorem isPl_le {p : Nat} (h : isPl p) : 92 ≤ p ∧ p ≤ 99 := by unfold isPl at h; omega
end
section
/-! ===== small facts: numbers, bits, loops ===== -/
theorem fa_lt (a b : Int32) : a < b ↔ a.toInt < b.toInt := Int32.lt_iff_toInt_lt
theorem fa_le (a b : Int32) : a ≤ b ↔ a.toInt ≤ b.toInt := Int32.le_iff_toInt_le
theorem fa_eq (a b : Int32) : a = b ↔ a.toInt = b.toInt := Int32.toInt_inj.symm
theorem fa_lt64 (a b : Int64) : a < b ↔ a.toInt < b.toInt := Int64.lt_iff_toInt_lt
theorem fa_le64 (a b : Int64) : a ≤ b ↔ a.toInt ≤ b.toInt := Int64.le_iff_toInt_le
theorem ti_n {n : Nat} (h : n < 2 ^ 31) : (nI n).toInt = n := by
  unfold nI
  rw [Int32.toInt_ofNat']
  rw [Int32.size] ; exact Int.bmod_eq_of_le (by omega) (by omega)
theorem nI_inj {a b : Nat} (ha : a < 2 ^ 31) (hb : b < 2 ^ 31) : nI a = nI b ↔ a = b := by
  rw [fa_eq, ti_n ha, ti_n hb]; omega
theorem nI_lti {a b : Nat} (ha : a < 2 ^ 31) (hb : b < 2 ^ 31) : nI a < nI b ↔ a < b := by
  rw [fa_lt, ti_n ha, ti_n hb]; omega
theorem nI_lei {a b : Nat} (ha : a < 2 ^ 31) (hb : b < 2 ^ 31) : nI a ≤ nI b ↔ a ≤ b := by
  rw [fa_le, ti_n ha, ti_n hb]; omega
theorem fa_lit (n : Nat) : (OfNat.ofNat n : Int32) = nI n := rfl
/-- an int that isn't negative, as a number -/
theorem nI_tn {a : Int32} (h : 0 ≤ a.toInt) : a = nI a.toInt.toNat := by
  have h2 : a.toInt < 2 ^ 31 := Int32.toInt_lt a
  rw [fa_eq, ti_n (by omega)]
  omega
theorem nI_ex {a : Int32} {n : Nat} (h : 0 ≤ a.toInt) (h2 : a.toInt < n) : ∃ s, s < n ∧ a = nI s := ⟨a.toInt.toNat, by omega, nI_tn h⟩
theorem inb_n {i n : Nat} (h : i < 2 ^ 31) : inb (nI i) n = decide (i < n) := by
  unfold inb
  have h1 : ¬ nI i < 0 := by
    show ¬ nI i < nI 0
    rw [nI_lti h (by omega)]; omega
  rw [nI_clamp h]
  by_cases h2 : i < n
  · simp [h1, h2]
  · simp [h1, h2, Nat.not_lt.mp h2]
theorem ald_n {μ : MT} {k i n : Nat} (hl : zl Zc k = n) (h : i < n) (hn : n < 1000) : ald Zc μ k (nI i) = some (μ k i) := by
  unfold ald
  rw [inb_n (by omega), hl, nI_clamp (by omega)]
  simp [h]
theorem ast_n {μ : MT} {k i n : Nat} {v : Int32} (hl : zl Zc k = n) (h : i < n) (hn : n < 1000) : ast Zc μ k (nI i) v = some (u2 μ k i v) := by
  unfold ast
  rw [inb_n (by omega), hl, nI_clamp (by omega)]
  simp [h]
theorem ard_n {k i n : Nat} (hl : zl Zc k = n) (h : i < n) (hn : n < 1000) : ard Zc k (nI i) = some (zr Zc k i) := by
  unfold ard
  rw [inb_n (by omega), hl, nI_clamp (by omega)]
  simp [h]
def bI (p : Prop) [Decidable p] : Int32 := if p then 1 else 0
theorem bI_0 {p : Prop} [Decidable p] : bI p = 0 ↔ ¬ p := by
  unfold bI
  by_cases h : p <;> simp [h]
theorem bI_t {p : Prop} [Decidable p] (h : p) : bI p = 1 := if_pos h
theorem bI_f {p : Prop} [Decidable p] (h : ¬ p) : bI p = 0 := if_neg h
theorem bz_b {p : Prop} [Decidable p] : bz (bI p) = some (bI p) := by
  unfold bz bI
  by_cases h : p <;> simp [h]
theorem bz_0 : bz 0 = some 0 := by unfold bz; simp
theorem bz_1 : bz 1 = some 1 := by unfold bz; simp
theorem q_in (a lo hi : Int64) (μ : MT) : m_X9_in Zc a lo hi μ = some (bI (lo.toInt ≤ a.toInt ∧ a.toInt ≤ hi.toInt)) := by
  unfold m_X9_in bI
  simp only [lg_cmp_lt, lg_cmp_gt, fa_lt64]
  by_cases h1 : a.toInt < lo.toInt
  · rw [if_pos h1, if_neg (by omega)]
  · by_cases h2 : hi.toInt < a.toInt
    · rw [if_neg h1, if_pos h2, if_neg (by omega)]
    · rw [if_neg h1, if_neg h2, if_pos (by omega)]
/-- a loop that comes to its end: I i s: at most i rounds are left -/
theorem lp_n {σ τ : Type} {body : σ → Option (σ ⊕ τ)} {P : τ → Prop} (I : Nat → σ → Prop) (h : ∀ i s, I i s → (∃ t, body s = some (.inr t) ∧ P t) ∨ (∃ s', body s = some (.inl s') ∧ ∃ j, j < i ∧ I j s')) : ∀ (N n : Nat) (s : σ), n < N → I n s → ∃ t, loop body N s = some t ∧ P t := by
  intro N
  induction N with
  | zero => intro n s hn; omega
  | succ N ih =>
    intro n s hn hs
    rcases h n s hs with ⟨t, h1, h2⟩ | ⟨s', h1, j, hj, h2⟩
    · refine ⟨t, ?_, h2⟩
      unfold loop
      rw [h1]
      rfl
    · obtain ⟨t, h3, h4⟩ := ih j s' (by omega) h2
      refine ⟨t, ?_, h4⟩
      unfold loop
      rw [h1]
      exact h3
theorem lp {σ τ : Type} {body : σ → Option (σ ⊕ τ)} {P : τ → Prop} (I : Nat → σ → Prop) (n : Nat) (hn : n < 1000000) {s : σ} (hs : I n s) (h : ∀ i s, I i s → (∃ t, body s = some (.inr t) ∧ P t) ∨ (∃ s', body s = some (.inl s') ∧ ∃ j, j < i ∧ I j s')) : ∃ t, loop body LN s = some t ∧ P t := lp_n I h LN n s hn hs
/-- a value that is there, and so -/
def Ok {γ : Type} (o : Option γ) (R : γ → Prop) : Prop := ∃ a, o = some a ∧ R a
theorem ok_s {γ : Type} {a : γ} {R : γ → Prop} (h : R a) : Ok (some a) R := ⟨a, rfl, h⟩
theorem ok_e {γ : Type} {a : γ} {o : Option γ} {R : γ → Prop} (e : o = some a) (h : R a) : Ok o R := ⟨a, e, h⟩
theorem ok_b {γ δ : Type} {o : Option γ} {F : γ → Option δ} {R1 : γ → Prop} {R : δ → Prop} (h : Ok o R1) (k : ∀ a, R1 a → Ok (F a) R) : Ok (o.bind F) R := by
  obtain ⟨a, e, h⟩ := h
  rw [e]
  exact k a h
theorem ok_m {γ : Type} {o : Option γ} {R1 R : γ → Prop} (h : Ok o R1) (k : ∀ a, R1 a → R a) : Ok o R := by
  obtain ⟨a, e, h⟩ := h
  exact ⟨a, e, k a h⟩
theorem ok_eq {γ : Type} {o : Option γ} {x : γ} (h : Ok o (fun a => a = x)) : o = some x := by
  obtain ⟨a, e, h⟩ := h
  rw [e, h]
/-- a loop, then the rest -/
theorem ok_l {σ τ γ : Type} {body : σ → Option (σ ⊕ τ)} {F : τ → Option γ} {R : γ → Prop} {s : σ} (I : Nat → σ → Prop) (n : Nat) (hn : n < 1000000) (hs : I n s) (h : ∀ i s, I i s → Ok (body s) (fun q => (∃ t, q = .inr t ∧ Ok (F t) R) ∨ (∃ s' j, q = .inl s' ∧ j < i ∧ I j s'))) : Ok ((loop body LN s).bind F) R := by
  have := lp (body := body) (P := fun t => Ok (F t) R) I n hn hs (fun i s hi => by
    obtain ⟨q, h1, ⟨t, rfl, h2⟩ | ⟨s', j, rfl, h2, h3⟩⟩ := h i s hi
    · exact Or.inl ⟨t, h1, h2⟩
    · exact Or.inr ⟨s', h1, j, h2, h3⟩)
  obtain ⟨t, h1, h2⟩ := this
  rw [h1]
  exact h2
/-- a counted loop that may leave early -/
theorem ok_for {ρ τ γ : Type} {body : Int32 × ρ → Option ((Int32 × ρ) ⊕ τ)} {F : τ → Option γ} {R : γ → Prop} (J : Nat → ρ → Prop) (a n : Nat) (han : a ≤ n) (hn : n < 1000000) {r : ρ} {i0 : Int32} (hi : i0 = nI a) (h0 : J a r)
    (hs : ∀ i r, a ≤ i → i < n → J i r → Ok (body (nI i, r)) (fun q => (∃ r', q = .inl (nI (i + 1), r') ∧ J (i + 1) r') ∨ (∃ t, q = .inr t ∧ Ok (F t) R)))
    (he : ∀ r, J n r → Ok (body (nI n, r)) (fun q => ∃ t, q = .inr t ∧ Ok (F t) R)) : Ok ((loop body LN (i0, r)).bind F) R := by
  refine ok_l (fun m s => ∃ i, i + m = n ∧ a ≤ i ∧ s.1 = nI i ∧ J i s.2) (n - a) (by omega) ⟨a, by omega, Nat.le_refl _, hi, h0⟩ ?_
  rintro m ⟨y, r⟩ ⟨i, h1, h2, h3, h4⟩
  simp only at h3 h4
  subst h3
  by_cases hm : i = n
  · subst hm
    exact ok_m (he r h4) (fun q hq => Or.inl hq)
  · refine ok_m (hs i r h2 (by omega) h4) (fun q hq => ?_)
    rcases hq with ⟨r', h5, h6⟩ | h5
    · exact Or.inr ⟨_, m - 1, h5, by omega, i + 1, by omega, by omega, rfl, h6⟩
    · exact Or.inl h5
/-- a counted loop over the counter alone -/
theorem ok_c {τ γ : Type} {body : Int32 → Option (Int32 ⊕ τ)} {F : τ → Option γ} {R : γ → Prop} (J : Nat → Prop) (a n : Nat) (han : a ≤ n) (hn : n < 1000000) {i0 : Int32} (hi : i0 = nI a) (h0 : J a)
    (hs : ∀ i, a ≤ i → i < n → J i → Ok (body (nI i)) (fun q => (q = .inl (nI (i + 1)) ∧ J (i + 1)) ∨ (∃ t, q = .inr t ∧ Ok (F t) R)))
    (he : J n → Ok (body (nI n)) (fun q => ∃ t, q = .inr t ∧ Ok (F t) R)) : Ok ((loop body LN i0).bind F) R := by
  refine ok_l (fun m s => ∃ i, i + m = n ∧ a ≤ i ∧ s = nI i ∧ J i) (n - a) (by omega) ⟨a, by omega, Nat.le_refl _, hi, h0⟩ ?_
  rintro m y ⟨i, h1, h2, rfl, h4⟩
  by_cases hm : i = n
  · subst hm
    exact ok_m (he h4) (fun q hq => Or.inl hq)
  · refine ok_m (hs i h2 (by omega) h4) (fun q hq => ?_)
    rcases hq with ⟨h5, h6⟩ | h5
    · exact Or.inr ⟨_, m - 1, h5, by omega, i + 1, by omega, by omega, rfl, h6⟩
    · exact Or.inl h5
theorem n1 (i : Nat) : nI i + 1 = nI (i + 1) := nI_add i 1
theorem n0 (i : Nat) : (0 : Int32) + nI i = nI i := by
  have := nI_add 0 i
  rw [Nat.zero_add] at this
  exact this
theorem nmul (a b : Nat) : nI a * nI b = nI (a * b) := by
  apply Int32.toBitVec_inj.mp
  show BitVec.ofNat 32 a * BitVec.ofNat 32 b = BitVec.ofNat 32 (a * b)
  exact (BitVec.ofNat_mul a b).symm
/-- Arrays.fill -/
theorem q_fill {k n : Nat} {v : Int32} {μ : MT} (hl : zl Zc k = n) (hn : n < 1000) : m_J7_fill_53178 Zc k v μ = some (u1 μ k (fun j => if j < n then v else μ k j)) := by
  unfold m_J7_fill_53178
  rw [hl, ob_s]
  apply ok_eq
  refine ok_for (fun i ν => ν = u1 μ k (fun j => if j < i then v else μ k j)) 0 n (by omega) (by omega) rfl ?_ ?_ ?_
  · funext q j
    unfold u1
    by_cases h : q = k <;> simp [h]
  · rintro i ν _ hi rfl
    have hc : ¬ Int32.ofNat n ≤ nI i := by
      show ¬ nI n ≤ nI i
      rw [nI_lei (by omega) (by omega)]; omega
    simp only [hc, if_false]
    rw [ast_n hl hi hn]
    simp only [ob_s, n1]
    refine ok_s (Or.inl ⟨_, rfl, ?_⟩)
    funext q j
    unfold u2 u1 upd
    by_cases h : q = k
    · subst h
      by_cases hj : j = i
      · subst hj; simp
      · have : (j < i + 1) = (j < i) := by apply propext; omega
        simp [hj, this]
    · simp [h]
  · rintro ν rfl
    have hc : Int32.ofNat n ≤ nI n := by
      show nI n ≤ nI n
      rw [nI_lei (by omega) (by omega)]; omega
    simp only [hc, if_true]
    exact ok_s ⟨_, rfl, ok_s rfl⟩
end
section
/-! ===== reading and writing rows; comparing small numbers ===== -/
theorem zD : (∀ (μ : MT) (i : Nat), i < 8 → ald Zc μ 2 (nI i) = some (μ 2 i)) ∧ (∀ (μ : MT) (i : Nat), i < 8 → ald Zc μ 3 (nI i) = some (μ 3 i)) ∧ (∀ (μ : MT) (i : Nat), i < 500 → ald Zc μ 14 (nI i) = some (μ 14 i)) ∧ (∀ (μ : MT) (i : Nat), i < 12 → ald Zc μ 16 (nI i) = some (μ 16 i)) ∧ (∀ (μ : MT) (i : Nat), i < 6 → ald Zc μ 17 (nI i) = some (μ 17 i)) ∧ (∀ (μ : MT) (i : Nat), i < 12 → ald Zc μ 18 (nI i) = some (μ 18 i)) ∧ (∀ (μ : MT) (i : Nat), i < 6 → ald Zc μ 35 (nI i) = some (μ 35 i)) ∧ (∀ (μ : MT) (i : Nat), i < 6 → ald Zc μ 36 (nI i) = some (μ 36 i)) ∧ (∀ (μ : MT) (i : Nat), i < 64 → ald Zc μ 37 (nI i) = some (μ 37 i)) ∧ (∀ (μ : MT) (i : Nat), i < 12 → ald Zc μ 88 (nI i) = some (μ 88 i)) ∧ (∀ (μ : MT) (i : Nat), i < 12 → ald Zc μ 89 (nI i) = some (μ 89 i)) ∧ (∀ (μ : MT) (i : Nat), i < 16 → ald Zc μ 91 (nI i) = some (μ 91 i)) ∧ (∀ (μ : MT) (i : Nat), i < 8 → ald Zc μ 107 (nI i) = some (μ 107 i)) ∧ (∀ (μ : MT) (i : Nat), i < 8 → ald Zc μ 108 (nI i) = some (μ 108 i)) ∧ (∀ (μ : MT) (i : Nat), i < 320 → ald Zc μ 109 (nI i) = some (μ 109 i)) ∧ (∀ (μ : MT) (i : Nat), i < 160 → ald Zc μ 110 (nI i) = some (μ 110 i)) ∧ (∀ (μ : MT) (i : Nat), i < 10 → ald Zc μ 111 (nI i) = some (μ 111 i)) ∧ (∀ (μ : MT) (i : Nat), i < 10 → ald Zc μ 112 (nI i) = some (μ 112 i)) ∧ (∀ (μ : MT) (i : Nat), i < 160 → ald Zc μ 113 (nI i) = some (μ 113 i)) ∧ (∀ (μ : MT) (i : Nat), i < 10 → ald Zc μ 114 (nI i) = some (μ 114 i)) ∧ (∀ (μ : MT) (i : Nat), i < 10 → ald Zc μ 115 (nI i) = some (μ 115 i)) ∧ (∀ (μ : MT) (i : Nat), i < 500 → ald Zc μ 116 (nI i) = some (μ 116 i)) ∧ (∀ (μ : MT) (i : Nat), i < 12 → ald Zc μ 117 (nI i) = some (μ 117 i)) ∧ (∀ (μ : MT) (i : Nat), i < 6 → ald Zc μ 118 (nI i) = some (μ 118 i)) ∧ (∀ (μ : MT) (i : Nat), i < 48 → ald Zc μ 119 (nI i) = some (μ 119 i)) ∧ (∀ (μ : MT) (i : Nat), i < 12 → ald Zc μ 120 (nI i) = some (μ 120 i)) ∧ (∀ (μ : MT) (i : Nat), i < 12 → ald Zc μ 121 (nI i) = some (μ 121 i)) ∧ (∀ (μ : MT) (i : Nat), i < 48 → ald Zc μ 122 (nI i) = some (μ 122 i)) ∧ (∀ (μ : MT) (i : Nat), i < 12 → ald Zc μ 123 (nI i) = some (μ 123 i)) ∧ (∀ (μ : MT) (i : Nat), i < 6 → ald Zc μ 124 (nI i) = some (μ 124 i)) ∧ (∀ (μ : MT) (i : Nat), i < 6 → ald Zc μ 125 (nI i) = some (μ 125 i)) ∧ (∀ (μ : MT) (i : Nat), i < 16 → ald Zc μ 126 (nI i) = some (μ 126 i)) ∧ (∀ (μ : MT) (i : Nat), i < 6 → ald Zc μ 1000 (nI i) = some (μ 1000 i)) ∧ (∀ (μ : MT) (i : Nat), i < 8 → ald Zc μ 1001 (nI i) = some (μ 1001 i)) ∧ (∀ (μ : MT) (i : Nat), i < 8 → ald Zc μ 1002 (nI i) = some (μ 1002 i)) ∧ (∀ (μ : MT) (i : Nat), i < 8 → ald Zc μ 1003 (nI i) = some (μ 1003 i)) := by
  and_intros <;> exact fun μ i h => ald_n (by simp only [zA]) h (by omega)
theorem zE : (∀ (μ : MT) (i : Nat) (v : Int32), i < 8 → ast Zc μ 2 (nI i) v = some (u2 μ 2 i v)) ∧ (∀ (μ : MT) (i : Nat) (v : Int32), i < 8 → ast Zc μ 3 (nI i) v = some (u2 μ 3 i v)) ∧ (∀ (μ : MT) (i : Nat) (v : Int32), i < 500 → ast Zc μ 14 (nI i) v = some (u2 μ 14 i v)) ∧ (∀ (μ : MT) (i : Nat) (v : Int32), i < 12 → ast Zc μ 16 (nI i) v = some (u2 μ 16 i v)) ∧ (∀ (μ : MT) (i : Nat) (v : Int32), i < 6 → ast Zc μ 17 (nI i) v = some (u2 μ 17 i v)) ∧ (∀ (μ : MT) (i : Nat) (v : Int32), i < 12 → ast Zc μ 18 (nI i) v = some (u2 μ 18 i v)) ∧ (∀ (μ : MT) (i : Nat) (v : Int32), i < 6 → ast Zc μ 35 (nI i) v = some (u2 μ 35 i v)) ∧ (∀ (μ : MT) (i : Nat) (v : Int32), i < 6 → ast Zc μ 36 (nI i) v = some (u2 μ 36 i v)) ∧ (∀ (μ : MT) (i : Nat) (v : Int32), i < 64 → ast Zc μ 37 (nI i) v = some (u2 μ 37 i v)) ∧ (∀ (μ : MT) (i : Nat) (v : Int32), i < 12 → ast Zc μ 88 (nI i) v = some (u2 μ 88 i v)) ∧ (∀ (μ : MT) (i : Nat) (v : Int32), i < 12 → ast Zc μ 89 (nI i) v = some (u2 μ 89 i v)) ∧ (∀ (μ : MT) (i : Nat) (v : Int32), i < 16 → ast Zc μ 91 (nI i) v = some (u2 μ 91 i v)) ∧ (∀ (μ : MT) (i : Nat) (v : Int32), i < 8 → ast Zc μ 107 (nI i) v = some (u2 μ 107 i v)) ∧ (∀ (μ : MT) (i : Nat) (v : Int32), i < 8 → ast Zc μ 108 (nI i) v = some (u2 μ 108 i v)) ∧ (∀ (μ : MT) (i : Nat) (v : Int32), i < 320 → ast Zc μ 109 (nI i) v = some (u2 μ 109 i v)) ∧ (∀ (μ : MT) (i : Nat) (v : Int32), i < 160 → ast Zc μ 110 (nI i) v = some (u2 μ 110 i v)) ∧ (∀ (μ : MT) (i : Nat) (v : Int32), i < 10 → ast Zc μ 111 (nI i) v = some (u2 μ 111 i v)) ∧ (∀ (μ : MT) (i : Nat) (v : Int32), i < 10 → ast Zc μ 112 (nI i) v = some (u2 μ 112 i v)) ∧ (∀ (μ : MT) (i : Nat) (v : Int32), i < 160 → ast Zc μ 113 (nI i) v = some (u2 μ 113 i v)) ∧ (∀ (μ : MT) (i : Nat) (v : Int32), i < 10 → ast Zc μ 114 (nI i) v = some (u2 μ 114 i v)) ∧ (∀ (μ : MT) (i : Nat) (v : Int32), i < 10 → ast Zc μ 115 (nI i) v = some (u2 μ 115 i v)) ∧ (∀ (μ : MT) (i : Nat) (v : Int32), i < 500 → ast Zc μ 116 (nI i) v = some (u2 μ 116 i v)) ∧ (∀ (μ : MT) (i : Nat) (v : Int32), i < 12 → ast Zc μ 117 (nI i) v = some (u2 μ 117 i v)) ∧ (∀ (μ : MT) (i : Nat) (v : Int32), i < 6 → ast Zc μ 118 (nI i) v = some (u2 μ 118 i v)) ∧ (∀ (μ : MT) (i : Nat) (v : Int32), i < 48 → ast Zc μ 119 (nI i) v = some (u2 μ 119 i v)) ∧ (∀ (μ : MT) (i : Nat) (v : Int32), i < 12 → ast Zc μ 120 (nI i) v = some (u2 μ 120 i v)) ∧ (∀ (μ : MT) (i : Nat) (v : Int32), i < 12 → ast Zc μ 121 (nI i) v = some (u2 μ 121 i v)) ∧ (∀ (μ : MT) (i : Nat) (v : Int32), i < 48 → ast Zc μ 122 (nI i) v = some (u2 μ 122 i v)) ∧ (∀ (μ : MT) (i : Nat) (v : Int32), i < 12 → ast Zc μ 123 (nI i) v = some (u2 μ 123 i v)) ∧ (∀ (μ : MT) (i : Nat) (v : Int32), i < 6 → ast Zc μ 124 (nI i) v = some (u2 μ 124 i v)) ∧ (∀ (μ : MT) (i : Nat) (v : Int32), i < 6 → ast Zc μ 125 (nI i) v = some (u2 μ 125 i v)) ∧ (∀ (μ : MT) (i : Nat) (v : Int32), i < 16 → ast Zc μ 126 (nI i) v = some (u2 μ 126 i v)) ∧ (∀ (μ : MT) (i : Nat) (v : Int32), i < 6 → ast Zc μ 1000 (nI i) v = some (u2 μ 1000 i v)) ∧ (∀ (μ : MT) (i : Nat) (v : Int32), i < 8 → ast Zc μ 1001 (nI i) v = some (u2 μ 1001 i v)) ∧ (∀ (μ : MT) (i : Nat) (v : Int32), i < 8 → ast Zc μ 1002 (nI i) v = some (u2 μ 1002 i v)) ∧ (∀ (μ : MT) (i : Nat) (v : Int32), i < 8 → ast Zc μ 1003 (nI i) v = some (u2 μ 1003 i v)) := by
  and_intros <;> exact fun μ i v h => ast_n (by simp only [zA]) h (by omega)
theorem x_lt {a b : Nat} (ha : a < 2147483648) (hb : b < 2147483648) : nI a < nI b ↔ a < b := by exact nI_lti ha hb
theorem x_ltl {a b : Nat} (ha : a < 2147483648) (hb : (OfNat.ofNat b : Nat) < 2147483648) : nI a < (no_index (OfNat.ofNat b) : Int32) ↔ a < (OfNat.ofNat b : Nat) := by exact nI_lti ha hb
theorem x_llt {a b : Nat} (ha : a < 2147483648) (hb : (OfNat.ofNat b : Nat) < 2147483648) : (no_index (OfNat.ofNat b) : Int32) < nI a ↔ (OfNat.ofNat b : Nat) < a := by exact nI_lti hb ha
theorem x_le {a b : Nat} (ha : a < 2147483648) (hb : b < 2147483648) : nI a ≤ nI b ↔ a ≤ b := by exact nI_lei ha hb
theorem x_lel {a b : Nat} (ha : a < 2147483648) (hb : (OfNat.ofNat b : Nat) < 2147483648) : nI a ≤ (no_index (OfNat.ofNat b) : Int32) ↔ a ≤ (OfNat.ofNat b : Nat) := by exact nI_lei ha hb
theorem x_lle {a b : Nat} (ha : a < 2147483648) (hb : (OfNat.ofNat b : Nat) < 2147483648) : (no_index (OfNat.ofNat b) : Int32) ≤ nI a ↔ (OfNat.ofNat b : Nat) ≤ a := by exact nI_lei hb ha
theorem x_eq {a b : Nat} (ha : a < 2147483648) (hb : b < 2147483648) : nI a = nI b ↔ a = b := by exact nI_inj ha hb
theorem x_eql {a b : Nat} (ha : a < 2147483648) (hb : (OfNat.ofNat b : Nat) < 2147483648) : nI a = (no_index (OfNat.ofNat b) : Int32) ↔ a = (OfNat.ofNat b : Nat) := by exact nI_inj ha hb
theorem x_eqm {a : Nat} (ha : a < 2147483648) : (nI a = -1) ↔ False := by rw [fa_eq, ti_n ha, show (-1 : Int32).toInt = -1 from rfl]; constructor <;> intro h <;> first | omega | exact h.elim
theorem x_al {a b : Nat} : nI a + (no_index (OfNat.ofNat b) : Int32) = nI (a + (OfNat.ofNat b : Nat)) := by exact nI_add a b
theorem x_la {a b : Nat} : (no_index (OfNat.ofNat b) : Int32) + nI a = nI ((OfNat.ofNat b : Nat) + a) := by exact nI_add b a
theorem x_a {a b : Nat} : nI a + nI b = nI (a + b) := by exact nI_add a b
theorem x_ml {a b : Nat} : nI a * (no_index (OfNat.ofNat b) : Int32) = nI (a * (OfNat.ofNat b : Nat)) := by exact nmul a b
theorem x_lm {a b : Nat} : (no_index (OfNat.ofNat b) : Int32) * nI a = nI ((OfNat.ofNat b : Nat) * a) := by exact nmul b a
theorem x_m {a b : Nat} : nI a * nI b = nI (a * b) := by exact nmul a b
theorem x_s {a b : Nat} (h : b ≤ a) : nI a - nI b = nI (a - b) := by exact pk_sub h
theorem x_sl {a b : Nat} (h : (OfNat.ofNat b : Nat) ≤ a) : nI a - (no_index (OfNat.ofNat b) : Int32) = nI (a - (OfNat.ofNat b : Nat)) := by exact pk_sub h
theorem x_cl {a : Nat} (ha : a < 2147483648) : (nI a).toNatClampNeg = a := by exact nI_clamp ha
theorem x_ti {a : Nat} (ha : a < 2147483648) : (nI a).toInt = (a : Int) := by exact ti_n ha
theorem nt {p : Prop} [Decidable p] {α : Type} {x y : α} (h : p) : (if p then x else y) = x := if_pos h
theorem u2_r {μ : MT} {k j k1 j1 : Nat} {v : Int32} : u2 μ k j v k1 j1 = if k1 = k ∧ j1 = j then v else μ k1 j1 := by
  unfold u2 upd
  by_cases h : k1 = k
  · subst h; by_cases h2 : j1 = j <;> simp [h2]
  · simp [h]
theorem u1_r {μ : MT} {k k1 j1 : Nat} {f : Nat → Int32} : u1 μ k f k1 j1 = if k1 = k then f j1 else μ k1 j1 := by
  unfold u1
  by_cases h : k1 = k <;> simp [h]
theorem div_4 : idv = fun y z => if z = 0 then none else some (y / z) := rfl
theorem x_dv {y z : Int32} (h : z ≠ 0) : idv y z = some (y / z) := if_neg h
theorem x_d4 {y : Int32} : idv y 4 = some (y / 4) := if_neg (by decide)
theorem x_d2 {y : Int32} : idv y 2 = some (y / 2) := if_neg (by decide)
theorem x_nd {n d : Nat} (hn : n < 2147483648) (hd : 0 < d) (hd2 : d < 2147483648) : nI n / nI d = nI (n / d) := by
  rw [fa_eq, lg_idiv_nonneg (by rw [ti_n hn]; omega) (by rw [ti_n hd2]; omega), ti_n hn, ti_n hd2, ti_n (Nat.lt_of_le_of_lt (Nat.div_le_self n d) hn)]
  omega
theorem x_ndl {n d : Nat} (hn : n < 2147483648) (hd : 0 < (OfNat.ofNat d : Nat)) (hd2 : (OfNat.ofNat d : Nat) < 2147483648) : nI n / (no_index (OfNat.ofNat d) : Int32) = nI (n / (OfNat.ofNat d : Nat)) := x_nd hn hd hd2
theorem al_2 {μ : MT} {i : Nat} (h : i < 8) : ald Zc μ 2 (nI i) = some (μ 2 i) := ald_n (by simp only [zA]) h (by omega)
theorem as_2 {μ : MT} {i : Nat} {v : Int32} (h : i < 8) : ast Zc μ 2 (nI i) v = some (u2 μ 2 i v) := ast_n (by simp only [zA]) h (by omega)
theorem al_3 {μ : MT} {i : Nat} (h : i < 8) : ald Zc μ 3 (nI i) = some (μ 3 i) := ald_n (by simp only [zA]) h (by omega)
theorem as_3 {μ : MT} {i : Nat} {v : Int32} (h : i < 8) : ast Zc μ 3 (nI i) v = some (u2 μ 3 i v) := ast_n (by simp only [zA]) h (by omega)
theorem al_14 {μ : MT} {i : Nat} (h : i < 500) : ald Zc μ 14 (nI i) = some (μ 14 i) := ald_n (by simp only [zA]) h (by omega)
theorem as_14 {μ : MT} {i : Nat} {v : Int32} (h : i < 500) : ast Zc μ 14 (nI i) v = some (u2 μ 14 i v) := ast_n (by simp only [zA]) h (by omega)
theorem al_16 {μ : MT} {i : Nat} (h : i < 12) : ald Zc μ 16 (nI i) = some (μ 16 i) := ald_n (by simp only [zA]) h (by omega)
theorem as_16 {μ : MT} {i : Nat} {v : Int32} (h : i < 12) : ast Zc μ 16 (nI i) v = some (u2 μ 16 i v) := ast_n (by simp only [zA]) h (by omega)
theorem al_17 {μ : MT} {i : Nat} (h : i < 6) : ald Zc μ 17 (nI i) = some (μ 17 i) := ald_n (by simp only [zA]) h (by omega)
theorem as_17 {μ : MT} {i : Nat} {v : Int32} (h : i < 6) : ast Zc μ 17 (nI i) v = some (u2 μ 17 i v) := ast_n (by simp only [zA]) h (by omega)
theorem al_18 {μ : MT} {i : Nat} (h : i < 12) : ald Zc μ 18 (nI i) = some (μ 18 i) := ald_n (by simp only [zA]) h (by omega)
theorem as_18 {μ : MT} {i : Nat} {v : Int32} (h : i < 12) : ast Zc μ 18 (nI i) v = some (u2 μ 18 i v) := ast_n (by simp only [zA]) h (by omega)
theorem al_35 {μ : MT} {i : Nat} (h : i < 6) : ald Zc μ 35 (nI i) = some (μ 35 i) := ald_n (by simp only [zA]) h (by omega)
theorem as_35 {μ : MT} {i : Nat} {v : Int32} (h : i < 6) : ast Zc μ 35 (nI i) v = some (u2 μ 35 i v) := ast_n (by simp only [zA]) h (by omega)
theorem al_36 {μ : MT} {i : Nat} (h : i < 6) : ald Zc μ 36 (nI i) = some (μ 36 i) := ald_n (by simp only [zA]) h (by omega)
theorem as_36 {μ : MT} {i : Nat} {v : Int32} (h : i < 6) : ast Zc μ 36 (nI i) v = some (u2 μ 36 i v) := ast_n (by simp only [zA]) h (by omega)
theorem al_37 {μ : MT} {i : Nat} (h : i < 64) : ald Zc μ 37 (nI i) = some (μ 37 i) := ald_n (by simp only [zA]) h (by omega)
theorem as_37 {μ : MT} {i : Nat} {v : Int32} (h : i < 64) : ast Zc μ 37 (nI i) v = some (u2 μ 37 i v) := ast_n (by simp only [zA]) h (by omega)
theorem al_88 {μ : MT} {i : Nat} (h : i < 12) : ald Zc μ 88 (nI i) = some (μ 88 i) := ald_n (by simp only [zA]) h (by omega)
theorem as_88 {μ : MT} {i : Nat} {v : Int32} (h : i < 12) : ast Zc μ 88 (nI i) v = some (u2 μ 88 i v) := ast_n (by simp only [zA]) h (by omega)
theorem al_89 {μ : MT} {i : Nat} (h : i < 12) : ald Zc μ 89 (nI i) = some (μ 89 i) := ald_n (by simp only [zA]) h (by omega)
theorem as_89 {μ : MT} {i : Nat} {v : Int32} (h : i < 12) : ast Zc μ 89 (nI i) v = some (u2 μ 89 i v) := ast_n (by simp only [zA]) h (by omega)
theorem al_91 {μ : MT} {i : Nat} (h : i < 16) : ald Zc μ 91 (nI i) = some (μ 91 i) := ald_n (by simp only [zA]) h (by omega)
theorem as_91 {μ : MT} {i : Nat} {v : Int32} (h : i < 16) : ast Zc μ 91 (nI i) v = some (u2 μ 91 i v) := ast_n (by simp only [zA]) h (by omega)
theorem al_107 {μ : MT} {i : Nat} (h : i < 8) : ald Zc μ 107 (nI i) = some (μ 107 i) := ald_n (by simp only [zA]) h (by omega)
theorem as_107 {μ : MT} {i : Nat} {v : Int32} (h : i < 8) : ast Zc μ 107 (nI i) v = some (u2 μ 107 i v) := ast_n (by simp only [zA]) h (by omega)
theorem al_108 {μ : MT} {i : Nat} (h : i < 8) : ald Zc μ 108 (nI i) = some (μ 108 i) := ald_n (by simp only [zA]) h (by omega)
theorem as_108 {μ : MT} {i : Nat} {v : Int32} (h : i < 8) : ast Zc μ 108 (nI i) v = some (u2 μ 108 i v) := ast_n (by simp only [zA]) h (by omega)
theorem al_109 {μ : MT} {i : Nat} (h : i < 320) : ald Zc μ 109 (nI i) = some (μ 109 i) := ald_n (by simp only [zA]) h (by omega)
theorem as_109 {μ : MT} {i : Nat} {v : Int32} (h : i < 320) : ast Zc μ 109 (nI i) v = some (u2 μ 109 i v) := ast_n (by simp only [zA]) h (by omega)
theorem al_110 {μ : MT} {i : Nat} (h : i < 160) : ald Zc μ 110 (nI i) = some (μ 110 i) := ald_n (by simp only [zA]) h (by omega)
theorem as_110 {μ : MT} {i : Nat} {v : Int32} (h : i < 160) : ast Zc μ 110 (nI i) v = some (u2 μ 110 i v) := ast_n (by simp only [zA]) h (by omega)
theorem al_111 {μ : MT} {i : Nat} (h : i < 10) : ald Zc μ 111 (nI i) = some (μ 111 i) := ald_n (by simp only [zA]) h (by omega)
theorem as_111 {μ : MT} {i : Nat} {v : Int32} (h : i < 10) : ast Zc μ 111 (nI i) v = some (u2 μ 111 i v) := ast_n (by simp only [zA]) h (by omega)
theorem al_112 {μ : MT} {i : Nat} (h : i < 10) : ald Zc μ 112 (nI i) = some (μ 112 i) := ald_n (by simp only [zA]) h (by omega)
theorem as_112 {μ : MT} {i : Nat} {v : Int32} (h : i < 10) : ast Zc μ 112 (nI i) v = some (u2 μ 112 i v) := ast_n (by simp only [zA]) h (by omega)
theorem al_113 {μ : MT} {i : Nat} (h : i < 160) : ald Zc μ 113 (nI i) = some (μ 113 i) := ald_n (by simp only [zA]) h (by omega)
theorem as_113 {μ : MT} {i : Nat} {v : Int32} (h : i < 160) : ast Zc μ 113 (nI i) v = some (u2 μ 113 i v) := ast_n (by simp only [zA]) h (by omega)
theorem al_114 {μ : MT} {i : Nat} (h : i < 10) : ald Zc μ 114 (nI i) = some (μ 114 i) := ald_n (by simp only [zA]) h (by omega)
theorem as_114 {μ : MT} {i : Nat} {v : Int32} (h : i < 10) : ast Zc μ 114 (nI i) v = some (u2 μ 114 i v) := ast_n (by simp only [zA]) h (by omega)
theorem al_115 {μ : MT} {i : Nat} (h : i < 10) : ald Zc μ 115 (nI i) = some (μ 115 i) := ald_n (by simp only [zA]) h (by omega)
theorem as_115 {μ : MT} {i : Nat} {v : Int32} (h : i < 10) : ast Zc μ 115 (nI i) v = some (u2 μ 115 i v) := ast_n (by simp only [zA]) h (by omega)
theorem al_116 {μ : MT} {i : Nat} (h : i < 500) : ald Zc μ 116 (nI i) = some (μ 116 i) := ald_n (by simp only [zA]) h (by omega)
theorem as_116 {μ : MT} {i : Nat} {v : Int32} (h : i < 500) : ast Zc μ 116 (nI i) v = some (u2 μ 116 i v) := ast_n (by simp only [zA]) h (by omega)
theorem al_117 {μ : MT} {i : Nat} (h : i < 12) : ald Zc μ 117 (nI i) = some (μ 117 i) := ald_n (by simp only [zA]) h (by omega)
theorem as_117 {μ : MT} {i : Nat} {v : Int32} (h : i < 12) : ast Zc μ 117 (nI i) v = some (u2 μ 117 i v) := ast_n (by simp only [zA]) h (by omega)
theorem al_118 {μ : MT} {i : Nat} (h : i < 6) : ald Zc μ 118 (nI i) = some (μ 118 i) := ald_n (by simp only [zA]) h (by omega)
theorem as_118 {μ : MT} {i : Nat} {v : Int32} (h : i < 6) : ast Zc μ 118 (nI i) v = some (u2 μ 118 i v) := ast_n (by simp only [zA]) h (by omega)
theorem al_119 {μ : MT} {i : Nat} (h : i < 48) : ald Zc μ 119 (nI i) = some (μ 119 i) := ald_n (by simp only [zA]) h (by omega)
theorem as_119 {μ : MT} {i : Nat} {v : Int32} (h : i < 48) : ast Zc μ 119 (nI i) v = some (u2 μ 119 i v) := ast_n (by simp only [zA]) h (by omega)
theorem al_120 {μ : MT} {i : Nat} (h : i < 12) : ald Zc μ 120 (nI i) = some (μ 120 i) := ald_n (by simp only [zA]) h (by omega)
theorem as_120 {μ : MT} {i : Nat} {v : Int32} (h : i < 12) : ast Zc μ 120 (nI i) v = some (u2 μ 120 i v) := ast_n (by simp only [zA]) h (by omega)
theorem al_121 {μ : MT} {i : Nat} (h : i < 12) : ald Zc μ 121 (nI i) = some (μ 121 i) := ald_n (by simp only [zA]) h (by omega)
theorem as_121 {μ : MT} {i : Nat} {v : Int32} (h : i < 12) : ast Zc μ 121 (nI i) v = some (u2 μ 121 i v) := ast_n (by simp only [zA]) h (by omega)
theorem al_122 {μ : MT} {i : Nat} (h : i < 48) : ald Zc μ 122 (nI i) = some (μ 122 i) := ald_n (by simp only [zA]) h (by omega)
theorem as_122 {μ : MT} {i : Nat} {v : Int32} (h : i < 48) : ast Zc μ 122 (nI i) v = some (u2 μ 122 i v) := ast_n (by simp only [zA]) h (by omega)
theorem al_123 {μ : MT} {i : Nat} (h : i < 12) : ald Zc μ 123 (nI i) = some (μ 123 i) := ald_n (by simp only [zA]) h (by omega)
theorem as_123 {μ : MT} {i : Nat} {v : Int32} (h : i < 12) : ast Zc μ 123 (nI i) v = some (u2 μ 123 i v) := ast_n (by simp only [zA]) h (by omega)
theorem al_124 {μ : MT} {i : Nat} (h : i < 6) : ald Zc μ 124 (nI i) = some (μ 124 i) := ald_n (by simp only [zA]) h (by omega)
theorem as_124 {μ : MT} {i : Nat} {v : Int32} (h : i < 6) : ast Zc μ 124 (nI i) v = some (u2 μ 124 i v) := ast_n (by simp only [zA]) h (by omega)
theorem al_125 {μ : MT} {i : Nat} (h : i < 6) : ald Zc μ 125 (nI i) = some (μ 125 i) := ald_n (by simp only [zA]) h (by omega)
theorem as_125 {μ : MT} {i : Nat} {v : Int32} (h : i < 6) : ast Zc μ 125 (nI i) v = some (u2 μ 125 i v) := ast_n (by simp only [zA]) h (by omega)
theorem al_126 {μ : MT} {i : Nat} (h : i < 16) : ald Zc μ 126 (nI i) = some (μ 126 i) := ald_n (by simp only [zA]) h (by omega)
theorem as_126 {μ : MT} {i : Nat} {v : Int32} (h : i < 16) : ast Zc μ 126 (nI i) v = some (u2 μ 126 i v) := ast_n (by simp only [zA]) h (by omega)
theorem al_1000 {μ : MT} {i : Nat} (h : i < 6) : ald Zc μ 1000 (nI i) = some (μ 1000 i) := ald_n (by simp only [zA]) h (by omega)
theorem as_1000 {μ : MT} {i : Nat} {v : Int32} (h : i < 6) : ast Zc μ 1000 (nI i) v = some (u2 μ 1000 i v) := ast_n (by simp only [zA]) h (by omega)
theorem al_1001 {μ : MT} {i : Nat} (h : i < 8) : ald Zc μ 1001 (nI i) = some (μ 1001 i) := ald_n (by simp only [zA]) h (by omega)
theorem as_1001 {μ : MT} {i : Nat} {v : Int32} (h : i < 8) : ast Zc μ 1001 (nI i) v = some (u2 μ 1001 i v) := ast_n (by simp only [zA]) h (by omega)
theorem al_1002 {μ : MT} {i : Nat} (h : i < 8) : ald Zc μ 1002 (nI i) = some (μ 1002 i) := ald_n (by simp only [zA]) h (by omega)
theorem as_1002 {μ : MT} {i : Nat} {v : Int32} (h : i < 8) : ast Zc μ 1002 (nI i) v = some (u2 μ 1002 i v) := ast_n (by simp only [zA]) h (by omega)
theorem al_1003 {μ : MT} {i : Nat} (h : i < 8) : ald Zc μ 1003 (nI i) = some (μ 1003 i) := ald_n (by simp only [zA]) h (by omega)
theorem as_1003 {μ : MT} {i : Nat} {v : Int32} (h : i < 8) : ast Zc μ 1003 (nI i) v = some (u2 μ 1003 i v) := ast_n (by simp only [zA]) h (by omega)
end
section
/-! ===== the run over plain numbers, and what holds between calls ===== -/
/-- heat, hold, bend, pull of 12 cells each; springs; clamps; minutes -/
abbrev RS : Type := (Nat → Int32) × (Nat → Int32) × (Nat → Int32) × Int32
def minA (nc : Nat) (x : RS) : RS := (fun k => if k < nc then 3 * x.1 k / 4 else x.1 k, x.2.1, x.2.2.1, x.2.2.2 + 1)
def minsA (nc : Nat) : Nat → RS → RS
  | 0, x => x
  | n + 1, x => minsA nc n (minA nc x)
def hoA (nc : Nat) (N : Nat → Int32) (k : Nat) : Bool := decide (k < nc) && decide (0 < N (12 + k))
def shA (nc : Nat) (N : Nat → Int32) (kd c : Nat) (p : Int32) : Int32 :=
  if kd = 1 then 1
  else if kd = 3 then p - (if hoA nc N (c + 1) then 1 else 0)
  else if kd = 4 then (p - (if hoA nc N (c + 1) then 1 else 0)) - (if (1 ≤ c ∧ hoA nc N (c - 1) = true) ∨ hoA nc N (c + 1) = true then 0 else 1)
  else if kd = 5 then (if hoA nc N c then p / 2 else p)
  else if kd = 6 then -p
  else if kd = 7 then (if 0 < N (24 + c) then -p else p)
  else p
def efA (nc : Nat) (N : Nat → Int32) (kd c : Nat) (p : Int32) : Int32 :=
  if 100 ≤ N c then (8 * shA nc N kd c p / (8 + N (12 + c))) / 2 else 8 * shA nc N kd c p / (8 + N (12 + c))
def heA (kd : Nat) (p : Int32) : Int32 := if kd = 1 then p else if kd = 7 then 6 * p else 4 * p
def hdA (kd : Nat) : Int32 := if kd = 7 then 0 else if kd = 1 ∨ kd = 5 then 1 else 2
def stA (nc kd c : Nat) (p : Int32) (x : RS) : RS :=
  minA nc (fun k =>
      if k = c then x.1 k + heA kd p
      else if k = 12 + c then x.1 k + hdA kd
      else if k = 24 + c then (if x.2.2.1 c = 0 then x.1 k + efA nc x.1 kd c p else x.1 k)
      else if 36 ≤ k ∧ k < 36 + nc then x.1 k + (if k = 36 + c then efA nc x.1 kd c p * (nI nc - 1) else -efA nc x.1 kd c p)
      else x.1 k,
    if x.2.2.1 c = 0 then x.2.1 else upd x.2.1 c (x.2.1 c + efA nc x.1 kd c p), x.2.2.1, x.2.2.2)
def frA (c : Nat) (x : RS) : RS := if x.2.2.1 c = 0 then x else (upd x.1 (24 + c) (x.1 (24 + c) + x.2.1 c / 2), upd x.2.1 c 0, upd x.2.2.1 c 0, x.2.2.2)
def acA (nc : Nat) (A : Nat → Int32) (a : Nat) (x : RS) : RS :=
  if A (4 * a) = 8 then minsA nc (A (4 * a + 1)).toNatClampNeg x
  else if A (4 * a) = 9 then (x.1, x.2.1, upd x.2.2.1 (A (4 * a + 1)).toNatClampNeg 1, x.2.2.2)
  else if A (4 * a) = 10 then frA (A (4 * a + 1)).toNatClampNeg x
  else stA nc (A (4 * a)).toNatClampNeg (A (4 * a + 1)).toNatClampNeg (A (4 * a + 2)) x
def seA (nc na : Nat) (A : Nat → Int32) (s : Int32) (x : RS) : RS := (List.range na).foldl (fun x a => if A (4 * a + 3) = s then acA nc A a x else x) x
def bgA (B : Nat → Int32) : RS := (fun k => if 24 ≤ k ∧ k < 36 then B (k - 24) else 0, fun _ => 0, fun _ => 0, 0)
def frsA (nc : Nat) (x : RS) : RS := (List.range nc).foldl (fun x c => frA c x) x
def sesA (nc na : Nat) (A : Nat → Int32) (wo : Int32) (O : Nat → Int32) (ns : Nat) (x : RS) : RS := (List.range ns).foldl (fun x k => if O k = wo then x else seA nc na A (O k) x) x
def goA (nc ns na : Nat) (A B O : Nat → Int32) (wo : Int32) : RS := frsA nc (sesA nc na A wo O ns (bgA B))
/-- slope and height behind i cells -/
def hgA (N : Nat → Int32) : Nat → Int32 × Int32
  | 0 => (0, 0)
  | i + 1 => ((hgA N i).1 + N (24 + i), (hgA N i).2 + ((hgA N i).1 + N (24 + i)))
def abA (v : Int32) : Int32 := if v < 0 then -v else v
def mxA (nc : Nat) (N : Nat → Int32) : Nat → Int32
  | 0 => 0
  | i + 1 => if mxA nc N i < abA (nI nc * (hgA N i).2 - nI i * (hgA N nc).2) then abA (nI nc * (hgA N i).2 - nI i * (hgA N nc).2) else mxA nc N i
def offA (nc : Nat) (N : Nat → Int32) : Int32 := mxA nc N (nc + 1) / nI nc
/-- orders: all of them, by numbers; those that fit; the nearest -/
def pmA (ns : Nat) : Nat → List Nat → List (List Nat)
  | 0, l => [l]
  | n + 1, l => (List.range ns).flatMap (fun s => if s ∈ l then [] else pmA ns n (l ++ [s]))
def orA (l : List Nat) : Nat → Int32 := fun k => nI (l.getD k 0)
def psA (O : Nat → Int32) (v : Int32) : Nat → Nat
  | 0 => 0
  | k + 1 => if O k = v then k else psA O v k
def ftA (ns nb : Nat) (AH BH O : Nat → Int32) : Bool := (List.range nb).all (fun b => decide (psA O (AH b) ns < psA O (BH b) ns))
def bsA (nc ns na nb : Nat) (A AH BH B : Nat → Int32) (acc : Option (Int32 × List Nat)) (l : List Nat) : Option (Int32 × List Nat) :=
  if ftA ns nb AH BH (orA l) then
    (match acc with
      | none => some (offA nc (goA nc ns na A B (orA l) (-1)).1, l)
      | some q => if offA nc (goA nc ns na A B (orA l) (-1)).1 < q.1 then some (offA nc (goA nc ns na A B (orA l) (-1)).1, l) else some q)
  else acc
def bestA (nc ns na nb : Nat) (A AH BH B : Nat → Int32) : Option (Int32 × List Nat) := (pmA ns ns []).foldl (bsA nc ns na nb A AH BH B) none
/-- the bends that are tried beforehand, in their order -/
def bvA (k : Nat) : Int32 := if k % 2 = 1 then -nI (k / 2) - 1 else nI (k / 2)
def flA (nc ns na : Nat) (A : Nat → Int32) (c k : Nat) : Bool := decide ((goA nc ns na A (fun _ => bvA k) (fun j => nI j) (-1)).1 (24 + c) = 0)
def bfA (nc ns na : Nat) (A : Nat → Int32) (c : Nat) : Nat → Int32
  | 0 => -1000000
  | k + 1 => if bfA nc ns na A c k = -1000000 then (if flA nc ns na A c k then bvA k else -1000000) else bfA nc ns na A c k
def ahA (nc ns na : Nat) (A : Nat → Int32) : Nat → Int32
  | 0 => bfA nc ns na A 0 81
  | c + 1 => if ahA nc ns na A c = -1000000 then -1000000 else bfA nc ns na A (c + 1) 81
def coolN : Nat → Nat → Nat
  | 0, h => h
  | n + 1, h => coolN n (3 * h / 4)
def bt (x : Int32) (i : Nat) : Bool := x.toBitVec.getLsbD i
/-- a panel of the program against the plain run -/
def PRel (nc : Nat) (r he ht ho be sp sk : Nat → Int32) (x : RS) : Prop :=
  r 7 = nI nc ∧ r 8 = x.2.2.2 ∧ (∃ w : Nat, x.2.2.2 = nI w ∧ w < 1000000 ∧ ∀ c, c < nc → ∃ h t : Nat, he c = nI h ∧ h ≤ 480 ∧ ht c = nI t ∧ t ≤ w ∧ x.1 c = nI (coolN (w - t) h)) ∧
  ∀ c, c < nc → ho c = x.1 (12 + c) ∧ be c = x.1 (24 + c) ∧ sp c = x.2.1 c ∧ x.1 (36 + c) = nI nc * sk c - r 9 ∧ (bt (r 6) c = true ↔ x.2.2.1 c = 1) ∧ (x.2.2.1 c = 0 ∨ x.2.2.1 c = 1)
/-- bounds after m acts -/
def Bd (nc m : Nat) (x : RS) : Prop :=
  (∃ w : Nat, x.2.2.2 = nI w ∧ w ≤ 30 * m) ∧ ∀ c, c < nc → (∃ h : Nat, x.1 c = nI h ∧ h ≤ 360) ∧ (∃ g : Nat, x.1 (12 + c) = nI g ∧ g ≤ 2 * m) ∧ (x.1 (24 + c)).toInt.natAbs + (x.2.1 c).toInt.natAbs ≤ 40 + 20 * m ∧ (x.2.2.1 c = 0 ∨ x.2.2.1 c = 1)
def ISh (la sz : Nat → Int32) (it : Nat → Nat → Int32) (ln mn im : Nat → Int32) : Prop :=
  (∀ s, s < 8 → (sz s = -1 ∧ ln s = -1) ∨ (∃ n l : Nat, n ≤ 40 ∧ l < 3 ∧ sz s = nI n ∧ mn s = nI n ∧ la s = nI l ∧ ln s = nI l)) ∧ (∀ s j, s < 8 → j < 40 → it s j = im (40 * s + j))
def ITp (z : Int32) (bs : Nat → Int32) (td : Int32) (tp : Nat → Int32) : Prop := ∃ n, n ≤ 500 ∧ z = nI n ∧ td = nI n ∧ ∀ j, j < n → ∃ v, v < 256 ∧ tp j = nI v ∧ bs j = (nI v).toInt8.toInt32
def IPl (nc ns na nb : Nat) (r kd pc st sm se nd A AH BH : Nat → Int32) : Prop :=
  (r 0 = nI nc ∧ r 1 = nI ns ∧ r 2 = nI na ∧ r 3 = nI nb) ∧ (nc = 0 ∧ ns = 0 ∧ na = 0 ∧ nb = 0 ∨ 4 ≤ nc ∧ nc ≤ 12 ∧ ns ≤ 6 ∧ na ≤ 40 ∧ nb ≤ 10) ∧
  (∀ a, a < na → ∃ k c s q : Nat, k < 10 ∧ s < ns ∧ kd a = nI k ∧ A (4 * a) = nI (k + 1) ∧ pc a = nI c ∧ A (4 * a + 1) = nI c ∧ sm a = nI s ∧ A (4 * a + 3) = nI s ∧ (k = 7 → c ≤ 30) ∧ (k ≠ 7 → c < nc) ∧ (k < 7 → 1 ≤ q ∧ q ≤ 20 ∧ st a = nI q ∧ A (4 * a + 2) = nI q) ∧ (7 ≤ k → A (4 * a + 2) = -1000000)) ∧
  (∃ E : Nat → Nat, E 0 = 0 ∧ E ns = na ∧ (∀ s, s < ns → E s ≤ E (s + 1) ∧ E (s + 1) ≤ na ∧ se s = nI (E (s + 1))) ∧ (∀ a s, s < ns → E s ≤ a → a < E (s + 1) → A (4 * a + 3) = nI s)) ∧
  (∀ b, b < nb → ∃ f l, f < ns ∧ l < ns ∧ f ≠ l ∧ AH b = nI f ∧ BH b = nI l) ∧
  (∀ s, s < ns → ∃ w : Nat, w < 64 ∧ nd s = nI w ∧ ∀ f, f < 6 → (w.testBit f = true ↔ ∃ b, b < nb ∧ AH b = nI f ∧ BH b = nI s))
def ILa (nc : Nat) (ran isr lm : Int32) (left opd r he ht ho be sp sk : Nat → Int32) : Prop :=
  ∃ x : RS, PRel nc r he ht ho be sp sk x ∧ Bd nc 240 x ∧ ((ran = 1 ∧ isr = 1 ∧ lm = x.2.2.2 ∧ ∀ k, k < 48 → left k = x.1 k) ∨ (ran = 0 ∧ isr = 0 ∧ x = bgA opd))
def ISe (nc ns na nb : Nat) (A AH BH B : Nat → Int32) (kn fi lo : Int32) (nr : Nat → Int32) : Prop :=
  kn = 0 ∨ (kn = 1 ∧ (match bestA nc ns na nb A AH BH B with
    | none => fi = 0
    | some q => fi = 1 ∧ lo = q.1 ∧ ∀ k, k < ns → nr k = orA q.2 k))
def IBe (nc ns na : Nat) (A : Nat → Int32) (kn : Int32) (bs : Nat → Int32) : Prop := kn = 0 ∨ (kn = 1 ∧ ∀ c, c < nc → bs c = ahA nc ns na A c)
def IAs (mn : Int32) (bg : Nat → Int32) (td : Int32) (tr : Nat → Int32) : Prop := ∃ n : Nat, n ≤ 16 ∧ mn = nI n ∧ td = nI n ∧ ∀ j, j < n → bg j = tr j
/-- what holds between calls, of the plan at p -/
def Core (μ : MT) (p d nc ns na nb : Nat) : Prop :=
  ISh (μ 2) (μ 3) (fun s => μ (5 + s)) (μ 107) (μ 108) (μ 109) ∧ (μ 0 15 = μ 106 1 ∧ μ 0 14 = μ 106 21) ∧ ITp (μ 13 1) (μ 14) (μ 106 20) (μ 116) ∧
  (isPl p ∧ isPl d ∧ p ≠ d ∧ μ 0 11 = nI p ∧ μ 0 12 = nI d) ∧ IPl nc ns na nb (μ p) (μ (p + 1)) (μ (p + 2)) (μ (p + 3)) (μ (p + 4)) (μ (p + 5)) (μ (p + 6)) (μ 110) (μ 111) (μ 112) ∧
  (μ 106 5 = nI nc ∧ μ 106 6 = nI ns ∧ μ 106 7 = nI na ∧ μ 106 8 = nI nb) ∧ (∀ c, c < 12 → μ 16 c = μ 117 c ∧ -40 ≤ (μ 117 c).toInt ∧ (μ 117 c).toInt ≤ 40) ∧
  (∀ k, k < ns → ∃ s, s < ns ∧ μ 17 k = nI s ∧ μ 118 k = nI s) ∧ ILa nc (μ 0 13) (μ 106 31) (μ 106 37) (μ 122) (μ 117) (μ 19) (μ 20) (μ 21) (μ 22) (μ 23) (μ 24) (μ 25) ∧
  ISe nc ns na nb (μ 110) (μ 111) (μ 112) (μ 117) (μ 33 4) (μ 33 5) (μ 33 6) (μ 36) ∧ IBe nc ns na (μ 110) (μ 87 2) (μ 88) ∧ IAs (μ 90 1) (μ 91) (μ 106 42) (μ 126) ∧
  (μ 1000 = μf 1000 ∧ μ 1001 = μf 1001 ∧ μ 1002 = μf 1002 ∧ μ 1003 = μf 1003)
def Inv (μ : MT) : Prop := ∃ p d nc ns na nb, Core μ p d nc ns na nb
end
section
/-! ===== what a call leaves of the rest ===== -/
theorem c_mk {μ ν : MT} {p d nc ns na nb : Nat} (h : Core μ p d nc ns na nb)
    (k1 : (ν 2 = μ 2 ∧ ν 3 = μ 3 ∧ (∀ s, s < 8 → ν (5 + s) = μ (5 + s)) ∧ ν 107 = μ 107 ∧ ν 108 = μ 108 ∧ ν 109 = μ 109) ∨ ISh (ν 2) (ν 3) (fun s => ν (5 + s)) (ν 107) (ν 108) (ν 109))
    (k2 : ν 0 15 = ν 106 1) (k2b : (ν 0 14 = μ 0 14 ∧ ν 106 21 = μ 106 21) ∨ ν 0 14 = ν 106 21)
    (k3 : (ν 13 1 = μ 13 1 ∧ ν 14 = μ 14 ∧ ν 106 20 = μ 106 20 ∧ ν 116 = μ 116) ∨ ITp (ν 13 1) (ν 14) (ν 106 20) (ν 116))
    (k4 : ν 0 11 = μ 0 11 ∧ ν 0 12 = μ 0 12) (k5 : ∀ i, i < 7 → ν (p + i) = μ (p + i)) (k5b : ν 110 = μ 110 ∧ ν 111 = μ 111 ∧ ν 112 = μ 112)
    (k6 : ν 106 5 = μ 106 5 ∧ ν 106 6 = μ 106 6 ∧ ν 106 7 = μ 106 7 ∧ ν 106 8 = μ 106 8)
    (k7 : (ν 16 = μ 16 ∧ ν 117 = μ 117) ∨ ∀ c, c < 12 → ν 16 c = ν 117 c ∧ -40 ≤ (ν 117 c).toInt ∧ (ν 117 c).toInt ≤ 40)
    (k8 : (ν 17 = μ 17 ∧ ν 118 = μ 118) ∨ ∀ k, k < ns → ∃ s, s < ns ∧ ν 17 k = nI s ∧ ν 118 k = nI s)
    (k9 : (ν 0 13 = μ 0 13 ∧ ν 106 31 = μ 106 31 ∧ ν 106 37 = μ 106 37 ∧ ν 122 = μ 122 ∧ ν 117 = μ 117 ∧ ν 19 = μ 19 ∧ ν 20 = μ 20 ∧ ν 21 = μ 21 ∧ ν 22 = μ 22 ∧ ν 23 = μ 23 ∧ ν 24 = μ 24 ∧ ν 25 = μ 25) ∨ ILa nc (ν 0 13) (ν 106 31) (ν 106 37) (ν 122) (ν 117) (ν 19) (ν 20) (ν 21) (ν 22) (ν 23) (ν 24) (ν 25))
    (k10 : (ν 117 = μ 117 ∧ ν 33 4 = μ 33 4 ∧ ν 33 5 = μ 33 5 ∧ ν 33 6 = μ 33 6 ∧ ν 36 = μ 36) ∨ ISe nc ns na nb (ν 110) (ν 111) (ν 112) (ν 117) (ν 33 4) (ν 33 5) (ν 33 6) (ν 36))
    (k11 : (ν 87 2 = μ 87 2 ∧ ν 88 = μ 88) ∨ IBe nc ns na (ν 110) (ν 87 2) (ν 88))
    (k12 : (ν 90 1 = μ 90 1 ∧ ν 91 = μ 91 ∧ ν 106 42 = μ 106 42 ∧ ν 126 = μ 126) ∨ IAs (ν 90 1) (ν 91) (ν 106 42) (ν 126))
    (k13 : ν 1000 = μ 1000 ∧ ν 1001 = μ 1001 ∧ ν 1002 = μ 1002 ∧ ν 1003 = μ 1003) : Core ν p d nc ns na nb := by
  obtain ⟨c1, c2, c3, c4, c5, c6, c7, c8, c9, c10, c11, c12, c13⟩ := h
  refine ⟨?_, ⟨k2, ?_⟩, ?_, ?_, ?_, ?_, ?_, ?_, ?_, ?_, ?_, ?_, ?_⟩
  · rcases k1 with ⟨e1, e2, e3, e4, e5, e6⟩ | k1
    · rw [e1, e2, e4, e5, e6]
      refine ⟨c1.1, fun s j hs hj => ?_⟩
      simp only [e3 s hs]
      exact c1.2 s j hs hj
    · exact k1
  · rcases k2b with ⟨e1, e2⟩ | k
    · rw [e1, e2]; exact c2.2
    · exact k
  · rcases k3 with ⟨e1, e2, e3, e4⟩ | k
    · rw [e1, e2, e3, e4]; exact c3
    · exact k
  · rw [k4.1, k4.2]; exact c4
  · have e0 := k5 0 (by omega)
    rw [Nat.add_zero] at e0
    rw [e0, k5 1 (by omega), k5 2 (by omega), k5 3 (by omega), k5 4 (by omega), k5 5 (by omega), k5 6 (by omega), k5b.1, k5b.2.1, k5b.2.2]
    exact c5
  · rw [k6.1, k6.2.1, k6.2.2.1, k6.2.2.2]; exact c6
  · rcases k7 with ⟨e1, e2⟩ | k
    · rw [e1, e2]; exact c7
    · exact k
  · rcases k8 with ⟨e1, e2⟩ | k
    · rw [e1, e2]; exact c8
    · exact k
  · rcases k9 with ⟨e1, e2, e3, e4, e5, e6, e7, e8, e9, e10, e11, e12⟩ | k
    · rw [e1, e2, e3, e4, e5, e6, e7, e8, e9, e10, e11, e12]; exact c9
    · exact k
  · rcases k10 with ⟨e1, e2, e3, e4, e5⟩ | k
    · rw [k5b.1, k5b.2.1, k5b.2.2, e1, e2, e3, e4, e5]; exact c10
    · exact k
  · rcases k11 with ⟨e1, e2⟩ | k
    · rw [k5b.1, e1, e2]; exact c11
    · exact k
  · rcases k12 with ⟨e1, e2, e3, e4⟩ | k
    · rw [e1, e2, e3, e4]; exact c12
    · exact k
  · rw [k13.1, k13.2.1, k13.2.2.1, k13.2.2.2]; exact c13
/-- nothing but unimportant rows, and the status -/
theorem c_st {μ ν : MT} {p d nc ns na nb : Nat} (h : Core μ p d nc ns na nb) (k2 : ν 0 15 = ν 106 1) (k0 : ∀ j, 11 ≤ j → j < 15 → ν 0 j = μ 0 j)
    (k6 : ∀ j, (5 ≤ j ∧ j < 9) ∨ j = 20 ∨ j = 21 ∨ j = 31 ∨ j = 37 ∨ j = 42 → ν 106 j = μ 106 j) (kp : ∀ i, i < 7 → ν (p + i) = μ (p + i))
    (kr : ∀ k, k ≠ 0 → k < 26 ∧ k ≠ 18 ∧ k ≠ 15 ∨ k = 33 ∨ k = 36 ∨ k = 87 ∨ k = 88 ∨ k = 90 ∨ k = 91 ∨ (107 ≤ k ∧ k < 113) ∨ (116 ≤ k ∧ k < 119) ∨ k = 122 ∨ k = 126 ∨ (1000 ≤ k ∧ k < 1004) → ν k = μ k) : Core ν p d nc ns na nb := by
  have e33 := kr 33 (by omega) (by omega)
  have e87 := kr 87 (by omega) (by omega)
  have e90 := kr 90 (by omega) (by omega)
  have e13 := kr 13 (by omega) (by omega)
  refine c_mk h (Or.inl ⟨?_, ?_, ?_, ?_, ?_, ?_⟩) k2 (Or.inl ⟨k0 14 (by omega) (by omega), k6 21 (by omega)⟩) (Or.inl ⟨?_, ?_, k6 20 (by omega), ?_⟩) ⟨k0 11 (by omega) (by omega), k0 12 (by omega) (by omega)⟩ kp ⟨?_, ?_, ?_⟩ ⟨k6 5 (by omega), k6 6 (by omega), k6 7 (by omega), k6 8 (by omega)⟩ (Or.inl ⟨?_, ?_⟩) (Or.inl ⟨?_, ?_⟩) (Or.inl ⟨k0 13 (by omega) (by omega), k6 31 (by omega), k6 37 (by omega), ?_, ?_, ?_, ?_, ?_, ?_, ?_, ?_, ?_⟩) (Or.inl ⟨?_, ?_, ?_, ?_, ?_⟩) (Or.inl ⟨?_, ?_⟩) (Or.inl ⟨?_, ?_, k6 42 (by omega), ?_⟩) ⟨?_, ?_, ?_, ?_⟩
  all_goals first
    | rw [e33]
    | rw [e87]
    | rw [e90]
    | rw [e13]
    | exact kr _ (by omega) (by omega)
    | exact fun s hs => kr _ (by omega) (by omega)
/-! ===== sheets ===== -/
theorem q_hasN (k : Nat) (a : Int32) (μ : MT) : m_X6_hasNumber Zc k a μ = some (bI (0 ≤ a.toInt ∧ a.toInt < 8)) := by
  unfold m_X6_hasNumber bI
  simp only [fa_lt, fa_le]
  rw [show (8 : Int32).toInt = 8 from rfl, show (0 : Int32).toInt = 0 from rfl]
  by_cases h1 : a.toInt < 0
  · rw [if_pos h1, if_neg (by omega)]
  · by_cases h2 : 8 ≤ a.toInt
    · rw [if_neg h1, if_pos h2, if_neg (by omega)]
    · rw [if_neg h1, if_neg h2, if_pos (by omega)]
theorem q_isSh (a : Int32) (μ : MT) : m_X9_isSheet Zc a μ = some (bI (0 ≤ a.toInt ∧ a.toInt < 8)) := by
  unfold m_X9_isSheet
  rw [q_in, ob_s, bz_b, ob_s, Int32.toInt_toInt64, show (0 : Int64).toInt = 0 from rfl, show (7 : Int64).toInt = 7 from rfl]
  unfold bI
  congr 1
  by_cases h : 0 ≤ a.toInt ∧ a.toInt < 8
  · rw [if_pos h, if_pos (by omega)]
  · rw [if_neg h, if_neg (by omega)]
theorem q_mis {μ : MT} {s : Nat} (hs : s < 8) : m_X6_isMissing Zc 1 (nI s) μ = some (bI (μ 3 s = -1)) := by
  unfold m_X6_isMissing bI
  simp (disch := omega) only [zA, zD, zE, ob_s, x_lt, x_ltl, x_llt, x_le, x_lel, x_lle, x_eq, x_eql, x_eqm, x_al, x_la, x_a, x_ml, x_lm, x_m, x_cl, if_true, if_false, jn, x_d4, x_d2, bz_b, bz_0, bz_1, and_self, not_true_eq_false, not_false_eq_true, true_and, and_true, Nat.not_lt_zero, show ¬ 8 ≤ s by omega]
  by_cases h : μ 3 s = -1
  · simp only [h, if_true, ob_s, jn]
  · simp only [h, if_false, ob_s, jn]
theorem u2_w {μ : MT} {k j k1 : Nat} {v : Int32} : u2 μ k j v k1 = if k1 = k then upd (μ k) j v else μ k1 := rfl
theorem u1_w {μ : MT} {k k1 : Nat} {f : Nat → Int32} : u1 μ k f k1 = if k1 = k then f else μ k1 := rfl
/-- only the status changes, and the reference's mark of throws -/
theorem c_s1 {μ : MT} {p d nc ns na nb : Nat} (h : Core μ p d nc ns na nb) (v : Int32) : Core (u2 (u2 (u2 (u2 μ 0 15 v) 106 0 0) 106 1 0) 106 1 v) p d nc ns na nb := by
  have hp := isPl_le h.2.2.2.1.1
  have hq := h.2.2.2.1.1
  unfold isPl at hq
  refine c_st h ?_ ?_ ?_ ?_ ?_
  · simp only [u2_r]
    simp
  · intro j h1 h2
    simp only [u2_r]
    grind
  · intro j h1
    simp only [u2_r]
    grind
  · intro i hi
    simp only [u2_w]
    grind
  · intro k h0 h1
    simp only [u2_w]
    grind
theorem c_s0 {μ : MT} {p d nc ns na nb : Nat} (h : Core μ p d nc ns na nb) : Core (u2 μ 106 0 0) p d nc ns na nb := by
  have hp := isPl_le h.2.2.2.1.1
  have hq := h.2.2.2.1.1
  unfold isPl at hq
  refine c_st h ?_ ?_ ?_ ?_ ?_
  · have := h.2.1.1
    simp only [u2_r]
    simp [this]
  · intro j h1 h2
    simp only [u2_r]
    grind
  · intro j h1
    simp only [u2_r]
    grind
  · intro i hi
    simp only [u2_w]
    grind
  · intro k h0 h1
    simp only [u2_w]
    grind
theorem c_sheet {μ ν : MT} {p d nc ns na nb : Nat} (h : Core μ p d nc ns na nb) (hs : ISh (ν 2) (ν 3) (fun s => ν (5 + s)) (ν 107) (ν 108) (ν 109)) (k2 : ν 0 15 = ν 106 1)
    (k0 : ∀ j, j ≠ 15 → ν 0 j = μ 0 j) (k6 : ∀ j, j ≠ 0 → j ≠ 1 → ν 106 j = μ 106 j)
    (kr : ∀ k, k ≠ 0 → k ≠ 106 → (k < 2 ∨ 13 ≤ k) → (k < 107 ∨ 109 < k) → ν k = μ k) : Core ν p d nc ns na nb := by
  have hp := isPl_le h.2.2.2.1.1
  have hq := h.2.2.2.1.1
  unfold isPl at hq
  refine c_mk h (Or.inr hs) k2 (Or.inl ?_) (Or.inl ?_) ?_ ?_ ?_ ?_ (Or.inl ?_) (Or.inl ?_) (Or.inl ?_) (Or.inl ?_) (Or.inl ?_) (Or.inl ?_) ?_
  case refine_4 => exact fun i hi => kr _ (by omega) (by omega) (by omega) (by omega)
  all_goals (and_intros <;> first | exact k0 _ (by omega) | exact k6 _ (by omega) (by omega) | exact kr _ (by omega) (by omega) (by omega) (by omega) | exact congrFun (kr _ (by omega) (by omega) (by omega) (by omega)) _)
theorem op_drop {ν : MT} (h : Inv ν) (a0 : Int32) : OkI Inv (m_X8_drop Zc 0 a0 ν) (fun μ => m_X9_drop Zc 106 a0 μ) := by
  obtain ⟨p, d, nc, ns, na, nb, h⟩ := h
  by_cases hs : 0 ≤ a0.toInt ∧ a0.toInt < 8
  · have hs' := hs
    obtain ⟨s, hs1, rfl⟩ := nI_ex (n := 8) hs.1 hs.2
    have c1 := h.1.1 s hs1
    rcases c1 with ⟨e1, e2⟩ | ⟨n, l, hn, hl, e1, e2, e3, e4⟩
    · refine ⟨-1000010 - 1, u2 ν 0 15 1, _, ?_, ?_, p, d, nc, ns, na, nb, c_s1 h 1⟩
      · simp (disch := omega) only [m_X8_drop, zA, zD, zE, ob_s, x_lt, x_ltl, x_llt, x_le, x_lel, x_lle, x_eq, x_eql, x_eqm, x_al, x_la, x_a, x_ml, x_lm, x_m, x_cl, if_true, if_false, jn, x_d4, x_d2, bz_b, bz_0, bz_1, and_self, not_true_eq_false, not_false_eq_true, true_and, and_true, q_hasN, bI_0, hs', q_mis, e1, m_X8_found]
      · simp (disch := omega) only [m_X9_drop, zA, zD, zE, ob_s, x_lt, x_ltl, x_llt, x_le, x_lel, x_lle, x_eq, x_eql, x_eqm, x_al, x_la, x_a, x_ml, x_lm, x_m, x_cl, if_true, if_false, jn, x_d4, x_d2, bz_b, bz_0, bz_1, and_self, not_true_eq_false, not_false_eq_true, true_and, and_true, q_isSh, bI_0, hs', m_X9_finding, u2_r, e2]
        simp [e2]
    · refine ⟨nI n, u2 (u2 ν 3 s (-1)) 0 15 0, u2 (u2 (u2 (u2 (u2 ν 3 s (-1)) 0 15 0) 106 0 0) 106 1 0) 107 s (-1), ?_, ?_, p, d, nc, ns, na, nb, ?_⟩
      · simp (disch := omega) only [m_X8_drop, zA, zD, zE, ob_s, x_lt, x_ltl, x_llt, x_le, x_lel, x_lle, x_eq, x_eql, x_eqm, x_al, x_la, x_a, x_ml, x_lm, x_m, x_cl, if_true, if_false, jn, x_d4, x_d2, bz_b, bz_0, bz_1, and_self, not_true_eq_false, not_false_eq_true, true_and, and_true, q_hasN, bI_0, hs', q_mis, e1, m_X8_fine, m_X6_takeAway, x_eqm]
      · simp (disch := omega) only [m_X9_drop, zA, zD, zE, ob_s, x_lt, x_ltl, x_llt, x_le, x_lel, x_lle, x_eq, x_eql, x_eqm, x_al, x_la, x_a, x_ml, x_lm, x_m, x_cl, if_true, if_false, jn, x_d4, x_d2, bz_b, bz_0, bz_1, and_self, not_true_eq_false, not_false_eq_true, true_and, and_true, q_isSh, bI_0, hs', m_X9_finding, u2_r, e2, e4]
        simp (disch := omega) [e4, e2, x_lle]
      · have c1 := h.1
        refine c_sheet h ⟨fun t ht => ?_, fun t j ht hj => ?_⟩ ?_ ?_ ?_ ?_
        · have := c1.1 t ht
          simp only [u2_r]
          by_cases hts : t = s
          · subst hts; left; simp
          · simpa [hts] using this
        · have := c1.2 t j ht hj
          simp only [u2_r]
          grind
        · simp only [u2_r]; simp
        · intro j hj; simp only [u2_r]; grind
        · intro j hj hj2; simp only [u2_r]; grind
        · intro k h1 h2 h3 h4; simp only [u2_w]; grind
  · refine ⟨-1000001, ν, u2 ν 106 0 0, ?_, ?_, p, d, nc, ns, na, nb, c_s0 h⟩
    · simp (disch := omega) only [m_X8_drop, zA, zD, zE, ob_s, x_lt, x_ltl, x_llt, x_le, x_lel, x_lle, x_eq, x_eql, x_eqm, x_al, x_la, x_a, x_ml, x_lm, x_m, x_cl, if_true, if_false, jn, x_d4, x_d2, bz_b, bz_0, bz_1, and_self, not_true_eq_false, not_false_eq_true, true_and, and_true, q_hasN, bI_0, hs]
    · simp (disch := omega) only [m_X9_drop, zA, zD, zE, ob_s, x_lt, x_ltl, x_llt, x_le, x_lel, x_lle, x_eq, x_eql, x_eqm, x_al, x_la, x_a, x_ml, x_lm, x_m, x_cl, if_true, if_false, jn, x_d4, x_d2, bz_b, bz_0, bz_1, and_self, not_true_eq_false, not_false_eq_true, true_and, and_true, q_isSh, bI_0, hs]
theorem ti_sub {a b : Int32} (h1 : -2147483648 ≤ a.toInt - b.toInt) (h2 : a.toInt - b.toInt < 2147483648) : (a - b).toInt = a.toInt - b.toInt := by
  rw [Int32.toInt_sub]
  exact Int.bmod_eq_of_le (by omega) (by omega)
theorem ti_add {a b : Int32} (h1 : -2147483648 ≤ a.toInt + b.toInt) (h2 : a.toInt + b.toInt < 2147483648) : (a + b).toInt = a.toInt + b.toInt := by
  rw [Int32.toInt_add]
  exact Int.bmod_eq_of_le (by omega) (by omega)
theorem ti_mul {a b : Int32} (h1 : -2147483648 ≤ a.toInt * b.toInt) (h2 : a.toInt * b.toInt < 2147483648) : (a * b).toInt = a.toInt * b.toInt := by
  rw [Int32.toInt_mul]
  exact Int.bmod_eq_of_le (by omega) (by omega)
theorem ti_neg {a : Int32} (h2 : -2147483648 < a.toInt) : (-a).toInt = -a.toInt := by
  rw [Int32.toInt_neg]
  have := Int32.toInt_lt a
  exact Int.bmod_eq_of_le (by omega) (by omega)
theorem ti_lo (a : Int32) : -2147483648 ≤ a.toInt := Int32.le_toInt a
theorem ti_hi (a : Int32) : a.toInt < 2147483648 := Int32.toInt_lt a
theorem q_find {μ : MT} {s z : Nat} {i n : Int32} (hs : s < 8) (e : μ 3 s = nI z) (hz : z ≤ 40) : m_X6_findingAt Zc 1 (nI s) i n μ = some (if 0 ≤ i.toInt ∧ 0 ≤ n.toInt ∧ i.toInt + n.toInt ≤ z then 0 else 2) := by
  unfold m_X6_findingAt
  simp (disch := omega) only [zA, zD, zE, ob_s, x_lt, x_ltl, x_llt, x_le, x_lel, x_lle, x_eq, x_eql, x_eqm, x_al, x_la, x_a, x_ml, x_lm, x_m, x_cl, if_true, if_false, jn, x_d4, x_d2, bz_b, bz_0, bz_1, and_self, not_true_eq_false, not_false_eq_true, true_and, and_true, q_mis, e, bI_0]
  simp only [fa_lt, fa_le, show (0 : Int32).toInt = 0 from rfl]
  have l1 := ti_hi n
  by_cases h1 : i.toInt < 0
  · rw [if_pos h1, if_neg (by omega)]; rfl
  · by_cases h2 : n.toInt < 0
    · rw [if_neg h1, if_pos h2, if_neg (by omega)]; rfl
    · rw [if_neg h1, if_neg h2, ti_sub (by rw [ti_n (by omega)]; omega) (by rw [ti_n (by omega)]; omega), ti_n (by omega)]
      by_cases h3 : i.toInt ≤ z - n.toInt
      · rw [if_pos h3, if_pos (by omega)]; rfl
      · rw [if_neg h3, if_neg (by omega)]; rfl
theorem q_find1 {μ : MT} {s : Nat} {i n : Int32} (hs : s < 8) (e : μ 3 s = -1) : m_X6_findingAt Zc 1 (nI s) i n μ = some 1 := by
  unfold m_X6_findingAt
  rw [q_mis hs, ob_s, bI_t e, if_neg (by decide)]
theorem mrd_p {p : Nat} (h : isPl p) : mrd Zc 127 3 (nI p) = some p := by
  unfold mrd
  have := isPl_le h
  rw [x_cl (by omega), if_pos (zq_k h)]
theorem q_hasNs {k s : Nat} {μ : MT} (hs : s < 8) : m_X6_hasNumber Zc k (nI s) μ = some 1 := by
  rw [q_hasN, bI_t (by rw [ti_n (by omega)]; omega)]
theorem q_isShs {s : Nat} {μ : MT} (hs : s < 8) : m_X9_isSheet Zc (nI s) μ = some 1 := by
  rw [q_isSh, bI_t (by rw [ti_n (by omega)]; omega)]
theorem one0 : ((1 : Int32) = 0) = False := by decide
theorem ti_n1 {n : Nat} (h : n < 1000000) : (nI n - 1).toInt = n - 1 := by
  rw [ti_sub (by rw [ti_n (by omega), show (1 : Int32).toInt = 1 from rfl]; omega) (by rw [ti_n (by omega), show (1 : Int32).toInt = 1 from rfl]; omega), ti_n (by omega)]; rfl
/-- 'in' from 0 to n - 1 -/
theorem q_in0 {a : Int32} {n : Nat} {μ : MT} (h : n < 1000000) : m_X9_in Zc a.toInt64 0 (nI n - 1).toInt64 μ = some (bI (0 ≤ a.toInt ∧ a.toInt < n)) := by
  rw [q_in, Int32.toInt_toInt64, Int32.toInt_toInt64, ti_n1 h, show (0 : Int64).toInt = 0 from rfl]
  unfold bI
  by_cases hc : 0 ≤ a.toInt ∧ a.toInt < n
  · rw [if_pos hc, if_pos (by omega)]
  · rw [if_neg hc, if_neg (by omega)]
theorem q_in0s {i n : Nat} {μ : MT} (hi : i < n) (h : n < 1000000) : m_X9_in Zc (nI i).toInt64 0 (nI n - 1).toInt64 μ = some 1 := by
  rw [q_in0 h, bI_t (by rw [ti_n (by omega)]; omega)]
theorem ard_4 {s : Nat} (hs : s < 8) : ard Zc 4 (nI s) = some (5 + s) := by
  rw [ard_n (n := 8) (by simp only [zA]) hs (by omega), zr_4 hs]
theorem ard_34 {s : Nat} (hs : s < 7) : ard Zc 34 (nI s) = some (38 + 7 * s) := by
  rw [ard_n (n := 7) (by simp only [zA]) hs (by omega), zr_34 hs]
theorem al_5 {μ : MT} {s i : Nat} (hs : s < 8) (hi : i < 40) : ald Zc μ (5 + s) (nI i) = some (μ (5 + s) i) := ald_n (zl_5s hs) hi (by omega)
theorem as_5 {μ : MT} {s i : Nat} {v : Int32} (hs : s < 8) (hi : i < 40) : ast Zc μ (5 + s) (nI i) v = some (u2 μ (5 + s) i v) := ast_n (zl_5s hs) hi (by omega)
end
section
theorem op_set {ν : MT} (h : Inv ν) (a0 a1 a2 : Int32) : OkI Inv (m_X8_set Zc 0 a0 a1 a2 ν) (fun μ => m_X9_set Zc 106 a0 a1 a2 μ) := by
  obtain ⟨p, d, nc, ns, na, nb, h⟩ := h
  by_cases hs : 0 ≤ a0.toInt ∧ a0.toInt < 8
  · obtain ⟨s, hs1, rfl⟩ := nI_ex (n := 8) hs.1 hs.2
    have c1 := h.1.1 s hs1
    rcases c1 with ⟨e1, e2⟩ | ⟨n, l, hn, hl, e1, e2, e3, e4⟩
    · refine ⟨-1000010 - 1, u2 ν 0 15 1, _, ?_, ?_, p, d, nc, ns, na, nb, c_s1 h 1⟩
      · simp (disch := omega) only [m_X8_set, zA, zD, zE, ob_s, x_lt, x_ltl, x_llt, x_le, x_lel, x_lle, x_eq, x_eql, x_eqm, x_al, x_la, x_a, x_ml, x_lm, x_m, x_cl, if_true, if_false, jn, x_d4, x_d2, bz_b, bz_0, bz_1, and_self, not_true_eq_false, not_false_eq_true, true_and, and_true, q_hasNs, one0, q_find1, e1, m_X8_found]
      · simp (disch := omega) only [m_X9_set, zA, zD, zE, ob_s, x_lt, x_ltl, x_llt, x_le, x_lel, x_lle, x_eq, x_eql, x_eqm, x_al, x_la, x_a, x_ml, x_lm, x_m, x_cl, if_true, if_false, jn, x_d4, x_d2, bz_b, bz_0, bz_1, and_self, not_true_eq_false, not_false_eq_true, true_and, and_true, q_isShs, one0, m_X9_finding, u2_r, e2]
        simp [e2]
    · by_cases hi : 0 ≤ a1.toInt ∧ a1.toInt < n
      · obtain ⟨i, hi1, rfl⟩ := nI_ex (n := n) hi.1 hi.2
        rw [ti_n (by omega)] at hi
        have hwx : ∃ w : Int32, w = if l = 0 then a2.toInt8.toInt32 else if l = 1 then a2.toInt16.toInt32 else a2 := ⟨_, rfl⟩
        obtain ⟨w, hwe⟩ := hwx
        refine ⟨w, u2 (u2 ν (5 + s) i w) 0 15 0, u2 (u2 (u2 (u2 (u2 ν (5 + s) i w) 0 15 0) 106 0 0) 106 1 0) 109 (40 * s + i) w, ?_, ?_, p, d, nc, ns, na, nb, ?_⟩
        · have hc : (0 ≤ (nI i).toInt ∧ 0 ≤ (1 : Int32).toInt ∧ (nI i).toInt + (1 : Int32).toInt ≤ n) := by rw [ti_n (by omega), show (1 : Int32).toInt = 1 from rfl]; omega
          have hw : m_X6_narrowed Zc (nI l) a2 ν = some w := by
            unfold m_X6_narrowed
            simp (disch := omega) only [x_eql]
            rcases (by omega : l = 0 ∨ l = 1 ∨ l = 2) with rfl | rfl | rfl <;> (rw [hwe]; rfl)
          simp (disch := omega) only [m_X8_set, zA, zD, zE, ob_s, x_lt, x_ltl, x_llt, x_le, x_lel, x_lle, x_eq, x_eql, x_eqm, x_al, x_la, x_a, x_ml, x_lm, x_m, x_cl, if_true, if_false, jn, x_d4, x_d2, bz_b, bz_0, bz_1, and_self, not_true_eq_false, not_false_eq_true, true_and, and_true, q_hasNs, one0, q_find hs1 e1 hn, hc, m_X6_put, ard_4, al_5, as_5, e3, hw, m_X8_fine, u2_r]
        · have g1 : ¬ 107 = 5 + s := by omega
          have g2 : ¬ 108 = 5 + s := by omega
          simp (disch := omega) only [m_X9_set, zA, zD, zE, ob_s, x_lt, x_ltl, x_llt, x_le, x_lel, x_lle, x_eq, x_eql, x_eqm, x_al, x_la, x_a, x_ml, x_lm, x_m, x_cl, if_true, if_false, jn, x_d4, x_d2, bz_b, bz_0, bz_1, and_self, not_true_eq_false, not_false_eq_true, true_and, and_true, q_isShs, one0, m_X9_finding, u2_r, e2, e4, Nat.reduceEqDiff, false_and, g1, g2, q_in0s]
          rcases (by omega : l = 0 ∨ l = 1 ∨ l = 2) with rfl | rfl | rfl <;> simp [hwe]
        · have c1 := h.1
          refine c_sheet h ⟨fun t ht => ?_, fun t j ht hj => ?_⟩ ?_ ?_ ?_ ?_
          · have := c1.1 t ht
            simp only [u2_r]
            simpa [show ¬ 107 = 5 + s by omega, show ¬ 108 = 5 + s by omega, show ¬ 2 = 5 + s by omega, show ¬ 3 = 5 + s by omega] using this
          · have := c1.2 t j ht hj
            simp only [u2_r]
            grind
          · simp only [u2_r]; simp
          · intro j hj; simp only [u2_r]; grind
          · intro j hj hj2; simp only [u2_r]; grind
          · intro k h1 h2 h3 h4; simp only [u2_w]; grind
      · refine ⟨-1000010 - 2, u2 ν 0 15 2, _, ?_, ?_, p, d, nc, ns, na, nb, c_s1 h 2⟩
        · have hc : ¬ (0 ≤ a1.toInt ∧ 0 ≤ (1 : Int32).toInt ∧ a1.toInt + (1 : Int32).toInt ≤ n) := by rw [show (1 : Int32).toInt = 1 from rfl]; omega
          simp (disch := omega) only [m_X8_set, zA, zD, zE, ob_s, x_lt, x_ltl, x_llt, x_le, x_lel, x_lle, x_eq, x_eql, x_eqm, x_al, x_la, x_a, x_ml, x_lm, x_m, x_cl, if_true, if_false, jn, x_d4, x_d2, bz_b, bz_0, bz_1, and_self, not_true_eq_false, not_false_eq_true, true_and, and_true, q_hasNs, one0, q_find hs1 e1 hn, hc, m_X8_found]
          simp
        · simp (disch := omega) only [m_X9_set, zA, zD, zE, ob_s, x_lt, x_ltl, x_llt, x_le, x_lel, x_lle, x_eq, x_eql, x_eqm, x_al, x_la, x_a, x_ml, x_lm, x_m, x_cl, if_true, if_false, jn, x_d4, x_d2, bz_b, bz_0, bz_1, and_self, not_true_eq_false, not_false_eq_true, true_and, and_true, q_isShs, one0, m_X9_finding, u2_r, e2, e4, Nat.reduceEqDiff, false_and, q_in0, bI_0, hi]
          simp
  · refine ⟨-1000001, ν, u2 ν 106 0 0, ?_, ?_, p, d, nc, ns, na, nb, c_s0 h⟩
    · simp (disch := omega) only [m_X8_set, zA, zD, zE, ob_s, x_lt, x_ltl, x_llt, x_le, x_lel, x_lle, x_eq, x_eql, x_eqm, x_al, x_la, x_a, x_ml, x_lm, x_m, x_cl, if_true, if_false, jn, x_d4, x_d2, bz_b, bz_0, bz_1, and_self, not_true_eq_false, not_false_eq_true, true_and, and_true, q_hasN, bI_0, hs]
    · simp (disch := omega) only [m_X9_set, zA, zD, zE, ob_s, x_lt, x_ltl, x_llt, x_le, x_lel, x_lle, x_eq, x_eql, x_eqm, x_al, x_la, x_a, x_ml, x_lm, x_m, x_cl, if_true, if_false, jn, x_d4, x_d2, bz_b, bz_0, bz_1, and_self, not_true_eq_false, not_false_eq_true, true_and, and_true, q_isSh, bI_0, hs]
end
section
theorem op_sheet {ν : MT} (h : Inv ν) (a0 a1 a2 : Int32) : OkI Inv (m_X8_sheet Zc 0 a0 a1 a2 ν) (fun μ => m_X9_sheet Zc 106 a0 a1 a2 μ) := by
  obtain ⟨p, d, nc, ns, na, nb, h⟩ := h
  by_cases hs : (0 ≤ a0.toInt ∧ a0.toInt < 8) ∧ (0 ≤ a1.toInt ∧ a1.toInt < 3) ∧ a2.toInt ≤ 40
  · obtain ⟨hs, hl, hn⟩ := hs
    obtain ⟨s, hs1, rfl⟩ := nI_ex (n := 8) hs.1 hs.2
    obtain ⟨l, hl1, rfl⟩ := nI_ex (n := 3) hl.1 hl.2
    have g40 : a2 ≤ 40 := by rw [fa_le]; exact hn
    have gin : ∀ μ : MT, m_X9_in Zc (nI l).toInt64 0 2 μ = some 1 := fun μ => by
      rw [q_in, Int32.toInt_toInt64, ti_n (by omega), bI_t]
      rw [show (0 : Int64).toInt = 0 from rfl, show (2 : Int64).toInt = 2 from rfl]; omega
    by_cases hz : 0 ≤ a2.toInt
    · obtain ⟨n, hn1, rfl⟩ := nI_ex (n := 41) hz (by omega)
      refine ⟨nI n, u2 (u1 (u2 (u2 ν 2 s (nI l)) 3 s (nI n)) (5 + s) (fun j => if j < 40 then 0 else ν (5 + s) j)) 0 15 0, u1 (u2 (u2 (u2 (u2 (u2 (u1 (u2 (u2 ν 2 s (nI l)) 3 s (nI n)) (5 + s) (fun j => if j < 40 then 0 else ν (5 + s) j)) 0 15 0) 106 0 0) 106 1 0) 107 s (nI l)) 108 s (nI n)) 109 (fun q => if 40 * s ≤ q ∧ q < 40 * s + 40 then 0 else ν 109 q), ?_, ?_, p, d, nc, ns, na, nb, ?_⟩
      · simp (disch := omega) only [m_X8_sheet, zA, zD, zE, ob_s, x_lt, x_ltl, x_llt, x_le, x_lel, x_lle, x_eq, x_eql, x_eqm, x_al, x_la, x_a, x_ml, x_lm, x_m, x_cl, if_true, if_false, jn, x_d4, x_d2, bz_b, bz_0, bz_1, and_self, not_true_eq_false, not_false_eq_true, true_and, and_true, q_hasNs, one0, Nat.not_lt_zero, show ¬ 3 ≤ l by omega, g40, Nat.zero_le, m_X6_lay, ard_4, q_fill (zl_5s hs1), m_X8_fine, u2_w, show ¬ 5 + s = 3 by omega, show ¬ 5 + s = 2 by omega]
      · simp (disch := omega) only [m_X9_sheet, zA, zD, zE, ob_s, x_lt, x_ltl, x_llt, x_le, x_lel, x_lle, x_eq, x_eql, x_eqm, x_al, x_la, x_a, x_ml, x_lm, x_m, x_cl, if_true, if_false, jn, x_d4, x_d2, bz_b, bz_0, bz_1, and_self, not_true_eq_false, not_false_eq_true, true_and, and_true, q_isShs, one0, gin, g40, Nat.zero_le]
        apply ok_eq
        refine ok_for (fun i μ => μ = u1 (u2 (u2 (u2 (u2 (u2 (u1 (u2 (u2 ν 2 s (nI l)) 3 s (nI n)) (5 + s) (fun j => if j < 40 then 0 else ν (5 + s) j)) 0 15 0) 106 0 0) 106 1 0) 107 s (nI l)) 108 s (nI n)) 109 (fun q => if 40 * s ≤ q ∧ q < 40 * s + i then 0 else ν 109 q)) 0 40 (by omega) (by omega) rfl ?_ ?_ ?_
        · funext k j
          simp only [u1_w]
          by_cases hk : k = 109
          · subst hk
            simp only [u2_w, u1_w, if_true, show ¬ 109 = 5 + s by omega, show ¬ (40 * s ≤ j ∧ j < 40 * s + 0) by omega]
            simp
          · simp [hk]
        · rintro i μ _ hi rfl
          simp (disch := omega) only [zA, zD, zE, ob_s, x_lt, x_ltl, x_llt, x_le, x_lel, x_lle, x_eq, x_eql, x_eqm, x_al, x_la, x_a, x_ml, x_lm, x_m, x_cl, if_true, if_false, jn, x_d4, x_d2, bz_b, bz_0, bz_1, and_self, not_true_eq_false, not_false_eq_true, true_and, and_true, show ¬ 40 ≤ i by omega]
          refine ok_s (Or.inl ⟨_, rfl, ?_⟩)
          funext k j
          simp only [u2_w, u1_w]
          by_cases hk : k = 109
          · subst hk
            simp only [if_true, upd]
            grind
          · simp [hk]
        · rintro μ rfl
          simp (disch := omega) only [zA, zD, zE, ob_s, x_lt, x_ltl, x_llt, x_le, x_lel, x_lle, x_eq, x_eql, x_eqm, x_al, x_la, x_a, x_ml, x_lm, x_m, x_cl, if_true, if_false, jn, x_d4, x_d2, bz_b, bz_0, bz_1, and_self, not_true_eq_false, not_false_eq_true, true_and, and_true, Nat.le_refl]
          exact ok_s ⟨_, rfl, ok_s rfl⟩
      · have c1 := h.1
        refine c_sheet h ⟨fun t ht => ?_, fun t j ht hj => ?_⟩ ?_ ?_ ?_ ?_
        · have := c1.1 t ht
          simp only [u2_r, u1_r]
          by_cases hts : t = s
          · subst hts; right
            exact ⟨n, l, by omega, hl1, by simp [show ¬ 3 = 5 + t by omega], by simp, by simp [show ¬ 2 = 5 + t by omega], by simp⟩
          · simpa [hts, show ¬ 107 = 5 + s by omega, show ¬ 108 = 5 + s by omega, show ¬ 2 = 5 + s by omega, show ¬ 3 = 5 + s by omega] using this
        · have := c1.2 t j ht hj
          simp only [u2_r, u1_r]
          grind
        · simp only [u2_r, u1_r]; simp
        · intro j hj; simp only [u2_r, u1_r]; grind
        · intro j hj hj2; simp only [u2_r, u1_r]; grind
        · intro k h1 h2 h3 h4; simp only [u2_w, u1_w]; grind
    · have g0 : ¬ 0 ≤ a2 := by rw [fa_le]; exact hz
      refine ⟨-1000010 - 4, u2 ν 0 15 4, _, ?_, ?_, p, d, nc, ns, na, nb, c_s1 h 4⟩
      · simp (disch := omega) only [m_X8_sheet, zA, zD, zE, ob_s, x_lt, x_ltl, x_llt, x_le, x_lel, x_lle, x_eq, x_eql, x_eqm, x_al, x_la, x_a, x_ml, x_lm, x_m, x_cl, if_true, if_false, jn, x_d4, x_d2, bz_b, bz_0, bz_1, and_self, not_true_eq_false, not_false_eq_true, true_and, and_true, q_hasNs, one0, Nat.not_lt_zero, show ¬ 3 ≤ l by omega, g40, g0, m_X8_found]
      · simp (disch := omega) only [m_X9_sheet, zA, zD, zE, ob_s, x_lt, x_ltl, x_llt, x_le, x_lel, x_lle, x_eq, x_eql, x_eqm, x_al, x_la, x_a, x_ml, x_lm, x_m, x_cl, if_true, if_false, jn, x_d4, x_d2, bz_b, bz_0, bz_1, and_self, not_true_eq_false, not_false_eq_true, true_and, and_true, q_isShs, one0, gin, g40, g0, m_X9_finding]
  · refine ⟨-1000001, ν, u2 ν 106 0 0, ?_, ?_, p, d, nc, ns, na, nb, c_s0 h⟩
    · simp only [m_X8_sheet, q_hasN, ob_s, bI_0, fa_lt, fa_le, show (0 : Int32).toInt = 0 from rfl, show (3 : Int32).toInt = 3 from rfl, show (40 : Int32).toInt = 40 from rfl]
      by_cases h1 : 0 ≤ a0.toInt ∧ a0.toInt < 8
      · rw [if_neg (by simp only [h1]; simp)]
        by_cases h2 : a1.toInt < 0
        · rw [if_pos h2]
        · rw [if_neg h2]
          by_cases h3 : 3 ≤ a1.toInt
          · rw [if_pos h3]
          · rw [if_neg h3, if_neg (by omega)]
      · rw [if_pos h1]
    · simp only [m_X9_sheet, q_isSh, ob_s, bI_0, fa_lt, fa_le, q_in, Int32.toInt_toInt64, show (0 : Int32).toInt = 0 from rfl, show (40 : Int32).toInt = 40 from rfl, show (0 : Int64).toInt = 0 from rfl, show (2 : Int64).toInt = 2 from rfl]
      by_cases h1 : 0 ≤ a0.toInt ∧ a0.toInt < 8
      · rw [if_neg (by simp only [h1]; simp)]
        by_cases h2 : 0 ≤ a1.toInt ∧ a1.toInt ≤ 2
        · rw [if_neg (by simp only [h2]; simp), if_neg (by omega)]
        · rw [if_pos h2]
      · rw [if_pos h1]
end
section
theorem q9_copy {μ : MT} {s b i j m n n' l : Nat} (hs : s < 8) (hb : b < 8) (e4 : μ 107 s = nI l) (f4 : μ 107 b = nI l) (e2 : μ 108 s = nI n) (f2 : μ 108 b = nI n') (hl : l < 3) (hn : n ≤ 40) (hn' : n' ≤ 40) (h1 : i + m ≤ n) (h2 : j + m ≤ n') :
    m_X9_copy Zc 106 (nI s) (nI i) (nI b) (nI j) (nI m) μ = some (nI m, u1 (u2 (u2 μ 106 0 0) 106 1 0) 109 (fun q => if 40 * b + j ≤ q ∧ q < 40 * b + j + m then μ 109 (40 * s + i + (q - (40 * b + j))) else μ 109 q)) := by
  have w1 : ¬ 0 < lg_cmp ((nI i).toInt64 + (nI m).toInt64) (nI n).toInt64 := by
    rw [lg_cmp_gt, fa_lt64, lg_i2l_add, Int32.toInt_toInt64, ti_n (by omega), ti_n (by omega), ti_n (by omega)]; omega
  have w2 : lg_cmp ((nI j).toInt64 + (nI m).toInt64) (nI n').toInt64 ≤ 0 := by
    rw [lg_cmp_le, fa_le64, lg_i2l_add, Int32.toInt_toInt64, ti_n (by omega), ti_n (by omega), ti_n (by omega)]; omega
  have nn : ∀ k : Nat, k < 41 → ¬ nI k < 0 := fun k hk => nI_nlt (a := k) (b := 0) (by omega) (by omega)
  have np : ∀ k : Nat, k < 41 → 0 ≤ nI k := fun k hk => by rw [fa_le, ti_n (by omega)]; exact Int.natCast_nonneg k
  have e4' : u2 (u2 μ 106 0 0) 106 1 0 107 s = nI l := e4
  have f4' : u2 (u2 μ 106 0 0) 106 1 0 107 b = nI l := f4
  have e2' : u2 (u2 μ 106 0 0) 106 1 0 108 s = nI n := e2
  have f2' : u2 (u2 μ 106 0 0) 106 1 0 108 b = nI n' := f2
  have g9 : u2 (u2 μ 106 0 0) 106 1 0 109 = μ 109 := rfl
  unfold m_X9_copy
  rw [ob_s, q_isShs hs, ob_s, if_neg (by decide), q_isShs hb, ob_s, if_neg (by decide), ob_s]
  generalize u2 (u2 μ 106 0 0) 106 1 0 = ω at *
  simp only [zA]
  rw [al_107 hs, ob_s, e4', if_neg (nn l (by omega)), al_107 hb, ob_s, f4', if_pos (np l (by omega)), ob_s, ob_s, if_pos rfl, if_neg (nn i (by omega)), if_neg (nn j (by omega)), if_neg (nn m (by omega)), al_108 hs, ob_s, e2', if_neg w1, al_108 hb, ob_s, f2', if_pos w2]
  apply ok_eq
  refine ok_b (R1 := fun q => q = Sum.inl (nI m, u1 ω 109 (fun q => if 40 * b + j ≤ q ∧ q < 40 * b + j + m then μ 109 (40 * s + i + (q - (40 * b + j))) else μ 109 q))) ?_ (fun q hq => by subst hq; exact ok_s rfl)
  refine ok_b (R1 := fun q => q = Sum.inl (Sum.inl (nI m, u1 ω 109 (fun q => if 40 * b + j ≤ q ∧ q < 40 * b + j + m then μ 109 (40 * s + i + (q - (40 * b + j))) else μ 109 q)))) ?_ (fun q hq => by subst hq; exact ok_s rfl)
  rw [← g9]
  by_cases hij : i < j
  · rw [if_pos (by rw [x_lt (by omega) (by omega)]; exact hij), ob_s]
    refine ok_for (fun k ξ => ξ = u1 ω 109 (fun q => if 40 * b + j + (m - k) ≤ q ∧ q < 40 * b + j + m then ω 109 (40 * s + i + (q - (40 * b + j))) else ω 109 q)) 0 m (by omega) (by omega) rfl ?_ ?_ ?_
    · funext k q
      simp only [u1_w]
      by_cases hk : k = 109
      · subst hk
        simp only [if_true, show ¬ (40 * b + j + (m - 0) ≤ q ∧ q < 40 * b + j + m) by omega, if_false]
      · simp [hk]
    · rintro k ξ _ hk rfl
      have e9 : nI m - 1 - nI k = nI (m - 1 - k) := by rw [x_sl (by omega), x_s (by omega)]
      simp (disch := omega) only [zA, zD, zE, ob_s, x_lt, x_ltl, x_llt, x_le, x_lel, x_lle, x_eq, x_eql, x_eqm, x_al, x_la, x_a, x_ml, x_lm, x_m, x_cl, if_true, if_false, jn, x_d4, x_d2, bz_b, bz_0, bz_1, and_self, not_true_eq_false, not_false_eq_true, true_and, and_true, show ¬ m ≤ k by omega, e9]
      refine ok_s (Or.inl ⟨_, rfl, ?_⟩)
      funext k' q
      simp only [u2_w, u1_w]
      by_cases hk' : k' = 109
      · subst hk'
        simp only [if_true, upd]
        by_cases hq : q = 40 * b + j + (m - 1 - k)
        · subst hq
          rw [if_pos rfl, if_neg, if_pos (by omega)]
          · congr 1; omega
          · intro hc
            rcases Nat.lt_trichotomy s b with hsb | hsb | hsb
            · omega
            · subst hsb; omega
            · omega
        · rw [if_neg hq]
          by_cases hr : 40 * b + j + (m - k) ≤ q ∧ q < 40 * b + j + m
          · rw [if_pos hr, if_pos (by omega)]
          · rw [if_neg hr, if_neg (by omega)]
      · simp [hk']
    · rintro ξ rfl
      simp (disch := omega) only [zA, zD, zE, ob_s, x_lt, x_ltl, x_llt, x_le, x_lel, x_lle, x_eq, x_eql, x_eqm, x_al, x_la, x_a, x_ml, x_lm, x_m, x_cl, if_true, if_false, jn, x_d4, x_d2, bz_b, bz_0, bz_1, and_self, not_true_eq_false, not_false_eq_true, true_and, and_true, Nat.le_refl]
      refine ok_s ⟨_, rfl, ok_s ?_⟩
      simp
  · rw [if_neg (by rw [x_lt (by omega) (by omega)]; exact hij), ob_s]
    refine ok_for (fun k ξ => ξ = u1 ω 109 (fun q => if 40 * b + j ≤ q ∧ q < 40 * b + j + k then ω 109 (40 * s + i + (q - (40 * b + j))) else ω 109 q)) 0 m (by omega) (by omega) rfl ?_ ?_ ?_
    · funext k q
      simp only [u1_w]
      by_cases hk : k = 109
      · subst hk
        simp only [if_true, show ¬ (40 * b + j ≤ q ∧ q < 40 * b + j + 0) by omega, if_false]
      · simp [hk]
    · rintro k ξ _ hk rfl
      simp (disch := omega) only [zA, zD, zE, ob_s, x_lt, x_ltl, x_llt, x_le, x_lel, x_lle, x_eq, x_eql, x_eqm, x_al, x_la, x_a, x_ml, x_lm, x_m, x_cl, if_true, if_false, jn, x_d4, x_d2, bz_b, bz_0, bz_1, and_self, not_true_eq_false, not_false_eq_true, true_and, and_true, show ¬ m ≤ k by omega, one0]
      refine ok_s (Or.inl ⟨_, rfl, ?_⟩)
      funext k' q
      simp only [u2_w, u1_w]
      by_cases hk' : k' = 109
      · subst hk'
        simp only [if_true, upd]
        by_cases hq : q = 40 * b + j + k
        · subst hq
          rw [if_pos rfl, if_neg, if_pos (by omega)]
          · congr 1; omega
          · intro hc
            rcases Nat.lt_trichotomy s b with hsb | hsb | hsb
            · omega
            · subst hsb; omega
            · omega
        · rw [if_neg hq]
          by_cases hr : 40 * b + j ≤ q ∧ q < 40 * b + j + k
          · rw [if_pos hr, if_pos (by omega)]
          · rw [if_neg hr, if_neg (by omega)]
      · simp [hk']
    · rintro ξ rfl
      simp (disch := omega) only [zA, zD, zE, ob_s, x_lt, x_ltl, x_llt, x_le, x_lel, x_lle, x_eq, x_eql, x_eqm, x_al, x_la, x_a, x_ml, x_lm, x_m, x_cl, if_true, if_false, jn, x_d4, x_d2, bz_b, bz_0, bz_1, and_self, not_true_eq_false, not_false_eq_true, true_and, and_true, Nat.le_refl]
      exact ok_s ⟨_, rfl, ok_s rfl⟩
theorem q9_copy1 {μ : MT} {s b : Nat} {a1 a3 a4 : Int32} (hs : s < 8) (hb : b < 8) (h : μ 107 s < 0 ∨ (¬ μ 107 s < 0 ∧ ¬ 0 ≤ μ 107 b)) : m_X9_copy Zc 106 (nI s) a1 (nI b) a3 a4 μ = some (-1000010 - 1, u2 (u2 (u2 μ 106 0 0) 106 1 0) 106 1 1) := by
  have h' : u2 (u2 μ 106 0 0) 106 1 0 107 s < 0 ∨ (¬ u2 (u2 μ 106 0 0) 106 1 0 107 s < 0 ∧ ¬ 0 ≤ u2 (u2 μ 106 0 0) 106 1 0 107 b) := h
  unfold m_X9_copy
  rw [ob_s, q_isShs hs, ob_s, if_neg (by decide), q_isShs hb, ob_s, if_neg (by decide), ob_s]
  simp only [zA]
  rw [al_107 hs, ob_s]
  rcases h' with h' | ⟨h1, h2⟩
  · rw [if_pos h']; rfl
  · rw [if_neg h1, al_107 hb, ob_s, if_neg h2]; rfl
theorem q9_copy5 {μ : MT} {s b l l' : Nat} {a1 a3 a4 : Int32} (hs : s < 8) (hb : b < 8) (e : μ 107 s = nI l) (f : μ 107 b = nI l') (hl : l < 3) (hl' : l' < 3) (hne : ¬ l = l') : m_X9_copy Zc 106 (nI s) a1 (nI b) a3 a4 μ = some (-1000010 - 5, u2 (u2 (u2 μ 106 0 0) 106 1 0) 106 1 5) := by
  have nn : ∀ k : Nat, k < 41 → ¬ nI k < 0 := fun k hk => nI_nlt (a := k) (b := 0) (by omega) (by omega)
  have np : ∀ k : Nat, k < 41 → 0 ≤ nI k := fun k hk => by rw [fa_le, ti_n (by omega)]; exact Int.natCast_nonneg k
  have e' : u2 (u2 μ 106 0 0) 106 1 0 107 s = nI l := e
  have f' : u2 (u2 μ 106 0 0) 106 1 0 107 b = nI l' := f
  unfold m_X9_copy
  rw [ob_s, q_isShs hs, ob_s, if_neg (by decide), q_isShs hb, ob_s, if_neg (by decide), ob_s]
  simp only [zA]
  rw [al_107 hs, ob_s, e', if_neg (nn l (by omega)), al_107 hb, ob_s, f', if_pos (np l' (by omega)), ob_s, ob_s, if_neg (by rw [x_eq (by omega) (by omega)]; exact hne)]
  rfl
theorem q9_copy2 {μ : MT} {s b n n' l : Nat} {a1 a3 a4 : Int32} (hs : s < 8) (hb : b < 8) (e4 : μ 107 s = nI l) (f4 : μ 107 b = nI l) (e2 : μ 108 s = nI n) (f2 : μ 108 b = nI n') (hl : l < 3) (hn : n ≤ 40) (hn' : n' ≤ 40)
    (hok : ¬ ((0 ≤ a1.toInt ∧ 0 ≤ a4.toInt ∧ a1.toInt + a4.toInt ≤ n) ∧ (0 ≤ a3.toInt ∧ 0 ≤ a4.toInt ∧ a3.toInt + a4.toInt ≤ n'))) : m_X9_copy Zc 106 (nI s) a1 (nI b) a3 a4 μ = some (-1000010 - 2, u2 (u2 (u2 μ 106 0 0) 106 1 0) 106 1 2) := by
  have nn : ∀ k : Nat, k < 41 → ¬ nI k < 0 := fun k hk => nI_nlt (a := k) (b := 0) (by omega) (by omega)
  have np : ∀ k : Nat, k < 41 → 0 ≤ nI k := fun k hk => by rw [fa_le, ti_n (by omega)]; exact Int.natCast_nonneg k
  have e4' : u2 (u2 μ 106 0 0) 106 1 0 107 s = nI l := e4
  have f4' : u2 (u2 μ 106 0 0) 106 1 0 107 b = nI l := f4
  have e2' : u2 (u2 μ 106 0 0) 106 1 0 108 s = nI n := e2
  have f2' : u2 (u2 μ 106 0 0) 106 1 0 108 b = nI n' := f2
  have e0 : (0 : Int32).toInt = 0 := rfl
  unfold m_X9_copy
  rw [ob_s, q_isShs hs, ob_s, if_neg (by decide), q_isShs hb, ob_s, if_neg (by decide), ob_s]
  generalize u2 (u2 μ 106 0 0) 106 1 0 = ω at *
  simp only [zA]
  rw [al_107 hs, ob_s, e4', if_neg (nn l (by omega)), al_107 hb, ob_s, f4', if_pos (np l (by omega)), ob_s, ob_s, if_pos rfl]
  by_cases h1 : a1.toInt < 0
  · rw [if_pos (by rw [fa_lt]; exact h1)]; rfl
  · rw [if_neg (by rw [fa_lt]; exact h1)]
    by_cases h2 : a3.toInt < 0
    · rw [if_pos (by rw [fa_lt]; exact h2)]; rfl
    · rw [if_neg (by rw [fa_lt]; exact h2)]
      by_cases h3 : a4.toInt < 0
      · rw [if_pos (by rw [fa_lt]; exact h3)]; rfl
      · rw [if_neg (by rw [fa_lt]; exact h3), al_108 hs, ob_s, e2']
        by_cases h4 : (n : Int) < a1.toInt + a4.toInt
        · rw [if_pos (by rw [lg_cmp_gt, fa_lt64, lg_i2l_add, Int32.toInt_toInt64, ti_n (by omega)]; exact h4)]; rfl
        · rw [if_neg (by rw [lg_cmp_gt, fa_lt64, lg_i2l_add, Int32.toInt_toInt64, ti_n (by omega)]; exact h4), al_108 hb, ob_s, f2', if_neg (by rw [lg_cmp_le, fa_le64, lg_i2l_add, Int32.toInt_toInt64, ti_n (by omega)]; omega)]; rfl
theorem op_copy {ν : MT} (h : Inv ν) (a0 a1 a2 a3 a4 : Int32) : OkI Inv (m_X8_copy Zc 0 a0 a1 a2 a3 a4 ν) (fun μ => m_X9_copy Zc 106 a0 a1 a2 a3 a4 μ) := by
  obtain ⟨p, d, nc, ns, na, nb, h⟩ := h
  by_cases hs : (0 ≤ a0.toInt ∧ a0.toInt < 8) ∧ (0 ≤ a2.toInt ∧ a2.toInt < 8)
  · obtain ⟨hs, hb⟩ := hs
    obtain ⟨s, hs1, rfl⟩ := nI_ex (n := 8) hs.1 hs.2
    obtain ⟨b, hb1, rfl⟩ := nI_ex (n := 8) hb.1 hb.2
    have c1 := h.1.1 s hs1
    have c2 := h.1.1 b hb1
    have m1 : ¬ (0 : Int32) ≤ -1 := by decide
    have m2 : (-1 : Int32) < 0 := by decide
    rcases c1 with ⟨e1, e2⟩ | ⟨n, l, hn, hl, e1, e2, e3, e4⟩
    · refine ⟨-1000010 - 1, u2 ν 0 15 1, _, ?_, ?_, p, d, nc, ns, na, nb, c_s1 h 1⟩
      · simp (disch := omega) only [m_X8_copy, zA, zD, zE, ob_s, x_lt, x_ltl, x_llt, x_le, x_lel, x_lle, x_eq, x_eql, x_eqm, x_al, x_la, x_a, x_ml, x_lm, x_m, x_cl, if_true, if_false, jn, x_d4, x_d2, bz_b, bz_0, bz_1, and_self, not_true_eq_false, not_false_eq_true, true_and, and_true, q_hasNs, one0, m_X6_findingBetween, q_mis, bI_0, e1, m_X8_found]
      · exact q9_copy1 hs1 hb1 (Or.inl (by show ν 107 s < 0; rw [e2]; exact m2))
    · rcases c2 with ⟨f1, f2⟩ | ⟨n', l', hn', hl', f1, f2, f3, f4⟩
      · refine ⟨-1000010 - 1, u2 ν 0 15 1, _, ?_, ?_, p, d, nc, ns, na, nb, c_s1 h 1⟩
        · simp (disch := omega) only [m_X8_copy, zA, zD, zE, ob_s, x_lt, x_ltl, x_llt, x_le, x_lel, x_lle, x_eq, x_eql, x_eqm, x_al, x_la, x_a, x_ml, x_lm, x_m, x_cl, if_true, if_false, jn, x_d4, x_d2, bz_b, bz_0, bz_1, and_self, not_true_eq_false, not_false_eq_true, true_and, and_true, q_hasNs, one0, m_X6_findingBetween, q_mis, bI_0, e1, f1, m_X8_found]
        · exact q9_copy1 hs1 hb1 (Or.inr ⟨by show ¬ ν 107 s < 0; rw [e4]; exact nI_nlt (a := l) (b := 0) (by omega) (by omega), by show ¬ 0 ≤ ν 107 b; rw [f2]; exact m1⟩)
      · by_cases hll : l = l'
        · subst hll
          by_cases hok : (0 ≤ a1.toInt ∧ 0 ≤ a4.toInt ∧ a1.toInt + a4.toInt ≤ n) ∧ (0 ≤ a3.toInt ∧ 0 ≤ a4.toInt ∧ a3.toInt + a4.toInt ≤ n')
          · obtain ⟨ho1, ho2⟩ := hok
            obtain ⟨i, hi1, rfl⟩ := nI_ex (n := 41) ho1.1 (by omega)
            obtain ⟨m, hm1, rfl⟩ := nI_ex (n := 41) ho1.2.1 (by omega)
            obtain ⟨j, hj1, rfl⟩ := nI_ex (n := 41) ho2.1 (by omega)
            have ho1' := ho1
            have ho2' := ho2
            rw [ti_n (by omega), ti_n (by omega)] at ho1'
            rw [ti_n (by omega), ti_n (by omega)] at ho2'
            refine ⟨nI m, u2 (u1 ν (5 + b) (va_cpy (ν (5 + s)) (ν (5 + b)) i j m)) 0 15 0, u1 (u2 (u2 (u2 (u1 ν (5 + b) (va_cpy (ν (5 + s)) (ν (5 + b)) i j m)) 0 15 0) 106 0 0) 106 1 0) 109 (fun q => if 40 * b + j ≤ q ∧ q < 40 * b + j + m then ν 109 (40 * s + i + (q - (40 * b + j))) else ν 109 q), ?_, ?_, p, d, nc, ns, na, nb, ?_⟩
            · have hacp : acp Zc ν (5 + s) (nI i) (5 + b) (nI j) (nI m) = some (u1 ν (5 + b) (va_cpy (ν (5 + s)) (ν (5 + b)) i j m)) := by
                unfold acp
                simp (disch := omega) only [x_ltl, x_cl, zl_5s, Nat.not_lt_zero, not_false_eq_true, true_and]
                rw [if_pos (by omega)]
              simp (disch := omega) only [m_X8_copy, zA, zD, zE, ob_s, x_lt, x_ltl, x_llt, x_le, x_lel, x_lle, x_eq, x_eql, x_eqm, x_al, x_la, x_a, x_ml, x_lm, x_m, x_cl, if_true, if_false, jn, x_d4, x_d2, bz_b, bz_0, bz_1, and_self, not_true_eq_false, not_false_eq_true, true_and, and_true, q_hasNs, one0, m_X6_findingBetween, q_mis, bI_0, e1, f1, e3, f3, q_find hs1 e1 hn, q_find hb1 f1 hn', ho1, ho2, m_X6_carry, ard_4, hacp, m_X8_fine]
            · have g0 : ∀ k : Nat, 107 ≤ k → ∀ q, u2 (u1 ν (5 + b) (va_cpy (ν (5 + s)) (ν (5 + b)) i j m)) 0 15 0 k q = ν k q := fun k hk q => by simp only [u2_r, u1_r]; grind
              have := q9_copy (μ := u2 (u1 ν (5 + b) (va_cpy (ν (5 + s)) (ν (5 + b)) i j m)) 0 15 0) (i := i) (j := j) (m := m) hs1 hb1 (by rw [g0 _ (by omega)]; exact e4) (by rw [g0 _ (by omega)]; exact f4) (by rw [g0 _ (by omega)]; exact e2) (by rw [g0 _ (by omega)]; exact f2) hl hn hn' (by omega) (by omega)
              simp only [g0 109 (by omega)] at this
              exact this
            · have c1 := h.1
              refine c_sheet h ⟨fun t ht => ?_, fun t q ht hq => ?_⟩ ?_ ?_ ?_ ?_
              · have := c1.1 t ht
                simp only [u2_r, u1_r]
                simpa [show ¬ 107 = 5 + b by omega, show ¬ 108 = 5 + b by omega, show ¬ 2 = 5 + b by omega, show ¬ 3 = 5 + b by omega] using this
              · have h0 := c1.2 t q ht hq
                simp only [u2_r, u1_r]
                simp only [Nat.reduceEqDiff, false_and, if_false, show ¬ 5 + t = 109 by omega, show ¬ 5 + t = 106 by omega, show ¬ 5 + t = 0 by omega, if_true]
                by_cases htb : t = b
                · subst htb
                  rw [if_pos rfl]
                  unfold va_cpy
                  by_cases hr : j ≤ q ∧ q < j + m
                  · rw [if_pos hr, if_pos (by omega)]
                    have := c1.2 s (i + (q - j)) hs1 (by omega)
                    simp only at this
                    rw [this]
                    congr 1; omega
                  · rw [if_neg hr, if_neg (by omega)]
                    exact h0
                · rw [if_neg (by omega), if_neg (by omega)]
                  exact h0
              · simp only [u2_r, u1_r]; simp
              · intro j hj; simp only [u2_r, u1_r]; grind
              · intro j hj hj2; simp only [u2_r, u1_r]; grind
              · intro k h1 h2 h3 h4; simp only [u2_w, u1_w]; grind
          · refine ⟨-1000010 - 2, u2 ν 0 15 2, _, ?_, ?_, p, d, nc, ns, na, nb, c_s1 h 2⟩
            · have two0 : ((2 : Int32) = 0) = False := by decide
              simp (disch := omega) only [m_X8_copy, zA, zD, zE, ob_s, x_lt, x_ltl, x_llt, x_le, x_lel, x_lle, x_eq, x_eql, x_eqm, x_al, x_la, x_a, x_ml, x_lm, x_m, x_cl, if_true, if_false, jn, x_d4, x_d2, bz_b, bz_0, bz_1, and_self, not_true_eq_false, not_false_eq_true, true_and, and_true, q_hasNs, one0, m_X6_findingBetween, q_mis, bI_0, e1, f1, e3, f3, q_find hs1 e1 hn, q_find hb1 f1 hn']
              by_cases ho : 0 ≤ a1.toInt ∧ 0 ≤ a4.toInt ∧ a1.toInt + a4.toInt ≤ n
              · rw [if_pos ho]
                simp only [if_true, ob_s]
                rw [if_neg (fun hc => hok ⟨ho, hc⟩)]
                simp only [two0, if_false, ob_s, m_X8_found]
              · rw [if_neg ho]
                simp only [two0, if_false, ob_s, m_X8_found]
            · exact q9_copy2 hs1 hb1 e4 f4 e2 f2 hl hn hn' hok
        · refine ⟨-1000010 - 5, u2 ν 0 15 5, _, ?_, ?_, p, d, nc, ns, na, nb, c_s1 h 5⟩
          · have five0 : ((5 : Int32) = 0) = False := by decide
            simp (disch := omega) only [m_X8_copy, zA, zD, zE, ob_s, x_lt, x_ltl, x_llt, x_le, x_lel, x_lle, x_eq, x_eql, x_eqm, x_al, x_la, x_a, x_ml, x_lm, x_m, x_cl, if_true, if_false, jn, x_d4, x_d2, bz_b, bz_0, bz_1, and_self, not_true_eq_false, not_false_eq_true, true_and, and_true, q_hasNs, one0, m_X6_findingBetween, q_mis, bI_0, e1, f1, e3, f3, hll, five0, m_X8_found]
          · exact q9_copy5 hs1 hb1 e4 f4 hl hl' hll
  · refine ⟨-1000001, ν, u2 ν 106 0 0, ?_, ?_, p, d, nc, ns, na, nb, c_s0 h⟩
    · simp only [m_X8_copy, q_hasN, ob_s, bI_0]
      by_cases h1 : 0 ≤ a0.toInt ∧ a0.toInt < 8
      · rw [if_neg (by simp only [h1]; simp), if_pos (fun h2 => hs ⟨h1, h2⟩)]
      · rw [if_pos h1]
    · simp only [m_X9_copy, q_isSh, ob_s, bI_0]
      by_cases h1 : 0 ≤ a0.toInt ∧ a0.toInt < 8
      · rw [if_neg (by simp only [h1]; simp), if_pos (fun h2 => hs ⟨h1, h2⟩)]
      · rw [if_pos h1]
end
section
theorem op_status {ν : MT} (h : Inv ν) : OkR Inv (m_X8_status Zc 0 ν) (m_X9_status Zc 106 ν) := by
  obtain ⟨p, d, nc, ns, na, nb, h⟩ := h
  refine ⟨ν 0 15, u2 ν 106 0 0, rfl, ?_, p, d, nc, ns, na, nb, c_s0 h⟩
  simp [m_X9_status, u2_r, h.2.1.1]
theorem op_fault {ν : MT} (h : Inv ν) : OkR Inv (m_X8_fault Zc 0 ν) (m_X9_fault Zc 106 ν) := by
  obtain ⟨p, d, nc, ns, na, nb, h⟩ := h
  refine ⟨ν 0 14, u2 ν 106 0 0, rfl, ?_, p, d, nc, ns, na, nb, c_s0 h⟩
  simp [m_X9_fault, u2_r, h.2.1.2]
theorem op_minutes {ν : MT} (h : Inv ν) : OkR Inv (m_X8_minutes Zc 0 ν) (m_X9_minutes Zc 106 ν) := by
  obtain ⟨p, d, nc, ns, na, nb, h⟩ := h
  refine ⟨ν 19 8, u2 ν 106 0 0, by simp only [m_X8_minutes, zA], ?_, p, d, nc, ns, na, nb, c_s0 h⟩
  obtain ⟨x, h1, h2, h3⟩ := h.2.2.2.2.2.2.2.2.1
  simp only [m_X9_minutes, ob_s, u2_r]
  rcases h3 with ⟨e1, e2, e3, e4⟩ | ⟨e1, e2, e3⟩
  · simp [e2, h1.2.1, e3]
  · simp [e2, h1.2.1, e3, bgA]
theorem op_trace {ν : MT} (h : Inv ν) (a0 : Int32) : OkR Inv (m_X8_trace Zc 0 a0 ν) (m_X9_trace Zc 106 a0 ν) := by
  obtain ⟨p, d, nc, ns, na, nb, h⟩ := h
  obtain ⟨n, hn, e1, e2, e3⟩ := h.2.2.2.2.2.2.2.2.2.2.2.1
  have g3 : (0 : Int64).toInt = 0 := rfl
  have g4 : (nI n - 1).toInt = n - 1 := by rw [ti_sub (by rw [ti_n (by omega), show (1 : Int32).toInt = 1 from rfl]; omega) (by rw [ti_n (by omega), show (1 : Int32).toInt = 1 from rfl]; omega), ti_n (by omega)]; rfl
  by_cases hi : 0 ≤ a0.toInt ∧ a0.toInt < n
  · obtain ⟨i, hi1, rfl⟩ := nI_ex (n := n) hi.1 hi.2
    rw [ti_n (by omega)] at hi
    refine ⟨ν 91 i, u2 ν 106 0 0, ?_, ?_, p, d, nc, ns, na, nb, c_s0 h⟩
    · simp (disch := omega) only [m_X8_trace, m_X0_traced, zA, zD, zE, ob_s, x_lt, x_ltl, x_llt, x_le, x_lel, x_lle, x_eq, x_eql, x_eqm, x_al, x_la, x_a, x_ml, x_lm, x_m, x_cl, if_true, if_false, jn, x_d4, x_d2, bz_b, bz_0, bz_1, and_self, not_true_eq_false, not_false_eq_true, true_and, and_true, e1, show ¬ n ≤ i by omega, show ¬ i < 0 by omega]
    · have g5 : (0 ≤ ((i : Nat) : Int) ∧ (i : Int) ≤ n - 1) := by omega
      simp (disch := omega) only [m_X9_trace, zA, zD, zE, ob_s, x_lt, x_ltl, x_llt, x_le, x_lel, x_lle, x_eq, x_eql, x_eqm, x_al, x_la, x_a, x_ml, x_lm, x_m, x_cl, if_true, if_false, jn, x_d4, x_d2, bz_b, bz_0, bz_1, and_self, not_true_eq_false, not_false_eq_true, true_and, and_true, u2_r, q_in, x_ti, Int32.toInt_toInt64, e3]
      simp (disch := omega) [g3, g4, g5, e2, e3, x_ti, bI_0]
  · refine ⟨-1000000, u2 ν 106 0 0, ?_, ?_, p, d, nc, ns, na, nb, c_s0 h⟩
    · simp only [m_X8_trace, m_X0_traced, zA, e1, fa_lt, fa_le, show (0 : Int32).toInt = 0 from rfl, ti_n (show n < 2 ^ 31 by omega)]
      by_cases h1 : a0.toInt < 0
      · rw [if_pos h1]; rfl
      · rw [if_neg h1, if_pos (by omega)]; rfl
    · have g5 : ¬ (0 ≤ a0.toInt ∧ a0.toInt ≤ n - 1) := by omega
      simp only [m_X9_trace, ob_s, u2_r, q_in, Int32.toInt_toInt64]
      simp [g3, g4, g5, e2, bI_0]
def cntA (f : Nat → Bool) : Nat → Int32
  | 0 => 0
  | n + 1 => cntA f n + (if f n then 1 else 0)
theorem cntA_c {f g : Nat → Bool} : ∀ {n : Nat}, (∀ k, k < n → f k = g k) → cntA f n = cntA g n
  | 0, _ => rfl
  | n + 1, h => by rw [cntA, cntA, cntA_c (fun k hk => h k (by omega)), h n (by omega)]
theorem op_count {ν : MT} (h : Inv ν) (a0 : Int32) : OkR Inv (m_X8_count Zc 127 0 a0 ν) (m_X9_count Zc 106 a0 ν) := by
  obtain ⟨p, d, nc, ns, na, nb, h⟩ := h
  have hpl := h.2.2.2.1
  have hip := h.2.2.2.2.1.1
  have hm := h.2.2.2.2.2.1
  have c1 := h.1.1
  obtain ⟨tn, ht, t1, t2, t3⟩ := h.2.2.1
  by_cases h0 : a0 = 0
  · refine ⟨cntA (fun s => decide (ν 3 s ≠ -1)) 8, u2 ν 106 0 0, ?_, ?_, p, d, nc, ns, na, nb, c_s0 h⟩
    · unfold m_X8_count m_X6_howMany
      simp only [h0, if_true, zA]
      apply ok_eq
      refine ok_b (R1 := fun r => r = cntA (fun s => decide (ν 3 s ≠ -1)) 8) ?_ (fun r hr => by subst hr; exact ok_s rfl)
      refine ok_l (fun m q => ∃ i, i + m = 8 ∧ q = (cntA (fun s => decide (ν 3 s ≠ -1)) i, nI i)) 8 (by omega) ⟨0, by omega, rfl⟩ ?_
      rintro m q ⟨i, hi, rfl⟩
      by_cases h8 : i = 8
      · subst h8
        exact ok_s (Or.inl ⟨_, rfl, ok_s rfl⟩)
      · simp (disch := omega) only [zA, zD, zE, ob_s, x_lt, x_ltl, x_llt, x_le, x_lel, x_lle, x_eq, x_eql, x_eqm, x_al, x_la, x_a, x_ml, x_lm, x_m, x_cl, if_true, if_false, jn, x_d4, x_d2, bz_b, bz_0, bz_1, and_self, not_true_eq_false, not_false_eq_true, true_and, and_true, show ¬ 8 ≤ i by omega]
        by_cases hv : ν 3 i = -1
        · simp only [hv, if_true, ob_s]
          refine ok_s (Or.inr ⟨_, m - 1, rfl, by omega, i + 1, by omega, ?_⟩)
          simp [cntA, hv]
        · simp only [hv, if_false, ob_s]
          refine ok_s (Or.inr ⟨_, m - 1, rfl, by omega, i + 1, by omega, ?_⟩)
          simp [cntA, hv]
    · have hcc : cntA (fun s => decide (ν 3 s ≠ -1)) 8 = cntA (fun s => decide (¬ ν 107 s < 0)) 8 := cntA_c (fun s hs => by
        rcases c1 s hs with ⟨e1, e2⟩ | ⟨n, l, hn, hl, e1, e2, e3, e4⟩
        · rw [e1, e2]; decide
        · rw [e1, e4]
          have g1 : ¬ nI l < 0 := nI_nlt (a := l) (b := 0) (by omega) (by omega)
          have g2 : ¬ nI n = -1 := by rw [x_eqm (by omega)]; exact id
          simp [g1, g2])
      rw [hcc]
      unfold m_X9_count
      simp only [h0, if_true, zA, ob_s]
      apply ok_eq
      refine ok_l (fun m q => ∃ i, i + m = 8 ∧ q = (cntA (fun s => decide (¬ ν 107 s < 0)) i, nI i)) 8 (by omega) ⟨0, by omega, rfl⟩ ?_
      rintro m q ⟨i, hi, rfl⟩
      by_cases h8 : i = 8
      · subst h8
        exact ok_s (Or.inl ⟨_, rfl, ok_s rfl⟩)
      · simp (disch := omega) only [zA, zD, zE, ob_s, x_lt, x_ltl, x_llt, x_le, x_lel, x_lle, x_eq, x_eql, x_eqm, x_al, x_la, x_a, x_ml, x_lm, x_m, x_cl, if_true, if_false, jn, x_d4, x_d2, bz_b, bz_0, bz_1, and_self, not_true_eq_false, not_false_eq_true, true_and, and_true, show ¬ 8 ≤ i by omega, u2_w, Nat.reduceEqDiff]
        by_cases hv : ν 107 i < 0
        · simp only [hv, if_true, ob_s]
          refine ok_s (Or.inr ⟨_, m - 1, rfl, by omega, i + 1, by omega, ?_⟩)
          simp [cntA, hv]
        · simp only [hv, if_false, ob_s]
          refine ok_s (Or.inr ⟨_, m - 1, rfl, by omega, i + 1, by omega, ?_⟩)
          simp [cntA, hv]
  · by_cases h1 : a0 = 1
    · subst h1
      exact ⟨nI nc, u2 ν 106 0 0, by simp only [m_X8_count, h0, if_false, if_true, hpl.2.2.2.1, mrd_p hpl.1, ob_s, hip], by simp [m_X9_count, u2_r, hm], p, d, nc, ns, na, nb, c_s0 h⟩
    by_cases h2 : a0 = 2
    · subst h2
      exact ⟨nI ns, u2 ν 106 0 0, by simp only [m_X8_count, h0, h1, if_false, if_true, hpl.2.2.2.1, mrd_p hpl.1, ob_s, hip], by simp [m_X9_count, u2_r, hm], p, d, nc, ns, na, nb, c_s0 h⟩
    by_cases h3 : a0 = 3
    · subst h3
      exact ⟨nI na, u2 ν 106 0 0, by simp only [m_X8_count, h0, h1, h2, if_false, if_true, hpl.2.2.2.1, mrd_p hpl.1, ob_s, hip], by simp [m_X9_count, u2_r, hm], p, d, nc, ns, na, nb, c_s0 h⟩
    by_cases h4 : a0 = 4
    · subst h4
      exact ⟨nI nb, u2 ν 106 0 0, by simp only [m_X8_count, h0, h1, h2, h3, if_false, if_true, hpl.2.2.2.1, mrd_p hpl.1, ob_s, hip], by simp [m_X9_count, u2_r, hm], p, d, nc, ns, na, nb, c_s0 h⟩
    by_cases h5 : a0 = 5
    · subst h5
      exact ⟨nI tn, u2 ν 106 0 0, by simp only [m_X8_count, h0, h1, h2, h3, h4, if_false, if_true, zA, t1], by simp [m_X9_count, u2_r, t2], p, d, nc, ns, na, nb, c_s0 h⟩
    exact ⟨-1000001, u2 ν 106 0 0, by simp only [m_X8_count, h0, h1, h2, h3, h4, h5, if_false], by simp [m_X9_count, h0, h1, h2, h3, h4, h5], p, d, nc, ns, na, nb, c_s0 h⟩
end
section
theorem t32_bit (x : Int64) {i : Nat} (hi : i < 32) : x.toInt32.toBitVec.getLsbD i = x.toBitVec.getLsbD i := by
  show (x.toBitVec.signExtend 32).getLsbD i = _
  rw [BitVec.getLsbD_signExtend]
  simp [hi, show i < 64 by omega]
theorem t8_bit (x : Int32) {i : Nat} (hi : i < 8) : x.toInt8.toBitVec.getLsbD i = x.toBitVec.getLsbD i := by
  show (x.toBitVec.signExtend 8).getLsbD i = _
  rw [BitVec.getLsbD_signExtend]
  simp [hi, show i < 32 by omega]
theorem l255 (i : Nat) : (255 : Int64).toBitVec.getLsbD i = decide (i < 8) := by
  by_cases h : i < 64
  · exact (by decide +kernel : ∀ i, i < 64 → (255 : Int64).toBitVec.getLsbD i = decide (i < 8)) i h
  · rw [BitVec.getLsbD_of_ge _ _ (by omega)]
    simp; omega
theorem by_ok (x : Int64) : ∃ v, v < 256 ∧ (x &&& 255).toInt32 = nI v ∧ vp_nar .byte (x.toInt32.toInt8.toInt32) = (nI v).toInt8.toInt32 := by
  refine ⟨x.toBitVec.toNat % 256, by omega, ?_, ?_⟩
  · apply Int32.toBitVec_inj.mp
    apply BitVec.eq_of_getLsbD_eq
    intro i hi
    rw [t32_bit _ hi, Int64.toBitVec_and, BitVec.getLsbD_and, l255]
    show _ = (BitVec.ofNat 32 _).getLsbD i
    rw [BitVec.getLsbD_ofNat, show (256 : Nat) = 2 ^ 8 from rfl, Nat.testBit_mod_two_pow]
    simp only [hi, decide_true, Bool.true_and]
    rw [Bool.and_comm]
    rfl
  · show (x.toInt32.toInt8.toInt32).toInt8.toInt32 = _
    rw [Int8.toInt8_toInt32]
    congr 1
    apply Int8.toBitVec_inj.mp
    apply BitVec.eq_of_getLsbD_eq
    intro i hi
    rw [t8_bit _ hi, t8_bit _ hi, t32_bit _ (by omega)]
    show _ = (BitVec.ofNat 32 _).getLsbD i
    rw [BitVec.getLsbD_ofNat, show (256 : Nat) = 2 ^ 8 from rfl, Nat.testBit_mod_two_pow]
    simp only [hi, show i < 32 by omega, decide_true, Bool.true_and]
    rfl
theorem nm1 {k : Nat} : nI (k + 1) + (-1) = nI k := by
  have : nI (k + 1) = nI k + 1 := (nI_add k 1).symm
  rw [this, Int32.add_assoc, show (1 : Int32) + -1 = 0 from rfl, Int32.add_zero]
theorem m1_lt : (nI 0 + (-1) : Int32) < 0 := by decide
def fdC (w : Int64) (n t : Nat) : Int32 := vp_nar .byte ((w >>> ((8 * nI (n - 1 - t) : Int32).toInt64 &&& 63) : Int64).toInt32.toInt8.toInt32)
def fdR (w : Int64) (n t : Nat) : Int32 := ((w >>> ((8 * nI (n - 1 - t) : Int32).toInt64 &&& 63)) &&& 255 : Int64).toInt32
theorem q_app {μ : MT} {w : Int64} {n z : Nat} (hn : 1 ≤ n) (hn8 : n ≤ 8) (hz : z + n ≤ 500) (e : μ 13 1 = nI z) : m_X7_append Zc 13 w (nI n) μ = some (nI (z + n), u2 (u1 μ 14 (fun j => if z ≤ j ∧ j < z + n then fdC w n (j - z) else μ 14 j)) 13 1 (nI (z + n))) := by
  unfold m_X7_append
  rw [ob_s, x_sl (by omega)]
  simp only [zA]
  apply ok_eq
  refine ok_l (fun m q => ∃ t, t + m = n ∧ q.1 = (if m = 0 then -1 else nI (m - 1)) ∧ q.2 = u2 (u1 μ 14 (fun j => if z ≤ j ∧ j < z + t then fdC w n (j - z) else μ 14 j)) 13 1 (nI (z + t))) n (by omega) ⟨0, by omega, by simp [show ¬ n = 0 by omega], ?_⟩ ?_
  · funext k j
    simp only [u2_r, u1_r]
    by_cases h1 : k = 13 ∧ j = 1
    · rw [if_pos h1, h1.1, h1.2]; exact e
    · rw [if_neg h1]
      by_cases h2 : k = 14
      · subst h2
        rw [if_pos rfl, if_neg (by omega)]
      · rw [if_neg h2]
  · rintro m ⟨y, ξ⟩ ⟨t, h1, h2, h3⟩
    simp only at h2 h3
    subst h2 h3
    by_cases hm : m = 0
    · subst hm
      have : t = n := by omega
      subst this
      simp only [if_true]
      rw [if_pos (by decide)]
      refine ok_s (Or.inl ⟨_, rfl, ok_s ?_⟩)
      simp [u2_r]
    · have e1 : u2 (u1 μ 14 (fun j => if z ≤ j ∧ j < z + t then fdC w n (j - z) else μ 14 j)) 13 1 (nI (z + t)) 13 1 = nI (z + t) := by simp [u2_r]
      simp (disch := omega) only [hm, if_false, e1, x_ltl, x_lle, Nat.not_lt_zero, show ¬ 500 ≤ z + t by omega]
      rw [as_14 (by omega)]
      simp only [ob_s]
      refine ok_s (Or.inr ⟨_, m - 1, rfl, by omega, t + 1, by omega, ?_, ?_⟩)
      · by_cases hm1 : m = 1
        · subst hm1; rfl
        · simp only [show ¬ m - 1 = 0 by omega, if_false]
          rw [show m - 1 = (m - 1 - 1) + 1 by omega, nm1]
          simp
      · funext k j
        simp only [u2_r, u1_r]
        by_cases h1 : k = 13 ∧ j = 1
        · rw [if_pos h1, if_pos h1]
          simp
          rw [x_al, Nat.add_assoc]
        · rw [if_neg h1, if_neg h1]
          by_cases h2 : k = 14
          · subst h2
            simp only [true_and, if_true, Nat.reduceEqDiff, false_and, if_false]
            by_cases h3 : j = z + t
            · subst h3
              rw [if_pos rfl, if_pos (by omega)]
              unfold fdC
              rw [show n - 1 - (z + t - z) = m - 1 by omega]
            · rw [if_neg h3]
              by_cases h4 : z ≤ j ∧ j < z + t
              · rw [if_pos h4, if_pos (by omega)]
              · rw [if_neg h4, if_neg (by omega)]
          · simp [h2, h1]
theorem q9_feed {μ : MT} {w : Int64} {n z : Nat} (hn : 1 ≤ n) (hn8 : n ≤ 8) (hz : z + n ≤ 500) (e : μ 106 20 = nI z) : m_X9_feed Zc 106 w (nI n) μ = some (nI (z + n), u2 (u1 (u2 μ 106 0 0) 116 (fun j => if z ≤ j ∧ j < z + n then fdR w n (j - z) else μ 116 j)) 106 20 (nI (z + n))) := by
  have gin : ∀ μ : MT, m_X9_in Zc (nI n).toInt64 1 8 μ = some 1 := fun μ => by
    rw [q_in, Int32.toInt_toInt64, ti_n (by omega), bI_t]
    rw [show (1 : Int64).toInt = 1 from rfl, show (8 : Int64).toInt = 8 from rfl]; omega
  have e' : u2 μ 106 0 0 106 20 = nI z := e
  have e9 : u2 μ 106 0 0 116 = μ 116 := rfl
  unfold m_X9_feed
  rw [ob_s, gin, ob_s, if_neg (by decide), e', x_a, if_pos (by rw [x_lel (by omega) (by omega)]; omega), ob_s, x_sl (by omega)]
  simp only [zA]
  rw [← e9]
  generalize u2 μ 106 0 0 = ω at *
  apply ok_eq
  refine ok_l (fun m q => ∃ t, t + m = n ∧ q.1 = (if m = 0 then -1 else nI (m - 1)) ∧ q.2 = u2 (u1 ω 116 (fun j => if z ≤ j ∧ j < z + t then fdR w n (j - z) else ω 116 j)) 106 20 (nI (z + t))) n (by omega) ⟨0, by omega, by simp [show ¬ n = 0 by omega], ?_⟩ ?_
  · funext k j
    simp only [u2_r, u1_r]
    by_cases h1 : k = 106 ∧ j = 20
    · rw [if_pos h1, h1.1, h1.2]; exact e'
    · rw [if_neg h1]
      by_cases h2 : k = 116
      · subst h2
        rw [if_pos rfl, if_neg (by omega)]
      · rw [if_neg h2]
  · rintro m ⟨y, ξ⟩ ⟨t, h1, h2, h3⟩
    simp only at h2 h3
    subst h2 h3
    by_cases hm : m = 0
    · subst hm
      have : t = n := by omega
      subst this
      simp only [if_true]
      rw [if_pos (by decide)]
      refine ok_s (Or.inl ⟨_, rfl, ok_s ?_⟩)
      simp [u2_r]
    · have e1 : u2 (u1 ω 116 (fun j => if z ≤ j ∧ j < z + t then fdR w n (j - z) else ω 116 j)) 106 20 (nI (z + t)) 106 20 = nI (z + t) := by simp [u2_r]
      simp (disch := omega) only [hm, if_false, e1, x_ltl, x_lle, Nat.not_lt_zero]
      rw [as_116 (by omega)]
      simp only [ob_s]
      refine ok_s (Or.inr ⟨_, m - 1, rfl, by omega, t + 1, by omega, ?_, ?_⟩)
      · by_cases hm1 : m = 1
        · subst hm1; rfl
        · simp only [show ¬ m - 1 = 0 by omega, if_false]
          rw [show m - 1 = (m - 1 - 1) + 1 by omega, nm1]
          simp
      · funext k j
        simp only [u2_r, u1_r]
        by_cases h1 : k = 106 ∧ j = 20
        · rw [if_pos h1, if_pos h1]
          simp
          rw [x_al, Nat.add_assoc]
        · rw [if_neg h1, if_neg h1]
          by_cases h2 : k = 116
          · subst h2
            simp only [true_and, if_true, Nat.reduceEqDiff, false_and, if_false]
            by_cases h3 : j = z + t
            · subst h3
              rw [if_pos rfl, if_pos (by omega)]
              unfold fdR
              rw [show n - 1 - (z + t - z) = m - 1 by omega]
            · rw [if_neg h3]
              by_cases h4 : z ≤ j ∧ j < z + t
              · rw [if_pos h4, if_pos (by omega)]
              · rw [if_neg h4, if_neg (by omega)]
          · simp [h2, h1]
theorem op_feed {ν : MT} (h : Inv ν) (w : Int64) (a : Int32) : OkI Inv (m_X8_feed Zc 0 w a ν) (fun μ => m_X9_feed Zc 106 w a μ) := by
  obtain ⟨p, d, nc, ns, na, nb, h⟩ := h
  obtain ⟨z, hz, t1, t2, t3⟩ := h.2.2.1
  have hq := h.2.2.2.1.1
  unfold isPl at hq
  by_cases hr : 1 ≤ a.toInt ∧ a.toInt ≤ 8
  · obtain ⟨n, hn, rfl⟩ := nI_ex (n := 9) (a := a) (by omega) (by omega)
    rw [ti_n (by omega)] at hr
    have c500 : 500 - nI z = nI (500 - z) := pk_sub (a := 500) (b := z) hz
    by_cases hf : z + n ≤ 500
    · have hc : m_X8_feed Zc 0 w (nI n) ν = some (nI (z + n), u2 (u1 ν 14 (fun j => if z ≤ j ∧ j < z + n then fdC w n (j - z) else ν 14 j)) 13 1 (nI (z + n))) := by
        simp (disch := omega) only [m_X8_feed, zA, zD, zE, ob_s, x_lt, x_ltl, x_llt, x_le, x_lel, x_lle, x_eq, x_eql, x_eqm, x_al, x_la, x_a, x_ml, x_lm, x_m, x_cl, if_true, if_false, jn, x_d4, x_d2, bz_b, bz_0, bz_1, and_self, not_true_eq_false, not_false_eq_true, true_and, and_true, show ¬ n < 1 by omega, show n ≤ 8 by omega, m_X7_hasRoom, t1, c500, show ¬ 500 - z < n by omega, one0, q_app (z := z)]
      refine ⟨_, _, _, hc, q9_feed (n := n) (z := z) (by omega) (by omega) hf ?_, p, d, nc, ns, na, nb, ?_⟩
      · simp only [u2_r, u1_r]
        simpa using t2
      · refine c_mk h (Or.inl ⟨rfl, rfl, ?_, rfl, rfl, rfl⟩) ?_ (Or.inl ⟨?_, ?_⟩) (Or.inr ⟨z + n, hf, ?_, ?_, ?_⟩) ⟨?_, ?_⟩ ?_ ⟨?_, ?_, ?_⟩ ⟨?_, ?_, ?_, ?_⟩ (Or.inl ⟨?_, ?_⟩) (Or.inl ⟨?_, ?_⟩) (Or.inl ⟨?_, ?_, ?_, ?_, ?_, ?_, ?_, ?_, ?_, ?_, ?_, ?_⟩) (Or.inl ⟨?_, ?_, ?_, ?_, ?_⟩) (Or.inl ⟨?_, ?_⟩) (Or.inl ⟨?_, ?_, ?_, ?_⟩) ⟨?_, ?_, ?_, ?_⟩
        case refine_2 => have := h.2.1.1; simp only [u2_r, u1_r]; simpa using this
        case refine_7 =>
          intro j hj
          simp only [u2_r, u1_r]
          by_cases hjz : j < z
          · obtain ⟨v, hv, e1, e2⟩ := t3 j hjz
            exact ⟨v, hv, by simpa [show ¬ (z ≤ j) by omega] using e1, by simpa [show ¬ (z ≤ j) by omega] using e2⟩
          · obtain ⟨v, hv, e1, e2⟩ := by_ok (w >>> ((8 * nI (n - 1 - (j - z)) : Int32).toInt64 &&& 63))
            exact ⟨v, hv, by simpa [show z ≤ j by omega, hj, fdR] using e1, by simpa [show z ≤ j by omega, hj, fdC] using e2⟩
        all_goals first
          | rfl
          | (intro s hs; simp only [u2_w, u1_w]; grind)
          | (simp only [u2_r, u1_r]; simp; done)
    · refine ⟨-1000003, ν, u2 ν 106 0 0, ?_, ?_, p, d, nc, ns, na, nb, c_s0 h⟩
      · simp (disch := omega) only [m_X8_feed, zA, zD, zE, ob_s, x_lt, x_ltl, x_llt, x_le, x_lel, x_lle, x_eq, x_eql, x_eqm, x_al, x_la, x_a, x_ml, x_lm, x_m, x_cl, if_true, if_false, jn, x_d4, x_d2, bz_b, bz_0, bz_1, and_self, not_true_eq_false, not_false_eq_true, true_and, and_true, show ¬ n < 1 by omega, show n ≤ 8 by omega, m_X7_hasRoom, t1, c500, show 500 - z < n by omega]
      · have gin : ∀ μ : MT, m_X9_in Zc (nI n).toInt64 1 8 μ = some 1 := fun μ => by
          rw [q_in, Int32.toInt_toInt64, ti_n (by omega), bI_t]
          rw [show (1 : Int64).toInt = 1 from rfl, show (8 : Int64).toInt = 8 from rfl]; omega
        have e' : u2 ν 106 0 0 106 20 = nI z := t2
        simp (disch := omega) only [m_X9_feed, ob_s, gin, one0, if_false, e', x_a, x_lel, show ¬ z + n ≤ 500 by omega]
  · refine ⟨-1000001, ν, u2 ν 106 0 0, ?_, ?_, p, d, nc, ns, na, nb, c_s0 h⟩
    · simp only [m_X8_feed, fa_lt, fa_le, show (1 : Int32).toInt = 1 from rfl, show (8 : Int32).toInt = 8 from rfl]
      by_cases h1 : a.toInt < 1
      · rw [if_pos h1]
      · rw [if_neg h1, if_neg (by omega)]
    · simp only [m_X9_feed, ob_s, q_in, Int32.toInt_toInt64, show (1 : Int64).toInt = 1 from rfl, show (8 : Int64).toInt = 8 from rfl, bI_0]
      rw [if_pos hr]
end
section
theorem q_rng {a : Int32} {n : Nat} (hn : n < 1000000) : (if a < 0 then some 0 else if nI n ≤ a then some 0 else some (1 : Int32)) = some (bI (0 ≤ a.toInt ∧ a.toInt < n)) := by
  unfold bI
  simp only [fa_lt, fa_le, show (0 : Int32).toInt = 0 from rfl, ti_n (show n < 2 ^ 31 by omega)]
  by_cases h1 : a.toInt < 0
  · rw [if_pos h1, if_neg (by omega)]
  · rw [if_neg h1]
    by_cases h2 : (n : Int) ≤ a.toInt
    · rw [if_pos h2, if_neg (by omega)]
    · rw [if_neg h2, if_pos (by omega)]
theorem q_hasAct {μ : MT} {p na : Nat} {a : Int32} (e : μ p 2 = nI na) (hn : na < 1000000) : m_X3_hasAct Zc p a μ = some (bI (0 ≤ a.toInt ∧ a.toInt < na)) := by
  unfold m_X3_hasAct
  rw [e]
  exact q_rng hn
theorem q_hasCell {μ : MT} {p n : Nat} {a : Int32} (e : μ p 0 = nI n) (hn : n < 1000000) : m_X3_hasCell Zc p a μ = some (bI (0 ≤ a.toInt ∧ a.toInt < n)) := by
  unfold m_X3_hasCell
  rw [e]
  exact q_rng hn
theorem q_hasSeam {μ : MT} {p n : Nat} {a : Int32} (e : μ p 1 = nI n) (hn : n < 1000000) : m_X3_hasSeam Zc p a μ = some (bI (0 ≤ a.toInt ∧ a.toInt < n)) := by
  unfold m_X3_hasSeam
  rw [e]
  exact q_rng hn
theorem q_isAct {μ : MT} {na : Nat} {a : Int32} (e : μ 106 7 = nI na) (hn : na < 1000000) : m_X9_isAct Zc 106 a μ = some (bI (0 ≤ a.toInt ∧ a.toInt < na)) := by
  unfold m_X9_isAct
  rw [e, q_in0 hn, ob_s, bz_b, ob_s]
theorem q_isCell {μ : MT} {n : Nat} {a : Int32} (e : μ 106 5 = nI n) (hn : n < 1000000) : m_X9_isCell Zc 106 a μ = some (bI (0 ≤ a.toInt ∧ a.toInt < n)) := by
  unfold m_X9_isCell
  rw [e, q_in0 hn, ob_s, bz_b, ob_s]
theorem q_hasKind {μ : MT} {a : Int32} : m_X0_hasKind Zc a μ = some (bI (0 ≤ a.toInt ∧ a.toInt < 8)) := q_rng (n := 8) (by omega)
theorem al_p {μ : MT} {p i j : Nat} (hp : isPl p) (hj : 1 ≤ j) (hj2 : j ≤ 4) (hi : i < 40) : ald Zc μ (p + j) (nI i) = some (μ (p + j) i) := by
  obtain ⟨z1, z2, z3, z4, z5, z6⟩ := zql hp
  rcases (by omega : j = 1 ∨ j = 2 ∨ j = 3 ∨ j = 4) with rfl | rfl | rfl | rfl
  · exact ald_n z1 hi (by omega)
  · exact ald_n z2 hi (by omega)
  · exact ald_n z3 hi (by omega)
  · exact ald_n z4 hi (by omega)
theorem al_p5 {μ : MT} {p i j : Nat} (hp : isPl p) (hj : 5 ≤ j) (hj2 : j ≤ 6) (hi : i < 6) : ald Zc μ (p + j) (nI i) = some (μ (p + j) i) := by
  obtain ⟨z1, z2, z3, z4, z5, z6⟩ := zql hp
  rcases (by omega : j = 5 ∨ j = 6) with rfl | rfl
  · exact ald_n z5 hi (by omega)
  · exact ald_n z6 hi (by omega)
/-- what the plan's bounds say -/
theorem pl_bd {nc ns na nb : Nat} {r kd pc st sm se nd A AH BH : Nat → Int32} (h : IPl nc ns na nb r kd pc st sm se nd A AH BH) : nc ≤ 12 ∧ ns ≤ 6 ∧ na ≤ 40 ∧ nb ≤ 10 := by
  have := h.2.1
  omega
theorem op_act {ν : MT} (h : Inv ν) (a0 a1 : Int32) : OkR Inv (m_X8_act Zc 127 0 a0 a1 ν) (m_X9_act Zc 106 a0 a1 ν) := by
  obtain ⟨p, d, nc, ns, na, nb, h⟩ := h
  obtain ⟨hp, hd, hpd, e11, e12⟩ := h.2.2.2.1
  have hip := h.2.2.2.2.1
  have hm := h.2.2.2.2.2.1
  obtain ⟨b1, b2, b3, b4⟩ := pl_bd hip
  have m7 : u2 ν 106 0 0 106 7 = nI na := hm.2.2.1
  have gin : ∀ μ : MT, m_X9_in Zc a1.toInt64 0 3 μ = some (bI (0 ≤ a1.toInt ∧ a1.toInt ≤ 3)) := fun μ => by
    rw [q_in, Int32.toInt_toInt64, show (0 : Int64).toInt = 0 from rfl, show (3 : Int64).toInt = 3 from rfl]
  by_cases ha : 0 ≤ a0.toInt ∧ a0.toInt < na
  · by_cases hw : 0 ≤ a1.toInt ∧ a1.toInt ≤ 3
    · have ha' := ha
      obtain ⟨a, ha1, rfl⟩ := nI_ex (n := na) ha.1 ha.2
      obtain ⟨w, hw1, rfl⟩ := nI_ex (n := 4) hw.1 (by omega)
      obtain ⟨k, c, s, q, hk, hs, e1, e2, e3, e4, e5, e6, e7, e8, e9, e10⟩ := hip.2.2.1 a ha1
      have r9 : m_X9_act Zc 106 (nI a) (nI w) ν = some (if w = 0 then (ν 110 (4 * a + w) - 1, u2 ν 106 0 0) else (ν 110 (4 * a + w) - 0, u2 ν 106 0 0)) := by
        unfold m_X9_act
        rw [ob_s, q_isAct m7 (by omega), ob_s, bI_t ha', if_neg (by decide), gin, ob_s, bI_t hw, if_neg (by decide)]
        simp (disch := omega) only [zA, x_lm, x_a]
        rw [al_110 (by omega), ob_s]
        have e : u2 ν 106 0 0 110 (4 * a + w) = ν 110 (4 * a + w) := rfl
        rw [e]
        by_cases hw0 : w = 0
        · rw [if_pos (by rw [hw0]; rfl), if_pos hw0]; rfl
        · rw [if_neg (by rw [x_eql (by omega) (by omega)]; exact hw0), if_neg hw0]; rfl
      have hst : m_X3_isStep Zc p (nI a) ν = some (bI (k < 7)) := by
        unfold m_X3_isStep
        rw [q_hasAct hip.1.2.2.1 (by omega), ob_s, bI_t ha', if_neg (by decide), zq_4 hp, al_p hp (by omega) (by omega) (by omega), ob_s, e1]
        unfold bI
        by_cases hk7 : k < 7
        · rw [if_pos hk7, if_neg (by rw [x_llt (by omega) (by omega)]; omega)]
        · rw [if_neg hk7, if_pos (by rw [x_llt (by omega) (by omega)]; omega)]
      have c8 : ∀ v, m_X8_act Zc 127 0 (nI a) (nI w) ν = some v ↔ (if w = 0 then some (nI k) else if w = 1 then some (nI c) else if w = 2 then (if k < 7 then some (nI q) else some (-1000000)) else some (nI s)) = some v := fun v => by
        unfold m_X8_act
        rw [e11, mrd_p hp, ob_s, q_hasAct hip.1.2.2.1 (by omega), ob_s, bI_t ha', if_neg (by decide)]
        simp (disch := omega) only [ob_s, zq_4 hp, zq_5 hp, zq_6 hp, zq_7 hp, al_p hp, e1, e3, e5, x_eql, hst, bI_0]
        rcases (by omega : w = 0 ∨ w = 1 ∨ w = 2 ∨ w = 3) with rfl | rfl | rfl | rfl
        · simp
        · simp
        · by_cases hk7 : k < 7
          · simp [hk7, (e9 hk7).2.2.1]
          · simp [hk7]
        · simp
      rcases (by omega : w = 0 ∨ w = 1 ∨ w = 2 ∨ w = 3) with rfl | rfl | rfl | rfl
      · refine ⟨nI k, u2 ν 106 0 0, (c8 _).mpr rfl, ?_, p, d, nc, ns, na, nb, c_s0 h⟩
        rw [r9]
        simp only [if_true, Nat.add_zero, e2]
        rw [x_sl (by omega)]; rfl
      · refine ⟨nI c, u2 ν 106 0 0, (c8 _).mpr rfl, ?_, p, d, nc, ns, na, nb, c_s0 h⟩
        rw [r9]
        simp [e4]
      · by_cases hk7 : k < 7
        · refine ⟨nI q, u2 ν 106 0 0, (c8 _).mpr (by simp [hk7]), ?_, p, d, nc, ns, na, nb, c_s0 h⟩
          rw [r9]
          simp [(e9 hk7).2.2.2]
        · refine ⟨-1000000, u2 ν 106 0 0, (c8 _).mpr (by simp [hk7]), ?_, p, d, nc, ns, na, nb, c_s0 h⟩
          rw [r9]
          simp [e10 (by omega)]
      · refine ⟨nI s, u2 ν 106 0 0, (c8 _).mpr rfl, ?_, p, d, nc, ns, na, nb, c_s0 h⟩
        rw [r9]
        simp [e6]
    · refine ⟨-1000001, u2 ν 106 0 0, ?_, ?_, p, d, nc, ns, na, nb, c_s0 h⟩
      · unfold m_X8_act
        rw [e11, mrd_p hp, ob_s, q_hasAct hip.1.2.2.1 (by omega), ob_s, bI_t ha, if_neg (by decide)]
        rw [if_neg (fun hc => hw (by rw [hc]; decide)), if_neg (fun hc => hw (by rw [hc]; decide)), if_neg (fun hc => hw (by rw [hc]; decide)), if_neg (fun hc => hw (by rw [hc]; decide))]
      · unfold m_X9_act
        rw [ob_s, q_isAct m7 (by omega), ob_s, bI_t ha, if_neg (by decide), gin, ob_s, bI_f hw, if_pos rfl]
        rfl
  · refine ⟨-1000001, u2 ν 106 0 0, ?_, ?_, p, d, nc, ns, na, nb, c_s0 h⟩
    · unfold m_X8_act
      rw [e11, mrd_p hp, ob_s, q_hasAct hip.1.2.2.1 (by omega), ob_s, bI_f ha, if_pos rfl]
    · unfold m_X9_act
      rw [ob_s, q_isAct m7 (by omega), ob_s, bI_f ha, if_pos rfl]
      rfl
/-- whether an act is a step, in both -/
theorem q_steps {ν : MT} {p d nc ns na nb : Nat} (h : Core ν p d nc ns na nb) (a0 : Int32) : (m_X3_isStep Zc p a0 ν = some 0 ∧ ∀ ω : MT, ω 106 7 = ν 106 7 → ω 110 = ν 110 → m_X9_isStep Zc 106 a0 ω = some 0) ∨ (m_X3_isStep Zc p a0 ν = some 1 ∧ (∀ ω : MT, ω 106 7 = ν 106 7 → ω 110 = ν 110 → m_X9_isStep Zc 106 a0 ω = some 1) ∧ ∃ a k c q, a < na ∧ k < 7 ∧ a0 = nI a ∧ ν (p + 1) a = nI k ∧ ν 110 (4 * a) = nI (k + 1) ∧ ν (p + 2) a = nI c ∧ ν 110 (4 * a + 1) = nI c ∧ ν (p + 3) a = nI q ∧ ν 110 (4 * a + 2) = nI q ∧ q ≤ 20) := by
  obtain ⟨hp, hd, hpd, e11, e12⟩ := h.2.2.2.1
  have hip := h.2.2.2.2.1
  have hm := h.2.2.2.2.2.1
  obtain ⟨b1, b2, b3, b4⟩ := pl_bd hip
  have m7 := hm.2.2.1
  unfold m_X3_isStep m_X9_isStep
  rw [q_hasAct hip.1.2.2.1 (by omega), ob_s]
  by_cases ha : 0 ≤ a0.toInt ∧ a0.toInt < na
  · have ha' := ha
    obtain ⟨a, ha1, rfl⟩ := nI_ex (n := na) ha.1 ha.2
    obtain ⟨k, c, s, q, hk, hs, e1, e2, e3, e4, e5, e6, e7, e8, e9, e10⟩ := hip.2.2.1 a ha1
    rw [bI_t ha', if_neg (by decide), zq_4 hp, al_p hp (by omega) (by omega) (by omega), ob_s, e1]
    have hr : ∀ ω : MT, ω 106 7 = ν 106 7 → ω 110 = ν 110 → ((m_X9_isAct Zc 106 (nI a) ω).bind fun r1 => if r1 = 0 then some 0 else (ald Zc ω (zr Zc 106 9) (4 * nI a)).bind fun x3 => if 8 ≤ x3 then some 0 else some (1 : Int32)) = if 7 ≤ k then some 0 else some 1 := fun ω f1 f2 => by
      rw [q_isAct (f1.trans m7) (by omega), ob_s, bI_t ha', if_neg (by decide)]
      simp (disch := omega) only [zA, x_lm, al_110, ob_s]
      rw [f2, e2]
      simp (disch := omega) only [x_lle]
      by_cases hk7 : 7 ≤ k
      · rw [if_pos hk7, if_pos (by omega)]
      · rw [if_neg hk7, if_neg (by omega)]
    simp (disch := omega) only [x_llt]
    by_cases hk7 : k < 7
    · right
      exact ⟨by rw [if_neg (by omega)], fun ω f1 f2 => by rw [hr ω f1 f2, if_neg (by omega)], a, k, c, q, ha1, hk7, rfl, e1, e2, e3, e4, (e9 hk7).2.2.1, (e9 hk7).2.2.2, (e9 hk7).2.1⟩
    · left
      exact ⟨by rw [if_pos (by omega)], fun ω f1 f2 => by rw [hr ω f1 f2, if_pos (by omega)]⟩
  · left
    rw [bI_f ha, if_pos rfl]
    exact ⟨rfl, fun ω f1 f2 => by rw [q_isAct (f1.trans m7) (by omega), ob_s, bI_f ha, if_pos rfl]⟩
theorem op_kind {ν : MT} (h : Inv ν) (a0 : Int32) : OkR Inv (m_X8_kind Zc 127 0 a0 ν) (m_X9_kind Zc 106 a0 ν) := by
  obtain ⟨p, d, nc, ns, na, nb, h⟩ := h
  obtain ⟨hp, hd, hpd, e11, e12⟩ := h.2.2.2.1
  obtain ⟨b1, b2, b3, b4⟩ := pl_bd h.2.2.2.2.1
  rcases q_steps h a0 with ⟨h1, h2⟩ | ⟨h1, h2, a, k, c, q, ha, hk, rfl, e1, e2, e3, e4, e5, e6, e7⟩
  · refine ⟨-1000001, u2 ν 106 0 0, ?_, ?_, p, d, nc, ns, na, nb, c_s0 h⟩
    · unfold m_X8_kind
      rw [e11, mrd_p hp, ob_s, h1, ob_s, if_pos rfl]
    · unfold m_X9_kind
      rw [ob_s, h2 (u2 ν 106 0 0) rfl rfl, ob_s, if_pos rfl]
  · refine ⟨nI (k + 1), u2 ν 106 0 0, ?_, ?_, p, d, nc, ns, na, nb, c_s0 h⟩
    · unfold m_X8_kind m_X3_stepKind
      rw [e11, mrd_p hp, ob_s, h1, ob_s, if_neg (by decide), ob_s, zq_4 hp, al_p hp (by omega) (by omega) (by omega), ob_s, e1, ob_s, x_al]
    · unfold m_X9_kind
      have e2' : u2 ν 106 0 0 110 (4 * a) = nI (k + 1) := e2
      rw [ob_s, h2 (u2 ν 106 0 0) rfl rfl, ob_s, if_neg (by decide)]
      simp (disch := omega) only [zA, x_lm, al_110, ob_s, e2']
/-- isOf, both ways: over all kinds -/
def ofA (k w : Nat) : Bool := decide (w = 0) || decide (k = w) || (decide (w = 2) && (decide (3 ≤ k) && decide (k ≤ 6))) || (decide (w = 3) && decide (k = 4))
theorem q9_isOf {μ : MT} {k w : Nat} (hk : k < 8) (hw : w < 8) : m_X9_isOf Zc (nI k) (nI w) μ = some (bI (ofA k w = true)) := by
  unfold m_X9_isOf
  rw [q_in, Int32.toInt_toInt64, ti_n (by omega), show (3 : Int64).toInt = 3 from rfl, show (6 : Int64).toInt = 6 from rfl]
  simp (disch := omega) only [x_eql, x_eq, bI_0, ob_s]
  unfold ofA bI
  by_cases h0 : w = 0
  · simp [h0, jn]
  · by_cases h1 : k = w
    · simp [h0, h1, jn]
    · by_cases h2 : w = 2
      · by_cases h3 : 3 ≤ k ∧ k ≤ 6
        · have h3' : 3 ≤ (k : Int) ∧ (k : Int) ≤ 6 := by omega
          simp [h0, h1, h2, h3, h3', jn]
        · have h3' : ¬ (3 ≤ (k : Int) ∧ (k : Int) ≤ 6) := by omega
          have h4 : ¬ (3 ≤ k ∧ k ≤ 6) := h3
          have h5 : ¬ k = 2 := by omega
          simp [h0, h5, h2, h4, h3', jn]
      · by_cases h6 : w = 3
        · by_cases h7 : k = 4
          · simp [h0, h1, h2, h6, h7, jn]
          · have h5 : ¬ k = 3 := by omega
            simp [h0, h1, h2, h6, h7, h5, jn]
        · simp [h0, h1, h2, h6, jn]
/-- one step up the kinds -/
def upA (k : Nat) : Nat := [0, 0, 0, 2, 3, 2, 2, 0].getD k 0
theorem t1001 : ∀ k, k < 8 → μf 1001 k = nI (upA k) := by decide +kernel
/-- where the walk up the kinds comes to rest -/
def wkA (w : Nat) : Nat → Nat → Nat
  | 0, k => k
  | n + 1, k => if k = 0 ∨ k = w then k else wkA w n (upA k)
theorem upA_lt : ∀ k, k < 8 → upA k < 8 := by decide
theorem q_isOfK {μ : MT} {k w : Nat} (e : μ 1001 = μf 1001) (hk : k < 8) (hw : w < 8) : m_X0_isOfKind Zc (nI k) (nI w) μ = some (bI (wkA w 8 k = w)) := by
  unfold m_X0_isOfKind
  apply ok_eq
  refine ok_l (fun m q => ∃ k1 u, k1 < 8 ∧ u + m = 8 ∧ q = (nI k1, nI u) ∧ wkA w m k1 = wkA w 8 k) 8 (by omega) ⟨k, 0, hk, by omega, rfl, rfl⟩ ?_
  rintro m q ⟨k1, u, hk1, hu, rfl, hw1⟩
  have fin : wkA w 8 k = k1 → Ok (if nI k1 = nI w then some 1 else some 0) (fun a => a = bI (wkA w 8 k = w)) := fun hx => by
    rw [hx]
    unfold bI
    by_cases hc : k1 = w
    · rw [if_pos hc, if_pos (by rw [hc])]; exact ok_s rfl
    · rw [if_neg hc, if_neg (by rw [x_eq (by omega) (by omega)]; exact hc)]; exact ok_s rfl
  by_cases hm : m = 0
  · subst hm
    simp (disch := omega) only [x_lle, show 8 ≤ u by omega, if_true]
    exact ok_s (Or.inl ⟨_, rfl, fin hw1.symm⟩)
  · obtain ⟨m', rfl⟩ := Nat.exists_eq_succ_of_ne_zero hm
    simp (disch := omega) only [x_lle, show ¬ 8 ≤ u by omega, if_false, q_hasKind, ob_s, x_ti, bI_0, x_eql, x_eq]
    rw [if_neg (by omega)]
    rw [wkA] at hw1
    by_cases h0 : k1 = 0
    · rw [if_pos h0]
      rw [if_pos (Or.inl h0)] at hw1
      exact ok_s (Or.inl ⟨_, rfl, fin hw1.symm⟩)
    · rw [if_neg h0]
      by_cases h1 : k1 = w
      · rw [if_pos h1]
        rw [if_pos (Or.inr h1)] at hw1
        exact ok_s (Or.inl ⟨_, rfl, fin hw1.symm⟩)
      · rw [if_neg h1, al_1001 hk1, ob_s, e, t1001 k1 hk1, x_al]
        rw [if_neg (by omega)] at hw1
        exact ok_s (Or.inr ⟨_, m', rfl, by omega, upA k1, u + 1, upA_lt k1 hk1, by omega, rfl, hw1⟩)
theorem wk_of : ∀ k, k < 8 → ∀ w, w < 8 → 1 ≤ k → (wkA w 8 k = w ↔ ofA k w = true) := by decide +kernel
theorem op_as {ν : MT} (h : Inv ν) (a0 a1 : Int32) : OkI Inv (m_X8_as Zc 127 0 a0 a1 ν) (fun μ => m_X9_as Zc 106 a0 a1 μ) := by
  obtain ⟨p, d, nc, ns, na, nb, h⟩ := h
  obtain ⟨hp, hd, hpd, e11, e12⟩ := h.2.2.2.1
  obtain ⟨b1, b2, b3, b4⟩ := pl_bd h.2.2.2.2.1
  have gin : ∀ μ : MT, m_X9_in Zc a1.toInt64 0 7 μ = some (bI (0 ≤ a1.toInt ∧ a1.toInt < 8)) := fun μ => by
    rw [q_in, Int32.toInt_toInt64, show (0 : Int64).toInt = 0 from rfl, show (7 : Int64).toInt = 7 from rfl]
    unfold bI
    by_cases hc : 0 ≤ a1.toInt ∧ a1.toInt < 8
    · rw [if_pos hc, if_pos (by omega)]
    · rw [if_neg hc, if_neg (by omega)]
  rcases q_steps h a0 with ⟨h1, h2⟩ | ⟨h1, h2, a, k, c, q, ha, hk, rfl, e1, e2, e3, e4, e5, e6, e7⟩
  · refine ⟨-1000001, ν, u2 ν 106 0 0, ?_, ?_, p, d, nc, ns, na, nb, c_s0 h⟩
    · unfold m_X8_as
      rw [e11, mrd_p hp, ob_s, h1, ob_s, if_pos rfl]
    · show m_X9_as Zc 106 _ _ ν = _
      unfold m_X9_as
      rw [ob_s, h2 (u2 ν 106 0 0) rfl rfl, ob_s, if_pos rfl]
  · by_cases hw : 0 ≤ a1.toInt ∧ a1.toInt < 8
    · have hw' := hw
      obtain ⟨w, hw1, rfl⟩ := nI_ex (n := 8) hw.1 hw.2
      have hwk := wk_of (k + 1) (by omega) w hw1 (by omega)
      have e0 := h.2.2.2.2.2.2.2.2.2.2.2.2.2.1
      by_cases hof : ofA (k + 1) w = true
      · refine ⟨nI c, u2 ν 0 15 0, u2 (u2 (u2 ν 0 15 0) 106 0 0) 106 1 0, ?_, ?_, p, d, nc, ns, na, nb, ?_⟩
        · unfold m_X8_as m_X3_stepKind
          rw [e11, mrd_p hp, ob_s, h1, ob_s, if_neg (by decide), q_hasKind, ob_s, bI_t hw', if_neg (by decide), ob_s, zq_4 hp, al_p hp (by omega) (by omega) (by omega), ob_s, e1, ob_s, x_al, q_isOfK e0 (by omega) hw1, ob_s, bI_t (hwk.mpr hof), if_neg (by decide), ob_s, zq_5 hp, al_p hp (by omega) (by omega) (by omega), ob_s, e3]
          rfl
        · have hst : m_X9_isStep Zc 106 (nI a) (u2 (u2 ν 0 15 0) 106 0 0) = some 1 := h2 _ rfl rfl
          show m_X9_as Zc 106 _ _ (u2 ν 0 15 0) = _
          unfold m_X9_as
          rw [ob_s, hst, ob_s, if_neg (by decide), gin, ob_s, bI_t hw', if_neg (by decide), ob_s]
          have e2' : u2 (u2 (u2 ν 0 15 0) 106 0 0) 106 1 0 110 (4 * a) = nI (k + 1) := e2
          have e4' : u2 (u2 (u2 ν 0 15 0) 106 0 0) 106 1 0 110 (4 * a + 1) = nI c := e4
          simp (disch := omega) only [zA, x_lm, x_al, al_110, ob_s, e2', e4', q9_isOf, bI_0, hof, not_true, if_false]
        · have := c_s1 h 0
          have e : u2 (u2 (u2 (u2 ν 0 15 0) 106 0 0) 106 1 0) 106 1 0 = u2 (u2 (u2 ν 0 15 0) 106 0 0) 106 1 0 := by
            funext x y
            simp only [u2_r]
            grind
          rw [e] at this
          exact this
      · refine ⟨-1000010 - 3, u2 ν 0 15 3, _, ?_, ?_, p, d, nc, ns, na, nb, c_s1 h 3⟩
        · unfold m_X8_as m_X3_stepKind
          rw [e11, mrd_p hp, ob_s, h1, ob_s, if_neg (by decide), q_hasKind, ob_s, bI_t hw', if_neg (by decide), ob_s, zq_4 hp, al_p hp (by omega) (by omega) (by omega), ob_s, e1, ob_s, x_al, q_isOfK e0 (by omega) hw1, ob_s, bI_f (fun hc => hof (hwk.mp hc)), if_pos rfl]
          rfl
        · have hst : m_X9_isStep Zc 106 (nI a) (u2 (u2 ν 0 15 3) 106 0 0) = some 1 := h2 _ rfl rfl
          show m_X9_as Zc 106 _ _ (u2 ν 0 15 3) = _
          unfold m_X9_as
          rw [ob_s, hst, ob_s, if_neg (by decide), gin, ob_s, bI_t hw', if_neg (by decide), ob_s]
          have e2' : u2 (u2 (u2 ν 0 15 3) 106 0 0) 106 1 0 110 (4 * a) = nI (k + 1) := e2
          simp (disch := omega) only [zA, x_lm, x_al, al_110, ob_s, e2', q9_isOf, bI_0, hof, not_false_eq_true, if_true, m_X9_finding]
          rfl
    · refine ⟨-1000001, ν, u2 ν 106 0 0, ?_, ?_, p, d, nc, ns, na, nb, c_s0 h⟩
      · unfold m_X8_as
        rw [e11, mrd_p hp, ob_s, h1, ob_s, if_neg (by decide), q_hasKind, ob_s, bI_f hw, if_pos rfl]
      · show m_X9_as Zc 106 _ _ ν = _
        unfold m_X9_as
        rw [ob_s, h2 (u2 ν 106 0 0) rfl rfl, ob_s, if_neg (by decide), gin, ob_s, bI_f hw, if_pos rfl]
end
section
def TC (μ : MT) (l : List Int32) : MT := u2 (u1 μ 91 (fun j => if j < l.length then l.getD j 0 else μ 91 j)) 90 1 (nI l.length)
def TR (μ : MT) (l : List Int32) : MT := u2 (u1 μ 126 (fun j => if j < l.length then l.getD j 0 else μ 126 j)) 106 42 (nI l.length)
theorem TC_p {μ : MT} {l : List Int32} {v : Int32} (h : l.length < 16) : m_X0_leave Zc 90 v (TC μ l) = some (TC μ (l ++ [v])) := by
  unfold m_X0_leave
  have e : TC μ l 90 1 = nI l.length := by unfold TC; simp [u2_r]
  rw [e]
  simp (disch := omega) only [zA, zD, zE, ob_s, x_lt, x_ltl, x_llt, x_le, x_lel, x_lle, x_eq, x_eql, x_eqm, x_al, x_la, x_a, x_ml, x_lm, x_m, x_cl, if_true, if_false, jn, x_d4, x_d2, bz_b, bz_0, bz_1, and_self, not_true_eq_false, not_false_eq_true, true_and, and_true, show ¬ 16 ≤ l.length by omega]
  congr 1
  unfold TC
  funext k j
  simp only [u2_r, u1_r, List.length_append, List.length_cons, List.length_nil]
  by_cases h1 : k = 90 ∧ j = 1
  · simp [h1, x_al]
  · by_cases h2 : k = 91
    · subst h2
      by_cases h3 : j = l.length
      · subst h3; simp [List.getD_eq_getElem?_getD]
      · by_cases h4 : j < l.length
        · simp [h3, h4, show j < l.length + 1 by omega, List.getD_eq_getElem?_getD, List.getElem?_append_left h4]
        · simp [h3, h4, show ¬ j < l.length + 1 by omega]
    · simp [h1, h2]
theorem TR_p {μ : MT} {l : List Int32} {v : Int32} (h : l.length < 16) : m_X9_began Zc 106 v (TR μ l) = some (TR μ (l ++ [v])) := by
  unfold m_X9_began
  have e : TR μ l 106 42 = nI l.length := by unfold TR; simp [u2_r]
  rw [e]
  simp (disch := omega) only [zA, zD, zE, ob_s, x_lt, x_ltl, x_llt, x_le, x_lel, x_lle, x_eq, x_eql, x_eqm, x_al, x_la, x_a, x_ml, x_lm, x_m, x_cl, if_true, if_false, jn, x_d4, x_d2, bz_b, bz_0, bz_1, and_self, not_true_eq_false, not_false_eq_true, true_and, and_true, show ¬ 16 ≤ l.length by omega]
  congr 1
  unfold TR
  funext k j
  simp only [u2_r, u1_r, List.length_append, List.length_cons, List.length_nil]
  by_cases h1 : k = 106 ∧ j = 42
  · simp [h1, x_al]
  · by_cases h2 : k = 126
    · subst h2
      by_cases h3 : j = l.length
      · subst h3; simp [List.getD_eq_getElem?_getD]
      · by_cases h4 : j < l.length
        · simp [h3, h4, show j < l.length + 1 by omega, List.getD_eq_getElem?_getD, List.getElem?_append_left h4]
        · simp [h3, h4, show ¬ j < l.length + 1 by omega]
    · simp [h1, h2]
theorem TC_o {μ : MT} {l : List Int32} {k : Nat} (h : k ≠ 90) (h2 : k ≠ 91) : TC μ l k = μ k := by
  unfold TC
  simp only [u2_w, u1_w, h, h2, if_false]
theorem TR_o {μ : MT} {l : List Int32} {k : Nat} (h : k ≠ 106) (h2 : k ≠ 126) : TR μ l k = μ k := by
  unfold TR
  simp only [u2_w, u1_w, h, h2, if_false]
/-- the body for a kind and what is asked -/
def bdA (k w : Nat) : Nat := if w = 0 then [10, 10, 11, 12, 13, 11, 11, 14].getD k 0 else [20, 21, 20, 20, 20, 20, 22, 23].getD k 0
def bwA (w : Nat) : Nat → Nat → Nat
  | 0, _ => if w = 0 then 10 else 20
  | n + 1, k => if k = 0 then (if w = 0 then 10 else 20) else if (if w = 0 then [0, 0, 11, 12, 13, 0, 0, 14].getD k 0 else [0, 21, 0, 0, 0, 0, 22, 23].getD k 0) = 0 then bwA w n (upA k) else (if w = 0 then [0, 0, 11, 12, 13, 0, 0, 14].getD k 0 else [0, 21, 0, 0, 0, 0, 22, 23].getD k 0)
theorem bw_bd : ∀ k, k < 8 → ∀ w, w < 2 → bwA w 8 k = bdA k w := by decide
theorem t1002 : ∀ k, k < 8 → μf 1002 k = nI ([0, 0, 11, 12, 13, 0, 0, 14].getD k 0) := by decide +kernel
theorem t1003 : ∀ k, k < 8 → μf 1003 k = nI ([0, 21, 0, 0, 0, 0, 22, 23].getD k 0) := by decide +kernel
theorem bd_lt : ∀ k, k < 8 → [0, 0, 11, 12, 13, 0, 0, 14].getD k 0 < 100 ∧ [0, 21, 0, 0, 0, 0, 22, 23].getD k 0 < 100 := by decide
theorem q_body {μ : MT} {k w : Nat} (e1 : μ 1001 = μf 1001) (e2 : μ 1002 = μf 1002) (e3 : μ 1003 = μf 1003) (hk : k < 8) (hw : w < 2) : m_X0_bodyFor Zc (nI k) (nI w) μ = some (nI (bdA k w)) := by
  unfold m_X0_bodyFor
  apply ok_eq
  rw [← bw_bd k hk w hw]
  refine ok_l (fun m q => ∃ k1 u, k1 < 8 ∧ u + m = 8 ∧ q = (nI k1, nI u) ∧ bwA w m k1 = bwA w 8 k) 8 (by omega) ⟨k, 0, hk, by omega, rfl, rfl⟩ ?_
  rintro m q ⟨k1, u, hk1, hu, rfl, hw1⟩
  have fin : (if w = 0 then 10 else 20) = bwA w 8 k → Ok (if nI w = 0 then some (10 : Int32) else some 20) (fun a => a = nI (bwA w 8 k)) := fun hx => by
    rw [← hx]
    by_cases hc : w = 0
    · rw [if_pos hc, if_pos (by rw [hc]; rfl)]; exact ok_s rfl
    · rw [if_neg hc, if_neg (by rw [x_eql (by omega) (by omega)]; exact hc)]; exact ok_s rfl
  have fin2 : (if w = 0 then 10 else 20) = bwA w 8 k → Ok (if w = 0 then some (10 : Int32) else some 20) (fun a => a = nI (bwA w 8 k)) := fun hx => by
    rw [← hx]
    by_cases hc : w = 0
    · rw [if_pos hc, if_pos hc]; exact ok_s rfl
    · rw [if_neg hc, if_neg hc]; exact ok_s rfl
  by_cases hm : m = 0
  · subst hm
    simp (disch := omega) only [x_lle, show 8 ≤ u by omega, if_true]
    exact ok_s (Or.inl ⟨_, rfl, fin hw1⟩)
  · obtain ⟨m', rfl⟩ := Nat.exists_eq_succ_of_ne_zero hm
    simp (disch := omega) only [x_lle, show ¬ 8 ≤ u by omega, if_false, q_hasKind, ob_s, x_ti, bI_0, x_eql, x_eq]
    rw [if_neg (by omega)]
    rw [bwA] at hw1
    by_cases h0 : k1 = 0
    · rw [if_pos h0]
      rw [if_pos h0] at hw1
      exact ok_s (Or.inl ⟨_, rfl, fin2 hw1⟩)
    · rw [if_neg h0, al_1002 hk1, al_1003 hk1, al_1001 hk1, ob_s, ob_s, ob_s, e1, e2, e3, t1001 k1 hk1, t1002 k1 hk1, t1003 k1 hk1, x_al]
      rw [if_neg h0] at hw1
      have hb := bd_lt k1 hk1
      have hz : (if w = 0 then some (nI ([0, 0, 11, 12, 13, 0, 0, 14].getD k1 0)) else some (nI ([0, 21, 0, 0, 0, 0, 22, 23].getD k1 0))) = some (nI (if w = 0 then [0, 0, 11, 12, 13, 0, 0, 14].getD k1 0 else [0, 21, 0, 0, 0, 0, 22, 23].getD k1 0)) := by
        by_cases hc : w = 0
        · rw [if_pos hc, if_pos hc]
        · rw [if_neg hc, if_neg hc]
      rw [hz, ob_s]
      have hlt : (if w = 0 then [0, 0, 11, 12, 13, 0, 0, 14].getD k1 0 else [0, 21, 0, 0, 0, 0, 22, 23].getD k1 0) < 100 := by
        by_cases hc : w = 0
        · rw [if_pos hc]; exact hb.1
        · rw [if_neg hc]; exact hb.2
      generalize (if w = 0 then [0, 0, 11, 12, 13, 0, 0, 14].getD k1 0 else [0, 21, 0, 0, 0, 0, 22, 23].getD k1 0) = z at *
      by_cases hzz : z = 0
      · rw [if_pos (by rw [hzz]; rfl)]
        rw [if_pos hzz] at hw1
        exact ok_s (Or.inr ⟨_, m', rfl, by omega, upA k1, u + 1, upA_lt k1 hk1, by omega, rfl, hw1⟩)
      · rw [if_neg (by rw [x_eql (by omega) (by omega)]; exact hzz)]
        rw [if_neg hzz] at hw1
        refine ok_s (Or.inl ⟨_, rfl, ?_⟩)
        rw [← hw1]
        exact ok_s rfl
section ASK
variable {ν : MT} {p d nc ns na nb a k c q : Nat}
/-- what is asked, of the step a of kind k + 1 with strength q -/
def AK (ν : MT) (p a k q : Nat) : Prop := isPl p ∧ a < 40 ∧ k < 7 ∧ ν (p + 1) a = nI k ∧ ν (p + 3) a = nI q ∧ ν 1001 = μf 1001 ∧ ν 1002 = μf 1002 ∧ ν 1003 = μf 1003
theorem TC_pl {μ : MT} {l : List Int32} (hp : isPl p) (j : Nat) : TC μ l (p + j) = μ (p + j) := TC_o (by have := isPl_le hp; omega) (by have := isPl_le hp; omega)
theorem g_lt (h : AK ν p a k q) {l : List Int32} {n x : Nat} (hx : x ≤ 16) (hl : l.length < 10) (b : Nat) : (m_X0_given Zc (n + 1) 90 p (nI a) (nI b) (nI x) (TC ν l)) = (some (TC ν (l ++ [nI b]))).bind fun ν1 => (if nI b = 10 then (ald Zc ν1 (zr Zc p 6) (nI a)).bind fun x4 => some (x4, ν1) else if nI b = 11 then (m_X0_given Zc n 90 p (nI a) 10 (nI x + 1) ν1).bind fun (r6, ν7) => (m_X0_asked (m_X0_given Zc n) Zc 90 p (nI a) 1 (nI x + 1) ν7).bind fun (r8, ν9) => some (r6 + r8, ν9) else if nI b = 12 then (m_X0_given Zc n 90 p (nI a) 11 (nI x + 1) ν1).bind fun (r11, ν12) => some (r11 - 1, ν12) else if nI b = 13 then (m_X0_given Zc n 90 p (nI a) 12 (nI x + 1) ν1).bind fun (r14, ν15) => some (2 * r14, ν15) else if nI b = 14 then (m_X0_given Zc n 90 p (nI a) 10 (nI x + 1) ν1).bind fun (r17, ν18) => some (-r17, ν18) else if nI b = 20 then some (nI a, ν1) else if nI b = 21 then (m_X0_given Zc n 90 p (nI a) 20 (nI x + 1) ν1).bind fun (r21, ν22) => some (r21 + 100, ν22) else if nI b = 22 then (m_X0_given Zc n 90 p (nI a) 20 (nI x + 1) ν1).bind fun (r24, ν25) => some (-r24, ν25) else if nI b = 23 then (m_X0_given Zc n 90 p (nI a) 20 (nI x + 1) ν1).bind fun (r27, ν28) => (m_X0_asked (m_X0_given Zc n) Zc 90 p (nI a) 0 (nI x + 1) ν28).bind fun (r29, ν30) => some (r27 + r29, ν30) else some (0, ν1)) := by
  rw [m_X0_given]
  rw [if_pos (by rw [x_lel (by omega) (by omega)]; omega), TC_p (by omega)]
theorem g_10 (h : AK ν p a k q) {l : List Int32} {n x : Nat} (hx : x ≤ 16) (hl : l.length < 10) : m_X0_given Zc (n + 1) 90 p (nI a) 10 (nI x) (TC ν l) = some (nI q, TC ν (l ++ [10])) := by
  have := g_lt h (n := n) hx hl 10
  rw [show (nI 10 : Int32) = 10 from rfl] at this
  rw [this, ob_s, if_pos rfl, zq_6 h.1, al_p h.1 (by omega) (by omega) h.2.1, TC_pl h.1, h.2.2.2.2.1, ob_s]
theorem g_20 (h : AK ν p a k q) {l : List Int32} {n x : Nat} (hx : x ≤ 16) (hl : l.length < 10) : m_X0_given Zc (n + 1) 90 p (nI a) 20 (nI x) (TC ν l) = some (nI a, TC ν (l ++ [20])) := by
  have := g_lt h (n := n) hx hl 20
  rw [show (nI 20 : Int32) = 20 from rfl] at this
  rw [this, ob_s]
  rfl
theorem g_sk (h : AK ν p a k q) {l : List Int32} : m_X3_stepKind Zc p (nI a) (TC ν l) = some (nI (k + 1)) := by
  unfold m_X3_stepKind
  rw [zq_4 h.1, al_p h.1 (by omega) (by omega) h.2.1, TC_pl h.1, h.2.2.2.1, ob_s, x_al]
theorem g_bd (h : AK ν p a k q) {l : List Int32} {w : Nat} (hw : w < 2) : m_X0_bodyFor Zc (nI (k + 1)) (nI w) (TC ν l) = some (nI (bdA (k + 1) w)) :=
  q_body (by rw [TC_o (by decide) (by decide)]; exact h.2.2.2.2.2.1) (by rw [TC_o (by decide) (by decide)]; exact h.2.2.2.2.2.2.1) (by rw [TC_o (by decide) (by decide)]; exact h.2.2.2.2.2.2.2) (by have := h.2.2.1; omega) hw
theorem g_as (h : AK ν p a k q) {l : List Int32} {n x w : Nat} (hw : w < 2) : m_X0_asked (m_X0_given Zc n) Zc 90 p (nI a) (nI w) (nI x) (TC ν l) = m_X0_given Zc n 90 p (nI a) (nI (bdA (k + 1) w)) (nI (x + 1)) (TC ν l) := by
  unfold m_X0_asked
  rw [g_sk h, ob_s, g_bd h hw, ob_s, x_al]
  cases m_X0_given Zc n 90 p (nI a) (nI (bdA (k + 1) w)) (nI (x + 1)) (TC ν l) <;> rfl
theorem g_21 (h : AK ν p a k q) {l : List Int32} {n x : Nat} (hx : x ≤ 15) (hl : l.length < 9) : m_X0_given Zc (n + 2) 90 p (nI a) 21 (nI x) (TC ν l) = some (nI a + 100, TC ν (l ++ [21] ++ [20])) := by
  have := g_lt h (n := n + 1) (x := x) (by omega) (l := l) (by omega) 21
  rw [show (nI 21 : Int32) = 21 from rfl] at this
  rw [this, ob_s]
  simp only [n1 x]
  rw [g_20 h (by omega) (by simp; omega)]
  rfl
theorem g_22 (h : AK ν p a k q) {l : List Int32} {n x : Nat} (hx : x ≤ 15) (hl : l.length < 9) : m_X0_given Zc (n + 2) 90 p (nI a) 22 (nI x) (TC ν l) = some (-nI a, TC ν (l ++ [22] ++ [20])) := by
  have := g_lt h (n := n + 1) (x := x) (by omega) (l := l) (by omega) 22
  rw [show (nI 22 : Int32) = 22 from rfl] at this
  rw [this, ob_s]
  simp only [n1 x]
  rw [g_20 h (by omega) (by simp; omega)]
  rfl
theorem g_14 (h : AK ν p a k q) {l : List Int32} {n x : Nat} (hx : x ≤ 15) (hl : l.length < 9) : m_X0_given Zc (n + 2) 90 p (nI a) 14 (nI x) (TC ν l) = some (-nI q, TC ν (l ++ [14] ++ [10])) := by
  have := g_lt h (n := n + 1) (x := x) (by omega) (l := l) (by omega) 14
  rw [show (nI 14 : Int32) = 14 from rfl] at this
  rw [this, ob_s]
  simp only [n1 x]
  rw [g_10 h (by omega) (by simp; omega)]
  rfl
theorem g_23 (h : AK ν p a 6 q) {l : List Int32} {n x : Nat} (hx : x ≤ 13) (hl : l.length < 6) : m_X0_given Zc (n + 3) 90 p (nI a) 23 (nI x) (TC ν l) = some (nI a + -nI q, TC ν (l ++ [23] ++ [20] ++ [14] ++ [10])) := by
  have := g_lt h (n := n + 2) (x := x) (by omega) (l := l) (by omega) 23
  rw [show (nI 23 : Int32) = 23 from rfl] at this
  rw [this, ob_s]
  simp only [n1 x]
  rw [g_20 h (by omega) (by simp; omega)]
  have e := g_as h (l := l ++ [23] ++ [20]) (n := n + 2) (x := x + 1) (w := 0) (by omega)
  rw [show (nI 0 : Int32) = 0 from rfl, show nI (bdA (6 + 1) 0) = (14 : Int32) from rfl] at e
  rw [if_neg (by decide), if_neg (by decide), if_neg (by decide), if_neg (by decide), if_neg (by decide), if_neg (by decide), if_neg (by decide), if_neg (by decide), if_pos trivial, ob_s]
  simp only []
  rw [e, g_14 h (by omega) (by simp; omega)]
  rfl
/-- the mark of a kind from 2 to 6: what it is, what it leaves -/
def mkV (a k : Nat) : Int32 := if k = 5 then -nI a else nI a
def mkL (k : Nat) : List Int32 := if k = 5 then [22, 20] else [20]
theorem g_mk (h : AK ν p a k q) (hk : 1 ≤ k) (hk2 : k ≤ 5) {l : List Int32} {n x : Nat} (hx : x ≤ 13) (hl : l.length < 6) : m_X0_asked (m_X0_given Zc (n + 2)) Zc 90 p (nI a) 1 (nI x) (TC ν l) = some (mkV a k, TC ν (l ++ mkL k)) := by
  have e := g_as h (l := l) (n := n + 2) (x := x) (w := 1) (by omega)
  rw [show (nI 1 : Int32) = 1 from rfl] at e
  rw [e]
  rcases (by omega : k = 1 ∨ k = 2 ∨ k = 3 ∨ k = 4 ∨ k = 5) with rfl | rfl | rfl | rfl | rfl
  · rw [show nI (bdA (1 + 1) 1) = (20 : Int32) from rfl, g_20 h (by omega) (by omega)]; rfl
  · rw [show nI (bdA (2 + 1) 1) = (20 : Int32) from rfl, g_20 h (by omega) (by omega)]; rfl
  · rw [show nI (bdA (3 + 1) 1) = (20 : Int32) from rfl, g_20 h (by omega) (by omega)]; rfl
  · rw [show nI (bdA (4 + 1) 1) = (20 : Int32) from rfl, g_20 h (by omega) (by omega)]; rfl
  · rw [show nI (bdA (5 + 1) 1) = (22 : Int32) from rfl, g_22 h (by omega) (by omega)]
    unfold mkV mkL
    rw [if_pos rfl, if_pos rfl, List.append_assoc]; rfl
theorem g_11 (h : AK ν p a k q) (hk : 1 ≤ k) (hk2 : k ≤ 5) {l : List Int32} {n x : Nat} (hx : x ≤ 12) (hl : l.length < 4) : m_X0_given Zc (n + 3) 90 p (nI a) 11 (nI x) (TC ν l) = some (nI q + mkV a k, TC ν (l ++ [11] ++ [10] ++ mkL k)) := by
  have := g_lt h (n := n + 2) (x := x) (by omega) (l := l) (by omega) 11
  rw [show (nI 11 : Int32) = 11 from rfl] at this
  rw [this, ob_s]
  simp only [n1 x]
  rw [g_10 h (by omega) (by simp; omega)]
  rw [if_neg (by decide), if_pos trivial, ob_s]
  simp only []
  rw [g_mk h hk hk2 (by omega) (by simp; omega)]
  rfl
theorem g_12 (h : AK ν p a k q) (hk : 1 ≤ k) (hk2 : k ≤ 5) {l : List Int32} {n x : Nat} (hx : x ≤ 11) (hl : l.length < 3) : m_X0_given Zc (n + 4) 90 p (nI a) 12 (nI x) (TC ν l) = some (nI q + mkV a k - 1, TC ν (l ++ [12] ++ [11] ++ [10] ++ mkL k)) := by
  have := g_lt h (n := n + 3) (x := x) (by omega) (l := l) (by omega) 12
  rw [show (nI 12 : Int32) = 12 from rfl] at this
  rw [this, ob_s]
  simp only [n1 x]
  rw [g_11 h hk hk2 (by omega) (by simp; omega)]
  rfl
theorem g_13 (h : AK ν p a k q) (hk : 1 ≤ k) (hk2 : k ≤ 5) {l : List Int32} {n x : Nat} (hx : x ≤ 10) (hl : l.length < 2) : m_X0_given Zc (n + 5) 90 p (nI a) 13 (nI x) (TC ν l) = some (2 * (nI q + mkV a k - 1), TC ν (l ++ [13] ++ [12] ++ [11] ++ [10] ++ mkL k)) := by
  have := g_lt h (n := n + 4) (x := x) (by omega) (l := l) (by omega) 13
  rw [show (nI 13 : Int32) = 13 from rfl] at this
  rw [this, ob_s]
  simp only [n1 x]
  rw [g_12 h hk hk2 (by omega) (by simp; omega)]
  rfl
end ASK
/-- the answer and the trace, of kind k + 1, asked w -/
def anV (a k q w : Nat) : Int32 := if w = 1 then (if k = 0 then nI a + 100 else if k = 6 then nI a + -nI q else mkV a k) else (if k = 6 then -nI q else if k = 0 then nI q else if k = 2 then nI q + mkV a k - 1 else if k = 3 then 2 * (nI q + mkV a k - 1) else nI q + mkV a k)
def anL (k w : Nat) : List Int32 := if w = 1 then (if k = 0 then [21, 20] else if k = 6 then [23, 20, 14, 10] else mkL k) else (if k = 6 then [14, 10] else if k = 0 then [10] else if k = 2 then [12, 11, 10] ++ mkL k else if k = 3 then [13, 12, 11, 10] ++ mkL k else [11, 10] ++ mkL k)
theorem q8_ans {ν : MT} {p a k q w : Nat} (h : AK ν p a k q) (hw : w < 2) : m_X0_answerOf Zc 90 p (nI a) (nI w) ν = some (anV a k q w, TC ν (anL k w)) := by
  unfold m_X0_answerOf
  rw [ob_s]
  have e0 : u2 ν 90 1 0 = TC ν [] := by
    unfold TC
    funext x y
    simp only [u2_r, u1_r]
    by_cases h1 : x = 90 ∧ y = 1
    · simp [h1]; rfl
    · by_cases h2 : x = 91
      · subst h2; simp
      · simp [h1, h2]
  have hk := h.2.2.1
  rw [e0]
  have e := g_as h (l := []) (n := 20) (x := 0) hw
  rw [show (nI 0 : Int32) = 0 from rfl] at e
  rw [e]
  rcases (by omega : w = 0 ∨ w = 1) with rfl | rfl
  · rcases (by omega : k = 0 ∨ k = 1 ∨ k = 2 ∨ k = 3 ∨ k = 4 ∨ k = 5 ∨ k = 6) with rfl | rfl | rfl | rfl | rfl | rfl | rfl
    · rw [show nI (bdA (0 + 1) 0) = (10 : Int32) from rfl, g_10 h (by omega) (by simp)]; rfl
    · rw [show nI (bdA (1 + 1) 0) = (11 : Int32) from rfl, g_11 h (by omega) (by omega) (by omega) (by simp)]; rfl
    · rw [show nI (bdA (2 + 1) 0) = (12 : Int32) from rfl, g_12 h (by omega) (by omega) (by omega) (by simp)]; rfl
    · rw [show nI (bdA (3 + 1) 0) = (13 : Int32) from rfl, g_13 h (by omega) (by omega) (by omega) (by simp)]; rfl
    · rw [show nI (bdA (4 + 1) 0) = (11 : Int32) from rfl, g_11 h (by omega) (by omega) (by omega) (by simp)]; rfl
    · rw [show nI (bdA (5 + 1) 0) = (11 : Int32) from rfl, g_11 h (by omega) (by omega) (by omega) (by simp)]; rfl
    · rw [show nI (bdA (6 + 1) 0) = (14 : Int32) from rfl, g_14 h (by omega) (by simp)]; rfl
  · rcases (by omega : k = 0 ∨ k = 1 ∨ k = 2 ∨ k = 3 ∨ k = 4 ∨ k = 5 ∨ k = 6) with rfl | rfl | rfl | rfl | rfl | rfl | rfl
    · rw [show nI (bdA (0 + 1) 1) = (21 : Int32) from rfl, g_21 h (by omega) (by simp)]; rfl
    · rw [show nI (bdA (1 + 1) 1) = (20 : Int32) from rfl, g_20 h (by omega) (by simp)]; rfl
    · rw [show nI (bdA (2 + 1) 1) = (20 : Int32) from rfl, g_20 h (by omega) (by simp)]; rfl
    · rw [show nI (bdA (3 + 1) 1) = (20 : Int32) from rfl, g_20 h (by omega) (by simp)]; rfl
    · rw [show nI (bdA (4 + 1) 1) = (20 : Int32) from rfl, g_20 h (by omega) (by simp)]; rfl
    · rw [show nI (bdA (5 + 1) 1) = (22 : Int32) from rfl, g_22 h (by omega) (by simp)]; rfl
    · rw [show nI (bdA (6 + 1) 1) = (23 : Int32) from rfl, g_23 h (by omega) (by simp)]; rfl
section RASK
variable {ω : MT} {a k q : Nat}
theorem r_fl (ha : a < 40) (e : ω 110 (4 * a + 2) = nI q) {l : List Int32} (hl : l.length < 10) : m_X9_flameSize Zc 106 (nI a) (TR ω l) = some (-nI q, TR ω (l ++ [14] ++ [10])) := by
  unfold m_X9_flameSize
  rw [TR_p (by omega), ob_s, TR_p (by simp; omega), ob_s]
  simp (disch := omega) only [zA, x_lm, x_al, al_110, ob_s, TR_o (show (110 : Nat) ≠ 106 by decide) (show (110 : Nat) ≠ 126 by decide), e]
theorem r_mk (ha : a < 40) (hk : k < 7) (e : ω 110 (4 * a + 2) = nI q) {l : List Int32} (hl : l.length < 8) : m_X9_markOf Zc 106 (nI a) (nI (k + 1)) (TR ω l) = some (anV a k q 1, TR ω (l ++ anL k 1)) := by
  unfold m_X9_markOf
  have p1 : ∀ v, m_X9_began Zc 106 v (TR ω l) = some (TR ω (l ++ [v])) := fun v => TR_p (by omega)
  have p2 : ∀ u v, m_X9_began Zc 106 v (TR ω (l ++ [u])) = some (TR ω (l ++ [u, v])) := fun u v => by rw [TR_p (by simp; omega), List.append_assoc]; rfl
  have p3 : ∀ u v, m_X9_flameSize Zc 106 (nI a) (TR ω (l ++ [u, v])) = some (-nI q, TR ω (l ++ [u, v, 14, 10])) := fun u v => by rw [r_fl ha e (by simp; omega), List.append_assoc, List.append_assoc]; rfl
  rcases (by omega : k = 0 ∨ k = 1 ∨ k = 2 ∨ k = 3 ∨ k = 4 ∨ k = 5 ∨ k = 6) with rfl | rfl | rfl | rfl | rfl | rfl | rfl
  · rw [show nI (0 + 1) = (1 : Int32) from rfl]
    simp [anV, anL, mkV, mkL, p1, p2, jn]
  · rw [show nI (1 + 1) = (2 : Int32) from rfl]
    simp [anV, anL, mkV, mkL, p1, p2, jn]
  · rw [show nI (2 + 1) = (3 : Int32) from rfl]
    simp [anV, anL, mkV, mkL, p1, p2, jn]
  · rw [show nI (3 + 1) = (4 : Int32) from rfl]
    simp [anV, anL, mkV, mkL, p1, p2, jn]
  · rw [show nI (4 + 1) = (5 : Int32) from rfl]
    simp [anV, anL, mkV, mkL, p1, p2, jn]
  · rw [show nI (5 + 1) = (6 : Int32) from rfl]
    simp [anV, anL, mkV, mkL, p1, p2, jn]
  · rw [show nI (6 + 1) = (7 : Int32) from rfl]
    simp [anV, anL, mkV, mkL, p1, p2, p3, jn]
theorem r_sz (ha : a < 40) (hk : k < 7) (e : ω 110 (4 * a + 2) = nI q) : m_X9_sizeOf Zc 106 (nI a) (nI (k + 1)) (TR ω []) = some (anV a k q 0, TR ω (anL k 0)) := by
  unfold m_X9_sizeOf
  have i3 : ∀ μ : MT, m_X9_isOf Zc (nI (k + 1)) 3 μ = some (bI (ofA (k + 1) 3 = true)) := fun μ => q9_isOf (w := 3) (by omega) (by omega)
  have i2 : ∀ μ : MT, m_X9_isOf Zc (nI (k + 1)) 2 μ = some (bI (ofA (k + 1) 2 = true)) := fun μ => q9_isOf (w := 2) (by omega) (by omega)
  have pp : ∀ (l : List Int32) v, l.length < 10 → m_X9_began Zc 106 v (TR ω l) = some (TR ω (l ++ [v])) := fun l v hl => TR_p (by omega)
  have rd : ∀ (l : List Int32), ald Zc (TR ω l) 110 (nI (4 * a + 2)) = some (nI q) := fun l => by
    rw [al_110 (by omega), TR_o (by decide) (by decide), e]
  have pm : ∀ (l : List Int32), l.length < 8 → m_X9_markOf Zc 106 (nI a) (nI (k + 1)) (TR ω l) = some (anV a k q 1, TR ω (l ++ anL k 1)) := fun l hl => r_mk ha hk e hl
  have pf : m_X9_flameSize Zc 106 (nI a) (TR ω []) = some (-nI q, TR ω [14, 10]) := r_fl ha e (by simp)
  simp only [i3, i2, ob_s, zA, x_lm, x_al]
  rcases (by omega : k = 0 ∨ k = 1 ∨ k = 2 ∨ k = 3 ∨ k = 4 ∨ k = 5 ∨ k = 6) with rfl | rfl | rfl | rfl | rfl | rfl | rfl
  · rw [show bI (ofA (0 + 1) 3 = true) = 0 from rfl, show bI (ofA (0 + 1) 2 = true) = 0 from rfl, show nI (0 + 1) = (1 : Int32) from rfl]
    simp [anV, anL, mkV, mkL, pp, rd]
  · rw [show bI (ofA (1 + 1) 3 = true) = 0 from rfl, show bI (ofA (1 + 1) 2 = true) = 1 from rfl]
    simp only [show nI (1 + 1) = (2 : Int32) from rfl] at *
    simp [anV, anL, mkV, mkL, pp, rd, pm]
  · rw [show bI (ofA (2 + 1) 3 = true) = 1 from rfl, show bI (ofA (2 + 1) 2 = true) = 1 from rfl]
    simp only [show nI (2 + 1) = (3 : Int32) from rfl] at *
    simp [anV, anL, mkV, mkL, pp, rd, pm]
  · rw [show bI (ofA (3 + 1) 3 = true) = 1 from rfl, show bI (ofA (3 + 1) 2 = true) = 1 from rfl]
    simp only [show nI (3 + 1) = (4 : Int32) from rfl] at *
    simp [anV, anL, mkV, mkL, pp, rd, pm]
  · rw [show bI (ofA (4 + 1) 3 = true) = 0 from rfl, show bI (ofA (4 + 1) 2 = true) = 1 from rfl]
    simp only [show nI (4 + 1) = (5 : Int32) from rfl] at *
    simp [anV, anL, mkV, mkL, pp, rd, pm]
  · rw [show bI (ofA (5 + 1) 3 = true) = 0 from rfl, show bI (ofA (5 + 1) 2 = true) = 1 from rfl]
    simp only [show nI (5 + 1) = (6 : Int32) from rfl] at *
    simp [anV, anL, mkV, mkL, pp, rd, pm]
  · rw [show nI (6 + 1) = (7 : Int32) from rfl]
    simp [anV, anL, mkV, mkL, pf]
end RASK
theorem anL_len (k w : Nat) : (anL k w).length ≤ 16 := by
  have hm : (mkL k).length ≤ 2 := by unfold mkL; split <;> simp
  unfold anL
  split
  · split
    · simp
    · split
      · simp
      · omega
  · split
    · simp
    · split
      · simp
      · split
        · simp; omega
        · split <;> (simp; omega)
theorem op_ask {ν : MT} (h : Inv ν) (a0 a1 : Int32) : OkI Inv (m_X8_ask Zc 127 0 a0 a1 ν) (fun μ => m_X9_ask Zc 106 a0 a1 μ) := by
  obtain ⟨p, d, nc, ns, na, nb, h⟩ := h
  obtain ⟨hp, hd, hpd, e11, e12⟩ := h.2.2.2.1
  have hp2 := isPl_le hp
  have hq := hp
  unfold isPl at hq
  obtain ⟨b1, b2, b3, b4⟩ := pl_bd h.2.2.2.2.1
  have gin : ∀ μ : MT, m_X9_in Zc a1.toInt64 0 1 μ = some (bI (0 ≤ a1.toInt ∧ a1.toInt < 2)) := fun μ => by
    rw [q_in, Int32.toInt_toInt64, show (0 : Int64).toInt = 0 from rfl, show (1 : Int64).toInt = 1 from rfl]
    unfold bI
    by_cases hc : 0 ≤ a1.toInt ∧ a1.toInt < 2
    · rw [if_pos hc, if_pos (by omega)]
    · rw [if_neg hc, if_neg (by omega)]
  rcases q_steps h a0 with ⟨h1, h2⟩ | ⟨h1, h2, a, k, c, q, ha, hk, rfl, e1, e2, e3, e4, e5, e6, e7⟩
  · refine ⟨-1000001, ν, u2 ν 106 0 0, ?_, ?_, p, d, nc, ns, na, nb, c_s0 h⟩
    · unfold m_X8_ask
      rw [e11, mrd_p hp, ob_s, h1, ob_s, if_pos rfl]
    · show m_X9_ask Zc 106 _ _ ν = _
      unfold m_X9_ask
      rw [ob_s, h2 (u2 ν 106 0 0) rfl rfl, ob_s, if_pos rfl]
  · by_cases hw : 0 ≤ a1.toInt ∧ a1.toInt < 2
    · have hw' := hw
      obtain ⟨w, hw1, rfl⟩ := nI_ex (n := 2) hw.1 hw.2
      have hak : AK ν p a k q := ⟨hp, by omega, hk, e1, e5, h.2.2.2.2.2.2.2.2.2.2.2.2.2.1, h.2.2.2.2.2.2.2.2.2.2.2.2.2.2.1, h.2.2.2.2.2.2.2.2.2.2.2.2.2.2.2⟩
      refine ⟨anV a k q w, TC ν (anL k w), TR (u2 (TC ν (anL k w)) 106 0 0) (anL k w), ?_, ?_, p, d, nc, ns, na, nb, ?_⟩
      · unfold m_X8_ask
        rw [e11, mrd_p hp, ob_s, h1, ob_s, if_neg (by decide)]
        have hj : (if nI w = 0 then some (Sum.inr ()) else if nI w = 1 then some (Sum.inr ()) else some (Sum.inl (-1000001, ν)) : Option ((Int32 × MT) ⊕ Unit)) = some (Sum.inr ()) := by
          rcases (by omega : w = 0 ∨ w = 1) with rfl | rfl <;> rfl
        rw [hj, ob_s]
        simp only [jn, ob_s, zA, q8_ans hak hw1]
      · show m_X9_ask Zc 106 _ _ (TC ν (anL k w)) = _
        unfold m_X9_ask
        have t7 : u2 (TC ν (anL k w)) 106 0 0 106 7 = ν 106 7 := by
          rw [u2_r, if_neg (by decide), TC_o (by decide) (by decide)]
        have t110 : u2 (TC ν (anL k w)) 106 0 0 110 = ν 110 := by
          rw [u2_w, if_neg (by decide), TC_o (by decide) (by decide)]
        rw [ob_s, h2 _ t7 t110, ob_s, if_neg (by decide), gin, ob_s, bI_t hw', if_neg (by decide), ob_s]
        have e0 : u2 (u2 (TC ν (anL k w)) 106 0 0) 106 42 0 = TR (u2 (TC ν (anL k w)) 106 0 0) [] := by
          generalize u2 (TC ν (anL k w)) 106 0 0 = ω
          unfold TR
          funext x y
          simp only [u2_r, u1_r]
          by_cases h1 : x = 106 ∧ y = 42
          · simp [h1]; rfl
          · by_cases h2 : x = 126
            · subst h2; simp
            · simp [h1, h2]
        rw [e0]
        have t2 : u2 (TC ν (anL k w)) 106 0 0 110 (4 * a + 2) = nI q := by rw [t110]; exact e6
        have t0 : u2 (TC ν (anL k w)) 106 0 0 110 (4 * a) = nI (k + 1) := by rw [t110]; exact e2
        generalize u2 (TC ν (anL k w)) 106 0 0 = ω at *
        have rd : ald Zc (TR ω []) 110 (nI (4 * a)) = some (nI (k + 1)) := by
          rw [al_110 (by omega), TR_o (by decide) (by decide), t0]
        simp only [zA, x_lm, rd, ob_s]
        rcases (by omega : w = 0 ∨ w = 1) with rfl | rfl
        · rw [if_pos (show nI 0 = 0 from rfl), r_sz (by omega) hk t2]; rfl
        · rw [if_neg (by decide), r_mk (by omega) hk t2 (by simp)]; rfl
      · refine c_mk h (Or.inl ⟨?_, ?_, ?_, ?_, ?_, ?_⟩) ?_ (Or.inl ⟨?_, ?_⟩) (Or.inl ⟨?_, ?_, ?_, ?_⟩) ⟨?_, ?_⟩ ?_ ⟨?_, ?_, ?_⟩ ⟨?_, ?_, ?_, ?_⟩ (Or.inl ⟨?_, ?_⟩) (Or.inl ⟨?_, ?_⟩) (Or.inl ⟨?_, ?_, ?_, ?_, ?_, ?_, ?_, ?_, ?_, ?_, ?_, ?_⟩) (Or.inl ⟨?_, ?_, ?_, ?_, ?_⟩) (Or.inl ⟨?_, ?_⟩) (Or.inr ⟨(anL k w).length, anL_len k w, ?_, ?_, ?_⟩) ⟨?_, ?_, ?_, ?_⟩
        case refine_7 => have := h.2.1.1; unfold TR TC; simp only [u2_r, u1_r]; simpa using this
        all_goals first
          | (intro j hj; unfold TR TC; simp only [u2_r, u1_r]; simp [hj]; done)
          | (intro s hs; unfold TR TC; simp only [u2_w, u1_w]; grind)
          | (unfold TR TC; simp only [u2_r, u1_r]; simp; done)
          | (unfold TR TC; simp only [u2_w, u1_w]; simp; done)
    · refine ⟨-1000001, ν, u2 ν 106 0 0, ?_, ?_, p, d, nc, ns, na, nb, c_s0 h⟩
      · unfold m_X8_ask
        rw [e11, mrd_p hp, ob_s, h1, ob_s, if_neg (by decide), if_neg (fun hc => hw (by rw [hc]; decide)), if_neg (fun hc => hw (by rw [hc]; decide))]
        rfl
      · show m_X9_ask Zc 106 _ _ ν = _
        unfold m_X9_ask
        rw [ob_s, h2 (u2 ν 106 0 0) rfl rfl, ob_s, if_neg (by decide), gin, ob_s, bI_f hw, if_pos rfl]
end
section
/-! ===== the reference's run ===== -/
def NowIs (ν : MT) (x : RS) : Prop := (∀ k, k < 48 → ν 119 k = x.1 k) ∧ (∀ c, c < 12 → ν 120 c = x.2.1 c) ∧ (∀ c, c < 12 → ν 121 c = x.2.2.1 c) ∧ ν 106 35 = x.2.2.2
def FrR (μ ν : MT) : Prop := (∀ k, k ≠ 106 → k ≠ 119 → k ≠ 120 → k ≠ 121 → ν k = μ k) ∧ (∀ j, j ≠ 35 → ν 106 j = μ 106 j)
theorem FrR.refl (μ : MT) : FrR μ μ := ⟨fun _ _ _ _ _ => rfl, fun _ _ => rfl⟩
theorem FrR.trans {μ ν ω : MT} (h : FrR μ ν) (h2 : FrR ν ω) : FrR μ ω := ⟨fun k a b c d => (h2.1 k a b c d).trans (h.1 k a b c d), fun j a => (h2.2 j a).trans (h.2 j a)⟩
theorem FrR.w {μ ν : MT} (h : FrR μ ν) {k j : Nat} {v : Int32} (hk : k = 119 ∨ k = 120 ∨ k = 121) : FrR μ (u2 ν k j v) := ⟨fun q a b c d => by rw [u2_w, if_neg (by omega)]; exact h.1 q a b c d, fun i a => by rw [u2_r, if_neg (by omega)]; exact h.2 i a⟩
theorem FrR.w35 {μ ν : MT} (h : FrR μ ν) {v : Int32} : FrR μ (u2 ν 106 35 v) := ⟨fun q a b c d => by rw [u2_w, if_neg (by omega)]; exact h.1 q a b c d, fun i a => by rw [u2_r, if_neg (by omega)]; exact h.2 i a⟩
theorem le0 {x : Int32} : (x ≤ 0) ↔ ¬ 0 < x := by rw [fa_le, fa_lt]; omega
theorem r_minute {μ : MT} {x : RS} {nc : Nat} (h : NowIs μ x) (e : μ 106 5 = nI nc) (hc : nc ≤ 12) : Ok (m_X9_minute Zc 106 μ) (fun ν => NowIs ν (minA nc x) ∧ FrR μ ν) := by
  obtain ⟨h1, h2, h3, h4⟩ := h
  unfold m_X9_minute
  simp only [zA]
  refine ok_for (fun i ν => FrR μ ν ∧ ν 120 = μ 120 ∧ ν 121 = μ 121 ∧ ν 106 35 = μ 106 35 ∧ ∀ k, k < 48 → ν 119 k = if k < i then 3 * x.1 k / 4 else x.1 k) 0 nc (by omega) (by omega) rfl ⟨FrR.refl μ, rfl, rfl, rfl, fun k hk => by simpa using h1 k hk⟩ ?_ ?_
  · rintro i ν _ hi ⟨f, g1, g2, g3, g4⟩
    simp (disch := omega) only [f.2, e, zA, zD, zE, ob_s, x_lt, x_ltl, x_llt, x_le, x_lel, x_lle, x_eq, x_eql, x_eqm, x_al, x_la, x_a, x_ml, x_lm, x_m, x_cl, if_true, if_false, jn, x_d4, x_d2, bz_b, bz_0, bz_1, and_self, not_true_eq_false, not_false_eq_true, true_and, and_true, show ¬ nc ≤ i by omega, n0]
    refine ok_s (Or.inl ⟨_, rfl, f.w (Or.inl rfl), ?_, ?_, ?_, ?_⟩)
    · simp [u2_w, g1]
    · simp [u2_w, g2]
    · simp [u2_r, g3]
    · intro k hk
      rw [u2_r]
      by_cases hki : k = i
      · subst hki
        have := g4 k hk
        rw [if_neg (by omega)] at this
        simp [this]
      · have := g4 k hk
        rw [if_neg (by omega)]
        rw [this]
        by_cases hlt : k < i
        · rw [if_pos hlt, if_pos (by omega)]
        · rw [if_neg hlt, if_neg (by omega)]
  · rintro ν ⟨f, g1, g2, g3, g4⟩
    simp (disch := omega) only [f.2, e, zA, zD, zE, ob_s, x_lt, x_ltl, x_llt, x_le, x_lel, x_lle, x_eq, x_eql, x_eqm, x_al, x_la, x_a, x_ml, x_lm, x_m, x_cl, if_true, if_false, jn, x_d4, x_d2, bz_b, bz_0, bz_1, and_self, not_true_eq_false, not_false_eq_true, true_and, and_true, Nat.le_refl]
    refine ok_s ⟨_, rfl, ok_s ⟨⟨?_, ?_, ?_, ?_⟩, f.w35⟩⟩
    · intro k hk
      rw [u2_r, if_neg (by omega), g4 k hk]
      rfl
    · intro c hc
      rw [u2_r, if_neg (by omega), g1]
      exact h2 c hc
    · intro c hc
      rw [u2_r, if_neg (by omega), g2]
      exact h3 c hc
    · rw [u2_r, if_pos ⟨rfl, rfl⟩, g3, h4]
      rfl
theorem r_holds {μ : MT} {x : RS} {nc k : Nat} (h : NowIs μ x) (e : μ 106 5 = nI nc) (hc : nc ≤ 12) (hk : k ≤ 12) : m_X9_holds Zc 106 (nI k) μ = some (bI (hoA nc x.1 k = true)) := by
  unfold m_X9_holds
  rw [q_isCell e (by omega), ob_s, ti_n (by omega)]
  by_cases h1 : k < nc
  · rw [bI_t (by omega), if_neg (by decide)]
    unfold hoA bI
    simp (disch := omega) only [zA, zD, zE, ob_s, x_lt, x_ltl, x_llt, x_le, x_lel, x_lle, x_eq, x_eql, x_eqm, x_al, x_la, x_a, x_ml, x_lm, x_m, x_cl, if_true, if_false, jn, x_d4, x_d2, bz_b, bz_0, bz_1, and_self, not_true_eq_false, not_false_eq_true, true_and, and_true]
    rw [h.1 _ (by omega)]
    simp only [le0]
    by_cases h2 : 0 < x.1 (12 + k)
    · simp [h1, h2]
    · simp [h1, h2]
  · rw [bI_f (by omega), if_pos rfl]
    unfold hoA bI
    simp [h1]
theorem r_holdm {μ : MT} {x : RS} {nc c : Nat} (h : NowIs μ x) (e : μ 106 5 = nI nc) (hc : nc ≤ 12) (hk : c < 12) : m_X9_holds Zc 106 (nI c - 1) μ = some (bI (1 ≤ c ∧ hoA nc x.1 (c - 1) = true)) := by
  by_cases h0 : c = 0
  · subst h0
    unfold m_X9_holds
    rw [q_isCell e (by omega), ob_s, bI_f (by rw [show (nI 0 - 1 : Int32).toInt = -1 from rfl]; omega), if_pos rfl, bI_f (by omega)]
  · rw [x_sl (by omega), r_holds h e hc (by omega)]
    unfold bI
    by_cases h2 : hoA nc x.1 (c - 1) = true
    · rw [if_pos h2, if_pos ⟨by omega, h2⟩]
    · rw [if_neg h2, if_neg (fun hh => h2 hh.2)]
theorem r_shr {μ : MT} {x : RS} {nc kd c : Nat} {p : Int32} (h : NowIs μ x) (e : μ 106 5 = nI nc) (hc : nc ≤ 12) (hcc : c < nc) (hk : 1 ≤ kd) (hk2 : kd ≤ 7) : m_X9_shrinks Zc 106 (nI kd) (nI c) p μ = some (shA nc x.1 kd c p) := by
  unfold m_X9_shrinks
  rw [n1, r_holds h e hc (by omega), r_holdm h e hc (by omega), r_holds h e hc (by omega)]
  simp (disch := omega) only [zA, zD, zE, ob_s, x_lt, x_ltl, x_llt, x_le, x_lel, x_lle, x_eq, x_eql, x_eqm, x_al, x_la, x_a, x_ml, x_lm, x_m, x_cl, if_true, if_false, jn, x_d4, x_d2, bz_b, bz_0, bz_1, and_self, not_true_eq_false, not_false_eq_true, true_and, and_true, bI_0]
  rw [h.1 _ (by omega)]
  unfold shA
  simp only [le0]
  have hz : (if ¬ hoA nc x.1 (c + 1) = true then some (0 : Int32) else some 1) = some (if hoA nc x.1 (c + 1) = true then 1 else 0) := by
    by_cases h1 : hoA nc x.1 (c + 1) = true <;> simp [h1]
  rw [hz, ob_s]
  rcases (by omega : kd = 1 ∨ kd = 2 ∨ kd = 3 ∨ kd = 4 ∨ kd = 5 ∨ kd = 6 ∨ kd = 7) with rfl | rfl | rfl | rfl | rfl | rfl | rfl
  · simp
  · simp
  · simp
  · simp only [if_false, if_true, Nat.reduceEqDiff]
    by_cases h1 : 1 ≤ c ∧ hoA nc x.1 (c - 1) = true
    · simp [h1, jn]
    · by_cases h2 : hoA nc x.1 (c + 1) = true
      · simp [h1, h2, jn]
      · simp [h1, h2, jn]
  · simp only [if_false, if_true, Nat.reduceEqDiff]
    by_cases h1 : hoA nc x.1 c = true
    · simp [h1]
    · simp [h1]
  · simp
  · simp only [if_false, if_true, Nat.reduceEqDiff]
    by_cases h1 : 0 < x.1 (24 + c)
    · simp [h1]
    · simp [h1]
theorem r_free {μ : MT} {x : RS} {nc c : Nat} (h : NowIs μ x) (hc : nc ≤ 12) (hcc : c < nc) : Ok (m_X9_free Zc 106 (nI c) μ) (fun ν => NowIs ν (frA c x) ∧ FrR μ ν) := by
  obtain ⟨h1, h2, h3, h4⟩ := h
  unfold m_X9_free frA
  simp (disch := omega) only [zA, zD, zE, ob_s, x_lt, x_ltl, x_llt, x_le, x_lel, x_lle, x_eq, x_eql, x_eqm, x_al, x_la, x_a, x_ml, x_lm, x_m, x_cl, if_true, if_false, jn, x_d4, x_d2, bz_b, bz_0, bz_1, and_self, not_true_eq_false, not_false_eq_true, true_and, and_true]
  rw [h3 c (by omega)]
  by_cases h0 : x.2.2.1 c = 0
  · rw [if_pos h0, if_pos h0]
    exact ok_s ⟨⟨h1, h2, h3, h4⟩, FrR.refl μ⟩
  · rw [if_neg h0, if_neg h0]
    have e1 : ∀ v, u2 μ 121 c v 119 = μ 119 := fun v => rfl
    have e2 : ∀ v, u2 μ 121 c v 120 = μ 120 := fun v => rfl
    rw [e1, e2, h1 _ (by omega), h2 _ (by omega)]
    refine ok_s ⟨⟨?_, ?_, ?_, ?_⟩, (((FrR.refl μ).w (by omega)).w (by omega)).w (by omega)⟩
    · intro k hk
      have := h1 k hk
      simp only [u2_r, upd]
      grind
    · intro k hk
      have := h2 k hk
      simp only [u2_r, upd]
      grind
    · intro k hk
      have := h3 k hk
      have e0 : vp_nar .boolean 0 = 0 := rfl
      simp only [u2_r, upd, e0]
      grind
    · simp only [u2_r]
      simpa using h4
theorem r_step {μ : MT} {x : RS} {nc kd c g : Nat} {p : Int32} (h : NowIs μ x) (e : μ 106 5 = nI nc) (hc : nc ≤ 12) (hcc : c < nc) (hk : 1 ≤ kd) (hk2 : kd ≤ 7) (hg : x.1 (12 + c) = nI g) (hg2 : g < 100000) : Ok (m_X9_step Zc 106 (nI kd) (nI c) p μ) (fun ν => NowIs ν (stA nc kd c p x) ∧ FrR μ ν) := by
  have hsh := r_shr (p := p) h e hc hcc hk hk2
  obtain ⟨h1, h2, h3, h4⟩ := h
  unfold m_X9_step
  rw [hsh, ob_s]
  have hz : ¬ (8 + nI g : Int32) = 0 := by
    rw [x_la, x_eql (by omega) (by omega)]; omega
  simp (disch := omega) only [zA, zD, zE, ob_s, x_lt, x_ltl, x_llt, x_le, x_lel, x_lle, x_eq, x_eql, x_eqm, x_al, x_la, x_a, x_ml, x_lm, x_m, x_cl, if_true, if_false, jn, x_d4, x_d2, bz_b, bz_0, bz_1, and_self, not_true_eq_false, not_false_eq_true, true_and, and_true, n0, Nat.zero_add]
  rw [h1 _ (by omega), hg, x_dv hz, ob_s, h1 c (by omega)]
  have he : (if x.1 c < 100 then some (8 * shA nc x.1 kd c p / (8 + nI g)) else some (8 * shA nc x.1 kd c p / (8 + nI g) / 2)) = some (efA nc x.1 kd c p) := by
    unfold efA
    rw [hg]
    by_cases h100 : x.1 c < 100
    · rw [if_pos h100, if_neg (by rw [fa_le]; rw [fa_lt] at h100; omega)]
    · rw [if_neg h100, if_pos (by rw [fa_le]; rw [fa_lt] at h100; omega)]
  rw [he, ob_s, h3 c (by omega), h1 (24 + c) (by omega), h2 c (by omega)]
  generalize hee : efA nc x.1 kd c p = ef
  have hm : Ok (if x.2.2.1 c = 0 then some (u2 μ 119 (24 + c) (x.1 (24 + c) + ef)) else some (u2 μ 120 c (x.2.1 c + ef))) (fun ν => FrR μ ν ∧ (∀ k, k < 48 → ν 119 k = if k = 24 + c then (if x.2.2.1 c = 0 then x.1 k + ef else x.1 k) else x.1 k) ∧ (∀ k, k < 12 → ν 120 k = (if x.2.2.1 c = 0 then x.2.1 else upd x.2.1 c (x.2.1 c + ef)) k) ∧ ν 121 = μ 121 ∧ ν 106 35 = μ 106 35) := by
    by_cases h0 : x.2.2.1 c = 0
    · rw [if_pos h0, if_pos h0]
      refine ok_s ⟨(FrR.refl μ).w (by omega), ?_, ?_, ?_, ?_⟩
      · intro k hk
        have := h1 k hk
        simp only [u2_r, h0]
        grind
      · intro k hk
        have := h2 k hk
        simp only [u2_r]
        grind
      · simp [u2_w]
      · simp [u2_r]
    · rw [if_neg h0, if_neg h0]
      refine ok_s ⟨(FrR.refl μ).w (by omega), ?_, ?_, ?_, ?_⟩
      · intro k hk
        have := h1 k hk
        simp only [u2_r, h0]
        grind
      · intro k hk
        have := h2 k hk
        simp only [u2_r, upd]
        grind
      · simp [u2_w]
      · simp [u2_r]
  refine ok_b hm ?_
  rintro ν1 ⟨f1, n1', n2', n3', n4'⟩
  refine ok_for (fun i ν => FrR μ ν ∧ ν 120 = ν1 120 ∧ ν 121 = ν1 121 ∧ ν 106 35 = ν1 106 35 ∧ ∀ k, k < 48 → ν 119 k = if 36 ≤ k ∧ k < 36 + i then ν1 119 k + (if k = 36 + c then ef * (nI nc - 1) else -ef) else ν1 119 k) 0 nc (by omega) (by omega) rfl ⟨f1, rfl, rfl, rfl, fun k hk => by rw [if_neg (by omega)]⟩ ?_ ?_
  · rintro i ν _ hi ⟨f, g1, g2, g3, g4⟩
    simp (disch := omega) only [f.2, e, zA, zD, zE, ob_s, x_lt, x_ltl, x_llt, x_le, x_lel, x_lle, x_eq, x_eql, x_eqm, x_al, x_la, x_a, x_ml, x_lm, x_m, x_cl, if_true, if_false, jn, x_d4, x_d2, bz_b, bz_0, bz_1, and_self, not_true_eq_false, not_false_eq_true, true_and, and_true, show ¬ nc ≤ i by omega]
    have hx : ν 119 (36 + i) = ν1 119 (36 + i) := by rw [g4 _ (by omega), if_neg (by omega)]
    rw [hx]
    have hy : (if i = c then some (ef * (nI nc - 1)) else some (-ef)) = some (if i = c then ef * (nI nc - 1) else -ef) := by
      by_cases hic : i = c <;> simp [hic]
    rw [hy, ob_s]
    refine ok_s (Or.inl ⟨_, rfl, f.w (Or.inl rfl), ?_, ?_, ?_, ?_⟩)
    · simp [u2_w, g1]
    · simp [u2_w, g2]
    · simp [u2_r, g3]
    · intro k hk
      rw [u2_r]
      have := g4 k hk
      by_cases hki : k = 36 + i
      · subst hki
        by_cases hic : i = c
        · rw [if_pos ⟨rfl, rfl⟩, if_pos hic, if_pos (by omega), if_pos (by omega)]
        · rw [if_pos ⟨rfl, rfl⟩, if_neg hic, if_pos (by omega), if_neg (by omega)]
      · rw [if_neg (by omega), this]
        by_cases hlt : 36 ≤ k ∧ k < 36 + i
        · have h5 : 36 ≤ k ∧ k < 36 + (i + 1) := by omega
          rw [if_pos hlt, if_pos h5]
        · have h5 : ¬ (36 ≤ k ∧ k < 36 + (i + 1)) := by omega
          rw [if_neg hlt, if_neg h5]
  · rintro ν ⟨f, g1, g2, g3, g4⟩
    simp (disch := omega) only [f.2, e, zA, zD, zE, ob_s, x_lt, x_ltl, x_llt, x_le, x_lel, x_lle, x_eq, x_eql, x_eqm, x_al, x_la, x_a, x_ml, x_lm, x_m, x_cl, if_true, if_false, jn, x_d4, x_d2, bz_b, bz_0, bz_1, and_self, not_true_eq_false, not_false_eq_true, true_and, and_true, Nat.le_refl, n0, Nat.zero_add]
    refine ok_s ⟨_, rfl, ?_⟩
    have he1 : (if kd = 1 then some p else if kd = 7 then some (6 * p) else some (4 * p)) = some (heA kd p) := by
      unfold heA
      by_cases k1 : kd = 1
      · simp [k1]
      · by_cases k7 : kd = 7 <;> simp [k1, k7]
    rw [he1, ob_s]
    have he2 : (if kd = 7 then some 0 else ((if kd = 1 then some (Sum.inr ()) else if kd = 5 then some (Sum.inr ()) else some (Sum.inl 2) : Option (Int32 ⊕ Unit))).bind (jn fun (_ : Unit) => some (1 : Int32))) = some (hdA kd) := by
      unfold hdA
      by_cases k7 : kd = 7
      · simp [k7]
      · by_cases k1 : kd = 1
        · simp [k1, jn]
        · by_cases k5 : kd = 5 <;> simp [k7, k1, k5, jn]
    rw [he2, ob_s]
    have hN : NowIs (u2 (u2 ν 119 c (ν 119 c + heA kd p)) 119 (12 + c) (u2 ν 119 c (ν 119 c + heA kd p) 119 (12 + c) + hdA kd)) (fun k =>
      if k = c then x.1 k + heA kd p
      else if k = 12 + c then x.1 k + hdA kd
      else if k = 24 + c then (if x.2.2.1 c = 0 then x.1 k + ef else x.1 k)
      else if 36 ≤ k ∧ k < 36 + nc then x.1 k + (if k = 36 + c then ef * (nI nc - 1) else -ef)
      else x.1 k,
      if x.2.2.1 c = 0 then x.2.1 else upd x.2.1 c (x.2.1 c + ef), x.2.2.1, x.2.2.2) := by
      refine ⟨?_, ?_, ?_, ?_⟩
      · intro k hk
        have a1 := g4 k hk
        have a2 := n1' k hk
        have b1 := g4 c (by omega)
        have b2 := n1' c (by omega)
        have c1 := g4 (12 + c) (by omega)
        have c2 := n1' (12 + c) (by omega)
        rw [if_neg (by omega)] at b1 b2 c1 c2
        rw [a2] at a1
        rw [b2] at b1
        rw [c2] at c1
        simp only [u2_r]
        by_cases k1 : k = 12 + c
        · subst k1
          simp [c1]
        · by_cases k2 : k = c
          · subst k2
            simp [b1]
          · by_cases k3 : k = 24 + c
            · subst k3
              rw [if_neg (by omega), if_pos rfl] at a1
              simp [a1]
            · rw [if_neg k3] at a1
              simp [k1, k2, k3, a1]
      · intro k hk
        simp only [u2_r]
        have := n2' k hk
        simp [g1, this]
      · intro k hk
        simp only [u2_r]
        have := h3 k hk
        simp [g2, n3', this]
      · simp only [u2_r]
        simp [g3, n4', h4]
    have hf : FrR μ (u2 (u2 ν 119 c (ν 119 c + heA kd p)) 119 (12 + c) (u2 ν 119 c (ν 119 c + heA kd p) 119 (12 + c) + hdA kd)) := (f.w (by omega)).w (by omega)
    refine ok_b (r_minute hN (by rw [hf.2 5 (by omega)]; exact e) hc) ?_
    rintro ν2 ⟨m1, m2⟩
    refine ok_s ⟨?_, hf.trans m2⟩
    unfold stA
    rw [hee]
    exact m1
end
section
/-! ===== bounds of the plain run ===== -/
def ActOK (nc : Nat) (A : Nat → Int32) (a : Nat) : Prop := ∃ k c q : Nat, k < 10 ∧ A (4 * a) = nI (k + 1) ∧ A (4 * a + 1) = nI c ∧ (k = 7 → c ≤ 30) ∧ (k ≠ 7 → c < nc) ∧ (k < 7 → 1 ≤ q ∧ q ≤ 20 ∧ A (4 * a + 2) = nI q)
theorem ti_div {a b : Int32} (hb : 0 < b.toInt) : (a / b).toInt = a.toInt.tdiv b.toInt := by
  rw [Int32.toInt_div]
  have h1 := ti_lo a
  have h2 := ti_hi a
  have h3 : (a.toInt.tdiv b.toInt).natAbs ≤ a.toInt.natAbs := by
    rw [Int.natAbs_tdiv]
    exact Nat.div_le_self _ _
  by_cases hm : a.toInt = -2147483648
  · have : (a.toInt.tdiv b.toInt) ≤ 0 := by
      rw [hm, show (-2147483648 : Int) = -(2147483648) from rfl, Int.neg_tdiv]
      have := Int.tdiv_nonneg (a := 2147483648) (b := b.toInt) (by omega) (by omega)
      omega
    exact Int.bmod_eq_of_le (by omega) (by omega)
  · exact Int.bmod_eq_of_le (by omega) (by omega)
theorem ab_div {a b : Int32} (hb : 0 < b.toInt) : (a / b).toInt.natAbs = a.toInt.natAbs / b.toInt.natAbs := by
  rw [ti_div hb, Int.natAbs_tdiv]
  rfl
theorem ab_add {a b : Int32} {n m : Nat} (ha : a.toInt.natAbs ≤ n) (hb : b.toInt.natAbs ≤ m) (h : n + m < 2147483648) : (a + b).toInt.natAbs ≤ n + m := by
  rw [ti_add (by omega) (by omega)]
  omega
theorem ab_neg {a : Int32} {n : Nat} (ha : a.toInt.natAbs ≤ n) (h : n < 2147483648) : (-a).toInt.natAbs ≤ n := by
  rw [ti_neg (by omega)]
  omega
theorem sh_bd {nc kd c q : Nat} {N : Nat → Int32} (h1 : 1 ≤ q) (h2 : q ≤ 20) : (shA nc N kd c (nI q)).toInt.natAbs ≤ 20 := by
  have e1 : (nI q).toInt = q := ti_n (by omega)
  have e2 : (-nI q).toInt = -q := by rw [ti_neg (by omega), e1]
  have e3 : (nI q - 1).toInt = q - 1 := ti_n1 (by omega)
  have e4 : (nI q - 0).toInt = q := by rw [ti_sub (by rw [e1, show (0 : Int32).toInt = 0 from rfl]; omega) (by rw [e1, show (0 : Int32).toInt = 0 from rfl]; omega), e1, show (0 : Int32).toInt = 0 from rfl]; omega
  have e5 : (nI q / 2).toInt.natAbs ≤ 20 := by rw [ab_div (by decide), e1]; show (q : Int).natAbs / 2 ≤ 20; omega
  unfold shA
  split
  · decide
  split
  · split <;> omega
  split
  · have f1 : (nI q - (if hoA nc N (c + 1) = true then 1 else 0) : Int32).toInt = q - 1 ∨ (nI q - (if hoA nc N (c + 1) = true then 1 else 0) : Int32).toInt = q := by
      split
      · left; exact e3
      · right; exact e4
    have f2 : (if (1 ≤ c ∧ hoA nc N (c - 1) = true) ∨ hoA nc N (c + 1) = true then (0 : Int32) else 1).toInt = 0 ∨ (if (1 ≤ c ∧ hoA nc N (c - 1) = true) ∨ hoA nc N (c + 1) = true then (0 : Int32) else 1).toInt = 1 := by
      split
      · left; rfl
      · right; rfl
    rw [ti_sub (by omega) (by omega)]
    omega
  split
  · split
    · exact e5
    · omega
  split
  · omega
  split
  · split <;> omega
  · omega
theorem ef_bd {nc kd c q g : Nat} {N : Nat → Int32} (h1 : 1 ≤ q) (h2 : q ≤ 20) (hg : N (12 + c) = nI g) (hg2 : g < 100000) : (efA nc N kd c (nI q)).toInt.natAbs ≤ 20 := by
  have hs := sh_bd (nc := nc) (kd := kd) (c := c) (N := N) h1 h2
  generalize hsh : shA nc N kd c (nI q) = sh at hs
  have e8 : (8 * sh).toInt = 8 * sh.toInt := by
    have e : (8 : Int32).toInt = 8 := rfl
    rw [ti_mul (by rw [e]; omega) (by rw [e]; omega), e]
  have ed : (8 + nI g : Int32).toInt = 8 + g := by
    rw [x_la, ti_n (by omega)]; omega
  have hq : (8 * sh / (8 + nI g)).toInt.natAbs ≤ 20 := by
    rw [ab_div (by omega), e8, ed]
    have : (8 * sh.toInt).natAbs ≤ 160 := by omega
    have h8 : ((8 : Int) + g).natAbs = 8 + g := by omega
    rw [h8]
    have h3 : (8 * sh.toInt).natAbs / (8 + g) ≤ (8 * sh.toInt).natAbs / 8 := Nat.div_le_div_left (by omega) (by omega)
    omega
  unfold efA
  rw [hg, hsh]
  split
  · rw [ab_div (by decide)]
    show _ / 2 ≤ 20
    omega
  · exact hq
theorem cool_n {h : Nat} (hh : h ≤ 480) : 3 * nI h / 4 = nI (3 * h / 4) ∧ 3 * h / 4 ≤ 360 := by
  refine ⟨?_, by omega⟩
  rw [x_lm, x_ndl (by omega) (by omega) (by omega)]
theorem bd_mono {nc m m' : Nat} {x : RS} (h : Bd nc m x) (hm : m ≤ m') : Bd nc m' x := by
  obtain ⟨⟨w, h1, h2⟩, h3⟩ := h
  refine ⟨⟨w, h1, by omega⟩, fun c hc => ?_⟩
  obtain ⟨a1, ⟨g, a2, a3⟩, a4, a5⟩ := h3 c hc
  exact ⟨a1, ⟨g, a2, by omega⟩, by omega, a5⟩
/-- one minute keeps all bounds but the clock's -/
theorem bd_mins {nc : Nat} : ∀ (n : Nat) (x : RS), (∀ c, c < nc → ∃ h : Nat, x.1 c = nI h ∧ h ≤ 360) → (∀ c, c < nc → ∃ h : Nat, (minsA nc n x).1 c = nI h ∧ h ≤ 360) ∧ (∀ k, nc ≤ k → (minsA nc n x).1 k = x.1 k) ∧ (minsA nc n x).2.1 = x.2.1 ∧ (minsA nc n x).2.2.1 = x.2.2.1 ∧ (minsA nc n x).2.2.2 = x.2.2.2 + nI n
  | 0, x, h => ⟨h, fun _ _ => rfl, rfl, rfl, by show x.2.2.2 = x.2.2.2 + 0; rw [Int32.add_zero]⟩
  | n + 1, x, h => by
    have h1 : ∀ c, c < nc → ∃ h : Nat, (minA nc x).1 c = nI h ∧ h ≤ 360 := fun c hc => by
      obtain ⟨v, e, hv⟩ := h c hc
      refine ⟨3 * v / 4, ?_, (cool_n (by omega)).2⟩
      show (if c < nc then 3 * x.1 c / 4 else x.1 c) = _
      rw [if_pos hc, e, (cool_n (by omega)).1]
    obtain ⟨a1, a2, a3, a4, a5⟩ := bd_mins n (minA nc x) h1
    refine ⟨a1, fun k hk => ?_, a3, a4, ?_⟩
    · show (minsA nc n (minA nc x)).1 k = _
      rw [a2 k hk]
      show (if k < nc then 3 * x.1 k / 4 else x.1 k) = _
      rw [if_neg (by omega)]
    · show (minsA nc n (minA nc x)).2.2.2 = _
      rw [a5]
      show x.2.2.2 + 1 + nI n = _
      rw [Int32.add_assoc, x_la, Nat.add_comm]
theorem bd_st {nc m kd c q : Nat} {x : RS} (h : Bd nc m x) (hc : nc ≤ 12) (hcc : c < nc) (h1 : 1 ≤ q) (h2 : q ≤ 20) (hm : m < 1000) : Bd nc (m + 1) (stA nc kd c (nI q) x) := by
  obtain ⟨⟨w, hw1, hw2⟩, h3⟩ := h
  refine ⟨⟨w + 1, ?_, by omega⟩, fun c' hc' => ?_⟩
  · show x.2.2.2 + 1 = _
    rw [hw1, x_al]
  · obtain ⟨⟨hh, a1, a2⟩, ⟨g, a3, a4⟩, a5, a6⟩ := h3 c' hc'
    by_cases hcc' : c' = c
    · subst hcc'
      have hef := ef_bd (nc := nc) (kd := kd) (c := c') (N := x.1) h1 h2 a3 (by omega)
      refine ⟨?_, ?_, ?_, a6⟩
      · have hhe : ∃ e : Nat, heA kd (nI q) = nI e ∧ e ≤ 120 := by
          unfold heA
          split
          · exact ⟨q, rfl, by omega⟩
          split
          · exact ⟨6 * q, x_lm, by omega⟩
          · exact ⟨4 * q, x_lm, by omega⟩
        obtain ⟨e, e1, e2⟩ := hhe
        refine ⟨3 * (hh + e) / 4, ?_, by omega⟩
        show (if c' < nc then 3 * (if c' = c' then x.1 c' + heA kd (nI q) else _) / 4 else _) = _
        rw [if_pos hc', if_pos rfl, a1, e1, x_a, (cool_n (by omega)).1]
      · have hhd : ∃ e : Nat, hdA kd = nI e ∧ e ≤ 2 := by
          unfold hdA
          split
          · exact ⟨0, rfl, by omega⟩
          split
          · exact ⟨1, rfl, by omega⟩
          · exact ⟨2, rfl, by omega⟩
        obtain ⟨e, e1, e2⟩ := hhd
        refine ⟨g + e, ?_, by omega⟩
        simp only [stA, minA]
        rw [if_neg (by omega), if_neg (by omega), if_pos trivial, a3, e1, x_a]
      · have hb : (stA nc kd c' (nI q) x).1 (24 + c') = if x.2.2.1 c' = 0 then x.1 (24 + c') + efA nc x.1 kd c' (nI q) else x.1 (24 + c') := by
          simp only [stA, minA]
          rw [if_neg (by omega), if_neg (by omega), if_neg (by omega), if_pos trivial]
        have hs : (stA nc kd c' (nI q) x).2.1 c' = if x.2.2.1 c' = 0 then x.2.1 c' else x.2.1 c' + efA nc x.1 kd c' (nI q) := by
          simp only [stA, minA]
          by_cases h0 : x.2.2.1 c' = 0
          · rw [if_pos h0, if_pos h0]
          · rw [if_neg h0, if_neg h0]; simp [upd]
        rw [hb, hs]
        by_cases h0 : x.2.2.1 c' = 0
        · rw [if_pos h0, if_pos h0]
          have := ab_add (Nat.le_refl (x.1 (24 + c')).toInt.natAbs) hef (by omega)
          omega
        · rw [if_neg h0, if_neg h0]
          have := ab_add (Nat.le_refl (x.2.1 c').toInt.natAbs) hef (by omega)
          omega
    · refine ⟨⟨3 * hh / 4, ?_, by omega⟩, ⟨g, ?_, by omega⟩, ?_, a6⟩
      · simp only [stA, minA]
        rw [if_pos hc', if_neg hcc', if_neg (by omega), if_neg (by omega), if_neg (by omega), a1, (cool_n (by omega)).1]
      · simp only [stA, minA]
        rw [if_neg (by omega), if_neg (by omega), if_neg (by omega), if_neg (by omega), if_neg (by omega), a3]
      · have hb : (stA nc kd c (nI q) x).1 (24 + c') = x.1 (24 + c') := by
          simp only [stA, minA]
          rw [if_neg (by omega), if_neg (by omega), if_neg (by omega), if_neg (by omega), if_neg (by omega)]
        have hs : (stA nc kd c (nI q) x).2.1 c' = x.2.1 c' := by
          simp only [stA, minA]
          by_cases h0 : x.2.2.1 c = 0
          · rw [if_pos h0]
          · rw [if_neg h0]; simp [upd, hcc']
        rw [hb, hs]
        omega
theorem bd_fr {nc m c : Nat} {x : RS} (h : Bd nc m x) (hc : nc ≤ 12) (hcc : c < nc) (hm : m < 1000) : Bd nc m (frA c x) := by
  unfold frA
  by_cases h0 : x.2.2.1 c = 0
  · rw [if_pos h0]; exact h
  · rw [if_neg h0]
    obtain ⟨hw, h3⟩ := h
    refine ⟨hw, fun c' hc' => ?_⟩
    obtain ⟨⟨hh, a1, a2⟩, ⟨g, a3, a4⟩, a5, a6⟩ := h3 c' hc'
    refine ⟨⟨hh, ?_, a2⟩, ⟨g, ?_, a4⟩, ?_, ?_⟩
    · simp only [upd]
      rw [if_neg (by omega), a1]
    · simp only [upd]
      rw [if_neg (by omega), a3]
    · by_cases hcc' : c' = c
      · subst hcc'
        simp only [upd, if_true]
        have h2 : (x.2.1 c' / 2).toInt.natAbs ≤ (x.2.1 c').toInt.natAbs := by
          rw [ab_div (by decide)]; exact Nat.div_le_self _ _
        have := ab_add (Nat.le_refl (x.1 (24 + c')).toInt.natAbs) h2 (by omega)
        have e0 : (0 : Int32).toInt = 0 := rfl
        rw [e0]
        omega
      · simp only [upd]
        rw [if_neg (by omega), if_neg hcc']
        exact a5
    · simp only [upd]
      by_cases hcc' : c' = c
      · rw [if_pos hcc']; left; rfl
      · rw [if_neg hcc']; exact a6
theorem bd_ac {nc m a : Nat} {A : Nat → Int32} {x : RS} (h : Bd nc m x) (hc : nc ≤ 12) (ha : ActOK nc A a) (hm : m < 1000) : Bd nc (m + 1) (acA nc A a x) := by
  obtain ⟨k, c, q, hk, e1, e2, h7, h8, h9⟩ := ha
  unfold acA
  rw [e1, e2, x_cl (show c < 2147483648 by by_cases k = 7 <;> omega)]
  by_cases k7 : k = 7
  · subst k7
    rw [if_pos (by rfl)]
    have := h7 rfl
    obtain ⟨⟨w, hw1, hw2⟩, h3⟩ := h
    obtain ⟨a1, a2, a3, a4, a5⟩ := bd_mins (nc := nc) c x (fun c' hc' => (h3 c' hc').1)
    refine ⟨⟨w + c, by rw [a5, hw1, x_a], by omega⟩, fun c' hc' => ?_⟩
    obtain ⟨b1, ⟨g, b2, b3⟩, b4, b5⟩ := h3 c' hc'
    refine ⟨a1 c' hc', ⟨g, by rw [a2 _ (by omega)]; exact b2, by omega⟩, ?_, by rw [a4]; exact b5⟩
    rw [a2 _ (by omega), a3]
    omega
  · have hcn := h8 k7
    rw [if_neg (by rw [x_eql (by omega) (by omega)]; omega)]
    by_cases k8 : k = 8
    · rw [if_pos (by rw [k8]; rfl)]
      obtain ⟨hw, h3⟩ := bd_mono h (Nat.le_succ m)
      refine ⟨hw, fun c' hc' => ?_⟩
      obtain ⟨b1, b2, b3, b4⟩ := h3 c' hc'
      refine ⟨b1, b2, b3, ?_⟩
      simp only [upd]
      by_cases hcc' : c' = c
      · rw [if_pos hcc']; right; rfl
      · rw [if_neg hcc']; exact b4
    · rw [if_neg (by rw [x_eql (by omega) (by omega)]; omega)]
      by_cases k9 : k = 9
      · rw [if_pos (by rw [k9]; rfl)]
        exact bd_mono (bd_fr h hc hcn hm) (Nat.le_succ m)
      · rw [if_neg (by rw [x_eql (by omega) (by omega)]; omega)]
        obtain ⟨q1, q2, q3⟩ := h9 (by omega)
        rw [q3]
        exact bd_st h hc hcn q1 q2 hm
theorem bd_bg {nc : Nat} {B : Nat → Int32} (hc : nc ≤ 12) (hB : ∀ c, c < 12 → -40 ≤ (B c).toInt ∧ (B c).toInt ≤ 40) : Bd nc 0 (bgA B) := by
  refine ⟨⟨0, rfl, by omega⟩, fun c hcc => ⟨⟨0, ?_, by omega⟩, ⟨0, ?_, by omega⟩, ?_, Or.inl rfl⟩⟩
  · simp only [bgA]
    rw [if_neg (by omega)]; rfl
  · simp only [bgA]
    rw [if_neg (by omega)]; rfl
  · simp only [bgA]
    rw [if_pos (by omega), show 24 + c - 24 = c by omega]
    have := hB c (by omega)
    have e0 : (0 : Int32).toInt = 0 := rfl
    rw [e0]
    omega
theorem bd_se {nc na : Nat} {A : Nat → Int32} {s : Int32} (hc : nc ≤ 12) (ha : ∀ a, a < na → ActOK nc A a) : ∀ (n m : Nat) (x : RS), n ≤ na → Bd nc m x → m + n < 1000 → Bd nc (m + n) ((List.range n).foldl (fun x a => if A (4 * a + 3) = s then acA nc A a x else x) x)
  | 0, m, x, _, h, _ => h
  | n + 1, m, x, hn, h, hm => by
    rw [List.range_succ, List.foldl_append]
    have ih := bd_se (s := s) hc ha n m x (by omega) h (by omega)
    simp only [List.foldl_cons, List.foldl_nil]
    by_cases hs : A (4 * n + 3) = s
    · rw [if_pos hs]
      exact bd_ac (m := m + n) ih hc (ha n (by omega)) (by omega)
    · rw [if_neg hs]
      exact bd_mono ih (by omega)
theorem bd_ses {nc na : Nat} {A O : Nat → Int32} {wo : Int32} (hc : nc ≤ 12) (hna : na ≤ 40) (ha : ∀ a, a < na → ActOK nc A a) : ∀ (n m : Nat) (x : RS), Bd nc m x → m + 40 * n < 1000 → Bd nc (m + 40 * n) (sesA nc na A wo O n x)
  | 0, m, x, h, _ => h
  | n + 1, m, x, h, hm => by
    unfold sesA
    rw [List.range_succ, List.foldl_append]
    have ih := bd_ses (wo := wo) (O := O) hc hna ha n m x h (by omega)
    unfold sesA at ih
    simp only [List.foldl_cons, List.foldl_nil]
    split
    · exact bd_mono ih (by omega)
    · exact bd_mono (bd_se hc ha na _ _ (Nat.le_refl _) ih (by omega)) (by omega)
theorem bd_frs {nc m : Nat} (hc : nc ≤ 12) (hm : m < 1000) : ∀ (n : Nat) (x : RS), n ≤ nc → Bd nc m x → Bd nc m ((List.range n).foldl (fun x c => frA c x) x)
  | 0, x, _, h => h
  | n + 1, x, hn, h => by
    rw [List.range_succ, List.foldl_append]
    exact bd_fr (bd_frs hc hm n x (by omega) h) hc (by omega) hm
theorem bd_go {nc ns na : Nat} {A B O : Nat → Int32} {wo : Int32} (hc : nc ≤ 12) (hns : ns ≤ 6) (hna : na ≤ 40) (ha : ∀ a, a < na → ActOK nc A a) (hB : ∀ c, c < 12 → -40 ≤ (B c).toInt ∧ (B c).toInt ≤ 40) : Bd nc 240 (goA nc ns na A B O wo) := by
  have h1 := bd_ses (wo := wo) (O := O) hc hna ha ns 0 (bgA B) (bd_bg hc hB) (by omega)
  exact bd_frs hc (by omega) nc _ (Nat.le_refl _) (bd_mono h1 (by omega))
end
section
theorem r_mins {μ : MT} {nc : Nat} (e : μ 106 5 = nI nc) (hc : nc ≤ 12) (n : Nat) (hn : n ≤ 30) {x : RS} (h : NowIs μ x) {F : MT → Option MT} (hF : F = fun ν => some ν) :
    Ok ((loop (σ := Int32 × MT) (τ := MT) (fun (y11, ν12) => ((if nI n ≤ y11 then some (Sum.inr ν12) else (m_X9_minute Zc 106 ν12).bind fun ν18 => (some (y11 + 1)).bind fun x19 => some (Sum.inl (x19, ν18))) : Option ((Int32 × MT) ⊕ (MT)))) LN (0, μ)).bind F) (fun ν => NowIs ν (minsA nc n x) ∧ FrR μ ν) := by
  subst hF
  refine ok_for (fun i ν => ∃ y, NowIs ν y ∧ FrR μ ν ∧ minsA nc (n - i) y = minsA nc n x) 0 n (by omega) (by omega) rfl ⟨x, h, FrR.refl μ, rfl⟩ ?_ ?_
  · rintro i ν _ hi ⟨y, a1, a2, a3⟩
    simp (disch := omega) only [x_le, show ¬ n ≤ i by omega, if_false]
    refine ok_b (r_minute a1 (by rw [a2.2 5 (by omega)]; exact e) hc) ?_
    rintro ν2 ⟨b1, b2⟩
    simp only [ob_s, n1]
    refine ok_s (Or.inl ⟨_, rfl, minA nc y, b1, a2.trans b2, ?_⟩)
    rw [← a3, show n - i = (n - (i + 1)) + 1 by omega]
    rfl
  · rintro ν ⟨y, a1, a2, a3⟩
    simp (disch := omega) only [x_le, Nat.le_refl, if_true]
    refine ok_s ⟨_, rfl, ok_s ⟨?_, a2⟩⟩
    rw [Nat.sub_self] at a3
    rw [← a3]
    exact a1
theorem r_doAct {μ : MT} {x : RS} {nc a m : Nat} (h : NowIs μ x) (e : μ 106 5 = nI nc) (hc : nc ≤ 12) (ha : a < 40) (hA : ActOK nc (μ 110) a) (hb : Bd nc m x) (hm : m < 1000) : Ok (m_X9_doAct Zc 106 (nI a) μ) (fun ν => NowIs ν (acA nc (μ 110) a x) ∧ FrR μ ν) := by
  obtain ⟨k, c, q, hk, e1, e2, h7, h8, h9⟩ := hA
  unfold m_X9_doAct acA
  have hcl : c < 2147483648 := by by_cases k = 7 <;> omega
  simp (disch := omega) only [zA, zD, zE, ob_s, x_lt, x_ltl, x_llt, x_le, x_lel, x_lle, x_eq, x_eql, x_eqm, x_al, x_la, x_a, x_ml, x_lm, x_m, x_cl, if_true, if_false, jn, x_d4, x_d2, bz_b, bz_0, bz_1, and_self, not_true_eq_false, not_false_eq_true, true_and, and_true, e1, e2]
  by_cases k7 : k = 7
  · subst k7
    have := h7 rfl
    rw [if_pos rfl, if_pos rfl]
    exact r_mins e hc c (by omega) h rfl
  · have hcn := h8 k7
    simp only [show ¬ k + 1 = 8 by omega, if_false]
    by_cases k8 : k = 8
    · subst k8
      simp only [if_true, Nat.reduceAdd]
      obtain ⟨g1, g2, g3, g4⟩ := h
      refine ok_s ⟨⟨g1, g2, ?_, g4⟩, (FrR.refl μ).w (by omega)⟩
      intro k hk
      have := g3 k hk
      have e0 : vp_nar .boolean 1 = 1 := rfl
      simp only [u2_r, upd, e0]
      grind
    · simp only [show ¬ k + 1 = 9 by omega, if_false]
      by_cases k9 : k = 9
      · subst k9
        simp only [if_true, Nat.reduceAdd]
        refine ok_b (r_free h hc hcn) (fun ν hν => ok_s hν)
      · simp only [show ¬ k + 1 = 10 by omega, if_false]
        obtain ⟨q1, q2, q3⟩ := h9 (by omega)
        obtain ⟨_, ⟨g, b1, b2⟩, _⟩ := hb.2 c hcn
        rw [q3]
        refine ok_b (r_step h e hc hcn (by omega) (by omega) b1 (by omega)) (fun ν hν => ok_s hν)
/-- the acts of one seam, in the reference's way: all acts are looked at -/
theorem r_seam {μ : MT} {x : RS} {nc na k m : Nat} {wo : Int32} (h : NowIs μ x) (e5 : μ 106 5 = nI nc) (e7 : μ 106 7 = nI na) (hc : nc ≤ 12) (hna : na ≤ 40) (hk : k < 6) (hA : ∀ a, a < na → ActOK nc (μ 110) a) (hb : Bd nc m x) (hm : m + na < 1000) {γ : Type} {F : MT → Option γ} {R : γ → Prop}
    (hF : ∀ ν, NowIs ν (if μ 124 k = wo then x else seA nc na (μ 110) (μ 124 k) x) → FrR μ ν → Ok (F ν) R) :
    Ok ((loop (σ := Int32 × MT) (τ := MT) (fun (y25, ν26) => ((if (ν26 106 7) ≤ y25 then some (Sum.inr ν26) else (ald Zc ν26 110 ((4 * y25) + 3)).bind fun x34 => (ald Zc ν26 124 (nI k)).bind fun x36 => (((if x34 = x36 then (ald Zc ν26 124 (nI k)).bind fun x42 => (if x42 = wo then some ν26 else (m_X9_doAct Zc 106 y25 ν26).bind fun ν43 => some ν43) else some ν26) : Option (MT))).bind (fun ν37 => (some (y25 + 1)).bind fun x40 => some (Sum.inl (x40, ν37)))) : Option ((Int32 × MT) ⊕ (MT)))) LN (0, μ)).bind F) R := by
  refine ok_for (fun i ν => FrR μ ν ∧ Bd nc (m + i) (if μ 124 k = wo then x else (List.range i).foldl (fun x a => if μ 110 (4 * a + 3) = μ 124 k then acA nc (μ 110) a x else x) x) ∧ NowIs ν (if μ 124 k = wo then x else (List.range i).foldl (fun x a => if μ 110 (4 * a + 3) = μ 124 k then acA nc (μ 110) a x else x) x)) 0 na (by omega) (by omega) rfl ⟨FrR.refl μ, ?_, ?_⟩ ?_ ?_
  · simpa using hb
  · simpa using h
  · rintro i ν _ hi ⟨f, b, g⟩
    have f110 : ν 110 = μ 110 := f.1 110 (by omega) (by omega) (by omega) (by omega)
    have f124 : ν 124 = μ 124 := f.1 124 (by omega) (by omega) (by omega) (by omega)
    simp (disch := omega) only [f.2, e7, zA, zD, zE, ob_s, x_lt, x_ltl, x_llt, x_le, x_lel, x_lle, x_eq, x_eql, x_eqm, x_al, x_la, x_a, x_ml, x_lm, x_m, x_cl, if_true, if_false, jn, x_d4, x_d2, bz_b, bz_0, bz_1, and_self, not_true_eq_false, not_false_eq_true, true_and, and_true, show ¬ na ≤ i by omega, f110, f124]
    by_cases hw : μ 124 k = wo
    · simp only [hw, if_true] at g b ⊢
      have hif : (if μ 110 (4 * i + 3) = wo then some ν else some ν) = some ν := by split <;> rfl
      rw [hif, ob_s]
      exact ok_s (Or.inl ⟨_, rfl, f, bd_mono b (by omega), g⟩)
    · simp only [hw, if_false] at g b ⊢
      rw [List.range_succ, List.foldl_append]
      simp only [List.foldl_cons, List.foldl_nil]
      by_cases hs : μ 110 (4 * i + 3) = μ 124 k
      · simp only [hs, if_true]
        have := r_doAct (μ := ν) (a := i) g (by rw [f.2 5 (by omega)]; exact e5) hc (by omega) (by rw [f110]; exact hA i hi) b (by omega)
        obtain ⟨ν2, t1, t2, t3⟩ := this
        rw [t1]
        simp only [ob_s]
        rw [f110] at t2
        exact ok_s (Or.inl ⟨_, rfl, f.trans t3, bd_ac (m := m + i) b hc (hA i hi) (by omega), t2⟩)
      · simp only [hs, if_false, ob_s]
        exact ok_s (Or.inl ⟨_, rfl, f, bd_mono b (by omega), g⟩)
  · rintro ν ⟨f, b, g⟩
    simp (disch := omega) only [f.2, e7, x_le, Nat.le_refl, if_true]
    exact ok_s ⟨_, rfl, hF ν g f⟩
theorem r_go {μ : MT} {nc ns na : Nat} {wo : Int32} (e5 : μ 106 5 = nI nc) (e6 : μ 106 6 = nI ns) (e7 : μ 106 7 = nI na) (hc : nc ≤ 12) (hns : ns ≤ 6) (hna : na ≤ 40) (hA : ∀ a, a < na → ActOK nc (μ 110) a) (hB : ∀ c, c < 12 → -40 ≤ (μ 123 c).toInt ∧ (μ 123 c).toInt ≤ 40) : Ok (m_X9_go Zc 106 wo μ) (fun ν => NowIs ν (goA nc ns na (μ 110) (μ 123) (μ 124) wo) ∧ FrR μ ν) := by
  unfold m_X9_go
  simp only [zA]
  refine ok_for (fun i ν => FrR μ ν ∧ (∀ k, k < i → ν 119 k = (bgA (μ 123)).1 k) ∧ (∀ c, c < 12 → c < i → ν 120 c = 0) ∧ (∀ c, c < 12 → c < i → ν 121 c = 0)) 0 48 (by omega) (by omega) rfl ⟨FrR.refl μ, fun k hk => by omega, fun c _ hk => by omega, fun c _ hk => by omega⟩ ?_ ?_
  · rintro i ν _ hi ⟨f, g1, g2, g3⟩
    have f123 : ν 123 = μ 123 := f.1 123 (by omega) (by omega) (by omega) (by omega)
    have hr : irm (nI i) 12 = some (nI (i % 12)) := by
      unfold irm
      rw [if_neg (by decide)]
      congr 1
      exact pk_rem (a := i) (d := 12) (by omega) (by omega) (by omega)
    have hz : ((m_X9_in Zc (nI i).toInt64 24 35 ν).bind fun r45 => (if r45 = 0 then some 0 else (ald Zc ν 123 (nI i - 24)).bind fun x58 => some x58)) = some ((bgA (μ 123)).1 i) := by
      rw [q_in, Int32.toInt_toInt64, ti_n (by omega), show (24 : Int64).toInt = 24 from rfl, show (35 : Int64).toInt = 35 from rfl, ob_s]
      unfold bgA
      by_cases h24 : 24 ≤ i ∧ i < 36
      · rw [bI_t (by omega), if_neg (by decide), x_sl (by omega), al_123 (by omega), ob_s, f123]
        simp [h24]
      · rw [bI_f (by omega), if_pos rfl]
        simp [h24]
    simp (disch := omega) only [x_lle, show ¬ 48 ≤ i by omega, if_false]
    have hz2 : ∀ G : Int32 → Option ((Int32 × MT) ⊕ MT), ((m_X9_in Zc (nI i).toInt64 24 35 ν).bind fun r45 => ((if r45 = 0 then some 0 else (ald Zc ν 123 (nI i - 24)).bind fun x58 => some x58 : Option Int32)).bind G) = G ((bgA (μ 123)).1 i) := fun G => by
      rw [← Option.bind_assoc, hz, ob_s]
    rw [hz2, hr]
    simp (disch := omega) only [zA, zD, zE, ob_s, x_lt, x_ltl, x_llt, x_le, x_lel, x_lle, x_eq, x_eql, x_eqm, x_al, x_la, x_a, x_ml, x_lm, x_m, x_cl, if_true, if_false, jn, x_d4, x_d2, bz_b, bz_0, bz_1, and_self, not_true_eq_false, not_false_eq_true, true_and, and_true]
    have e0 : vp_nar .boolean 0 = 0 := rfl
    refine ok_s (Or.inl ⟨_, rfl, ((f.w (by omega)).w (by omega)).w (by omega), ?_, ?_, ?_⟩)
    · intro k hk
      have := g1 k
      simp only [u2_r]
      grind
    · intro c hc hk
      have := g2 c hc
      simp only [u2_r]
      by_cases hci : c = i % 12
      · simp [hci]
      · have : ν 120 c = 0 := this (by omega)
        simp [hci, this]
    · intro c hc hk
      have := g3 c hc
      simp only [u2_r, e0]
      by_cases hci : c = i % 12
      · simp [hci]
      · have : ν 121 c = 0 := this (by omega)
        simp [hci, this]
  · rintro ν0 ⟨f0, g1, g2, g3⟩
    simp (disch := omega) only [x_lle, Nat.le_refl, if_true]
    refine ok_s ⟨_, rfl, ?_⟩
    simp only [ob_s]
    have hn0 : NowIs (u2 ν0 106 35 0) (bgA (μ 123)) := ⟨fun k hk => g1 k hk, fun c hc => g2 c hc (by omega), fun c hc => g3 c hc (by omega), by simp [u2_r, bgA]⟩
    have hf0 : FrR μ (u2 ν0 106 35 0) := f0.w35
    generalize u2 ν0 106 35 0 = ν1 at hn0 hf0
    refine ok_for (fun i ν => FrR μ ν ∧ NowIs ν (sesA nc na (μ 110) wo (μ 124) i (bgA (μ 123)))) 0 ns (by omega) (by omega) rfl ⟨hf0, hn0⟩ ?_ ?_
    · rintro i ν _ hi ⟨f, g⟩
      have f110 : ν 110 = μ 110 := f.1 110 (by omega) (by omega) (by omega) (by omega)
      have f124 : ν 124 = μ 124 := f.1 124 (by omega) (by omega) (by omega) (by omega)
      simp (disch := omega) only [f.2 6, e6, x_le, show ¬ ns ≤ i by omega, if_false]
      refine r_seam (nc := nc) (na := na) (wo := wo) (m := 0 + 40 * i) g (by rw [f.2 5 (by omega)]; exact e5) (by rw [f.2 7 (by omega)]; exact e7) hc hna (by omega) (by rw [f110]; exact hA) (bd_ses hc hna hA i 0 _ (bd_bg hc hB) (by omega)) (by omega) ?_
      intro ν2 t1 t2
      simp only [ob_s, n1]
      refine ok_s (Or.inl ⟨_, rfl, f.trans t2, ?_⟩)
      unfold sesA
      rw [List.range_succ, List.foldl_append]
      rw [f110, f124] at t1
      exact t1
    · rintro ν2 ⟨f2, g⟩
      simp (disch := omega) only [f2.2 6, e6, x_le, Nat.le_refl, if_true]
      refine ok_s ⟨_, rfl, ?_⟩
      refine ok_for (fun i ν => FrR μ ν ∧ NowIs ν ((List.range i).foldl (fun x c => frA c x) (sesA nc na (μ 110) wo (μ 124) ns (bgA (μ 123))))) 0 nc (by omega) (by omega) rfl ⟨f2, g⟩ ?_ ?_
      · rintro i ν _ hi ⟨f, g⟩
        simp (disch := omega) only [f.2 5, e5, x_le, show ¬ nc ≤ i by omega, if_false]
        refine ok_b (r_free g hc hi) ?_
        rintro ν3 ⟨t1, t2⟩
        simp only [ob_s, n1]
        refine ok_s (Or.inl ⟨_, rfl, f.trans t2, ?_⟩)
        rw [List.range_succ, List.foldl_append]
        exact t1
      · rintro ν ⟨f, g⟩
        simp (disch := omega) only [f.2 5, e5, x_le, Nat.le_refl, if_true]
        exact ok_s ⟨_, rfl, ok_s ⟨g, f⟩⟩
end
section
theorem hgA_c {N N' : Nat → Int32} : ∀ {n : Nat}, (∀ c, c < n → N (24 + c) = N' (24 + c)) → hgA N n = hgA N' n
  | 0, _ => rfl
  | n + 1, h => by
    rw [hgA, hgA, hgA_c (fun c hc => h c (by omega)), h n (by omega)]
theorem mxA_c {nc : Nat} {N N' : Nat → Int32} (h : ∀ c, c < nc → N (24 + c) = N' (24 + c)) : ∀ {n : Nat}, n ≤ nc + 1 → mxA nc N n = mxA nc N' n
  | 0, _ => rfl
  | n + 1, hn => by
    rw [mxA, mxA, mxA_c h (by omega), hgA_c (n := n) (fun c hc => h c (by omega)), hgA_c (n := nc) h]
theorem offA_c {nc : Nat} {N N' : Nat → Int32} (h : ∀ c, c < nc → N (24 + c) = N' (24 + c)) : offA nc N = offA nc N' := by
  unfold offA
  rw [mxA_c h (Nat.le_refl _)]
/-- heights, read off a row of 48 -/
theorem r_height {μ : MT} {k i : Nat} (hl : zl Zc k = 48) (hi : i ≤ 12) : m_X9_heightBy Zc 106 k (nI i) μ = some (hgA (μ k) i).2 := by
  unfold m_X9_heightBy
  apply ok_eq
  refine ok_l (fun m q => ∃ c, c + m = i ∧ q = ((hgA (μ k) c).2, (hgA (μ k) c).1, nI c)) i (by omega) ⟨0, by omega, rfl⟩ ?_
  rintro m q ⟨c, hc, rfl⟩
  by_cases hm : m = 0
  · subst hm
    have : c = i := by omega
    subst this
    simp (disch := omega) only [x_le, Nat.le_refl, if_true]
    exact ok_s (Or.inl ⟨_, rfl, ok_s rfl⟩)
  · simp (disch := omega) only [x_le, show ¬ i ≤ c by omega, if_false, x_la, ob_s, x_al]
    rw [ald_n hl (by omega) (by omega), ob_s]
    refine ok_s (Or.inr ⟨_, m - 1, rfl, by omega, c + 1, by omega, ?_⟩)
    simp only [hgA]
theorem r_off {μ : MT} {nc : Nat} (e : μ 106 5 = nI nc) (hc : 4 ≤ nc) (hc2 : nc ≤ 12) : m_X9_offBy Zc 106 μ = some (offA nc (μ 119)) := by
  unfold m_X9_offBy
  simp only [zA, e]
  rw [r_height (by simp only [zA]) hc2, ob_s]
  apply ok_eq
  refine ok_l (fun m q => ∃ i, i + m = nc + 1 ∧ q = (mxA nc (μ 119) i, nI i)) (nc + 1) (by omega) ⟨0, by omega, rfl⟩ ?_
  rintro m q ⟨i, hi, rfl⟩
  by_cases hm : m = 0
  · subst hm
    have : i = nc + 1 := by omega
    subst this
    simp (disch := omega) only [x_lt, show nc < nc + 1 by omega, if_true]
    refine ok_s (Or.inl ⟨_, rfl, ?_⟩)
    rw [x_dv (by rw [ne_eq, x_eql (by omega) (by omega)]; omega), ob_s]
    exact ok_s rfl
  · simp (disch := omega) only [x_lt, show ¬ nc < i by omega, if_false]
    rw [r_height (by simp only [zA]) (by omega)]
    simp only [ob_s, n1]
    have hz : ∀ v : Int32, (if 0 ≤ v then some v else some (-v)) = some (abA v) := fun v => by
      unfold abA
      by_cases h : 0 ≤ v
      · rw [if_pos h, if_neg (by rw [fa_lt]; rw [fa_le] at h; omega)]
      · rw [if_neg h, if_pos (by rw [fa_lt]; rw [fa_le] at h; omega)]
    rw [hz, ob_s]
    have hy : ∀ a b : Int32, (if a ≤ b then some b else some a) = some (if b < a then a else b) := fun a b => by
      by_cases h : a ≤ b
      · rw [if_pos h, if_neg (by rw [fa_lt]; rw [fa_le] at h; omega)]
      · rw [if_neg h, if_pos (by rw [fa_lt]; rw [fa_le] at h; omega)]
    rw [hy, ob_s]
    exact ok_s (Or.inr ⟨_, m - 1, rfl, by omega, i + 1, by omega, rfl⟩)
/-- copies of rows, place by place -/
theorem r_layO {μ : MT} : m_X9_layOpened Zc 106 μ = some (u1 μ 123 (fun c => if c < 12 then μ 117 c else μ 123 c)) := by
  unfold m_X9_layOpened
  simp only [zA]
  apply ok_eq
  refine ok_for (fun i ν => ν = u1 μ 123 (fun c => if c < i then μ 117 c else μ 123 c)) 0 12 (by omega) (by omega) rfl ?_ ?_ ?_
  · funext k j
    simp only [u1_r]
    by_cases h : k = 123 <;> simp [h]
  · rintro i ν _ hi rfl
    simp (disch := omega) only [zA, zD, zE, ob_s, x_lt, x_ltl, x_llt, x_le, x_lel, x_lle, x_eq, x_eql, x_eqm, x_al, x_la, x_a, x_ml, x_lm, x_m, x_cl, if_true, if_false, jn, x_d4, x_d2, bz_b, bz_0, bz_1, and_self, not_true_eq_false, not_false_eq_true, true_and, and_true, show ¬ 12 ≤ i by omega]
    refine ok_s (Or.inl ⟨_, rfl, ?_⟩)
    funext k j
    simp only [u1_r, u2_r]
    by_cases h : k = 123
    · subst h
      by_cases hj : j = i
      · subst hj; simp
      · have : (j < i + 1) = (j < i) := by apply propext; omega
        simp [hj, this]
    · simp [h]
  · rintro ν rfl
    simp (disch := omega) only [zA, zD, zE, ob_s, x_lt, x_ltl, x_llt, x_le, x_lel, x_lle, x_eq, x_eql, x_eqm, x_al, x_la, x_a, x_ml, x_lm, x_m, x_cl, if_true, if_false, jn, x_d4, x_d2, bz_b, bz_0, bz_1, and_self, not_true_eq_false, not_false_eq_true, true_and, and_true, Nat.le_refl]
    exact ok_s ⟨_, rfl, ok_s rfl⟩
theorem r_layN {μ : MT} : m_X9_layNumbers Zc 106 μ = some (u1 μ 124 (fun c => if c < 6 then nI c else μ 124 c)) := by
  unfold m_X9_layNumbers
  simp only [zA]
  apply ok_eq
  refine ok_for (fun i ν => ν = u1 μ 124 (fun c => if c < i then nI c else μ 124 c)) 0 6 (by omega) (by omega) rfl ?_ ?_ ?_
  · funext k j
    simp only [u1_r]
    by_cases h : k = 124 <;> simp [h]
  · rintro i ν _ hi rfl
    simp (disch := omega) only [zA, zD, zE, ob_s, x_lt, x_ltl, x_llt, x_le, x_lel, x_lle, x_eq, x_eql, x_eqm, x_al, x_la, x_a, x_ml, x_lm, x_m, x_cl, if_true, if_false, jn, x_d4, x_d2, bz_b, bz_0, bz_1, and_self, not_true_eq_false, not_false_eq_true, true_and, and_true, show ¬ 6 ≤ i by omega]
    refine ok_s (Or.inl ⟨_, rfl, ?_⟩)
    funext k j
    simp only [u1_r, u2_r]
    by_cases h : k = 124
    · subst h
      by_cases hj : j = i
      · subst hj; simp
      · have : (j < i + 1) = (j < i) := by apply propext; omega
        simp [hj, this]
    · simp [h]
  · rintro ν rfl
    simp (disch := omega) only [zA, zD, zE, ob_s, x_lt, x_ltl, x_llt, x_le, x_lel, x_lle, x_eq, x_eql, x_eqm, x_al, x_la, x_a, x_ml, x_lm, x_m, x_cl, if_true, if_false, jn, x_d4, x_d2, bz_b, bz_0, bz_1, and_self, not_true_eq_false, not_false_eq_true, true_and, and_true, Nat.le_refl]
    exact ok_s ⟨_, rfl, ok_s rfl⟩
theorem r_stand {μ : MT} : m_X9_stand Zc 106 μ = some (u1 (u2 (u2 (u1 μ 122 (fun c => if c < 48 then μ 119 c else μ 122 c)) 106 37 (μ 106 35)) 106 31 1) 118 (fun c => if c < 6 then μ 124 c else μ 118 c)) := by
  unfold m_X9_stand
  simp only [zA]
  apply ok_eq
  refine ok_for (fun i ν => ν = u1 μ 122 (fun c => if c < i then μ 119 c else μ 122 c)) 0 48 (by omega) (by omega) rfl ?_ ?_ ?_
  · funext k j
    simp only [u1_r]
    by_cases h : k = 122 <;> simp [h]
  · rintro i ν _ hi rfl
    simp (disch := omega) only [zA, zD, zE, ob_s, x_lt, x_ltl, x_llt, x_le, x_lel, x_lle, x_eq, x_eql, x_eqm, x_al, x_la, x_a, x_ml, x_lm, x_m, x_cl, if_true, if_false, jn, x_d4, x_d2, bz_b, bz_0, bz_1, and_self, not_true_eq_false, not_false_eq_true, true_and, and_true, show ¬ 48 ≤ i by omega]
    refine ok_s (Or.inl ⟨_, rfl, ?_⟩)
    funext k j
    simp only [u1_r, u2_r]
    by_cases h : k = 122
    · subst h
      by_cases hj : j = i
      · subst hj; simp
      · have : (j < i + 1) = (j < i) := by apply propext; omega
        simp [hj, this]
    · simp [h]
  · rintro ν rfl
    simp (disch := omega) only [x_lle, Nat.le_refl, if_true]
    refine ok_s ⟨_, rfl, ?_⟩
    simp only [ob_s]
    have e35 : u1 μ 122 (fun c => if c < 48 then μ 119 c else μ 122 c) 106 35 = μ 106 35 := rfl
    rw [e35]
    have e124 : u2 (u2 (u1 μ 122 (fun c => if c < 48 then μ 119 c else μ 122 c)) 106 37 (μ 106 35)) 106 31 1 124 = μ 124 := rfl
    have e118 : u2 (u2 (u1 μ 122 (fun c => if c < 48 then μ 119 c else μ 122 c)) 106 37 (μ 106 35)) 106 31 1 118 = μ 118 := rfl
    rw [← e124, ← e118]
    generalize u2 (u2 (u1 μ 122 (fun c => if c < 48 then μ 119 c else μ 122 c)) 106 37 (μ 106 35)) 106 31 1 = ω
    refine ok_for (fun i ν => ν = u1 ω 118 (fun c => if c < i then ω 124 c else ω 118 c)) 0 6 (by omega) (by omega) rfl ?_ ?_ ?_
    · funext k j
      simp only [u1_r]
      by_cases h : k = 118 <;> simp [h]
    · rintro i ν _ hi rfl
      simp (disch := omega) only [zA, zD, zE, ob_s, x_lt, x_ltl, x_llt, x_le, x_lel, x_lle, x_eq, x_eql, x_eqm, x_al, x_la, x_a, x_ml, x_lm, x_m, x_cl, if_true, if_false, jn, x_d4, x_d2, bz_b, bz_0, bz_1, and_self, not_true_eq_false, not_false_eq_true, true_and, and_true, show ¬ 6 ≤ i by omega]
      refine ok_s (Or.inl ⟨_, rfl, ?_⟩)
      funext k j
      simp only [u1_r, u2_r]
      by_cases h : k = 118
      · subst h
        by_cases hj : j = i
        · subst hj; simp
        · have : (j < i + 1) = (j < i) := by apply propext; omega
          simp [hj, this]
      · simp [h]
    · rintro ν rfl
      simp (disch := omega) only [zA, zD, zE, ob_s, x_lt, x_ltl, x_llt, x_le, x_lel, x_lle, x_eq, x_eql, x_eqm, x_al, x_la, x_a, x_ml, x_lm, x_m, x_cl, if_true, if_false, jn, x_d4, x_d2, bz_b, bz_0, bz_1, and_self, not_true_eq_false, not_false_eq_true, true_and, and_true, Nat.le_refl]
      exact ok_s ⟨_, rfl, ok_s rfl⟩
/-- what stands: the run's or the beginning's row -/
def stdR (isr : Int32) (left opd : Nat → Int32) : Nat → Int32 := fun k => if isr = 0 then (if 24 ≤ k ∧ k < 36 then opd (k - 24) else 0) else left k
theorem r_layS {μ : MT} : m_X9_layStanding Zc 106 μ = some (u1 μ 119 (fun k => if k < 48 then stdR (μ 106 31) (μ 122) (μ 117) k else μ 119 k)) := by
  unfold m_X9_layStanding
  simp only [zA]
  apply ok_eq
  refine ok_for (fun i ν => ν = u1 μ 119 (fun k => if k < i then stdR (μ 106 31) (μ 122) (μ 117) k else μ 119 k)) 0 48 (by omega) (by omega) rfl ?_ ?_ ?_
  · funext k j
    simp only [u1_r]
    by_cases h : k = 119 <;> simp [h]
  · rintro i ν _ hi rfl
    simp (disch := omega) only [x_lle, show ¬ 48 ≤ i by omega, if_false]
    have e31 : ∀ f, u1 μ 119 f 106 31 = μ 106 31 := fun f => rfl
    have hz : (if u1 μ 119 (fun k => if k < i then stdR (μ 106 31) (μ 122) (μ 117) k else μ 119 k) 106 31 = 0 then (m_X9_in Zc (nI i).toInt64 24 35 (u1 μ 119 (fun k => if k < i then stdR (μ 106 31) (μ 122) (μ 117) k else μ 119 k))).bind fun r14 => (if r14 = 0 then some 0 else (ald Zc (u1 μ 119 (fun k => if k < i then stdR (μ 106 31) (μ 122) (μ 117) k else μ 119 k)) 117 (nI i - 24)).bind fun x16 => some x16) else (ald Zc (u1 μ 119 (fun k => if k < i then stdR (μ 106 31) (μ 122) (μ 117) k else μ 119 k)) 122 (nI i)).bind fun x18 => some x18) = some (stdR (μ 106 31) (μ 122) (μ 117) i) := by
      rw [e31, q_in, Int32.toInt_toInt64, ti_n (by omega), show (24 : Int64).toInt = 24 from rfl, show (35 : Int64).toInt = 35 from rfl, ob_s, al_122 (by omega), ob_s]
      unfold stdR
      by_cases h0 : μ 106 31 = 0
      · rw [if_pos h0, if_pos h0]
        by_cases h24 : 24 ≤ i ∧ i < 36
        · rw [bI_t (by omega), if_neg (by decide), x_sl (by omega), al_117 (by omega), ob_s]
          simp [h24, u1_r]
        · rw [bI_f (by omega), if_pos rfl]
          simp [h24]
      · rw [if_neg h0, if_neg h0]
        rfl
    rw [hz]
    simp (disch := omega) only [zA, zD, zE, ob_s, x_lt, x_ltl, x_llt, x_le, x_lel, x_lle, x_eq, x_eql, x_eqm, x_al, x_la, x_a, x_ml, x_lm, x_m, x_cl, if_true, if_false, jn, x_d4, x_d2, bz_b, bz_0, bz_1, and_self, not_true_eq_false, not_false_eq_true, true_and, and_true]
    refine ok_s (Or.inl ⟨_, rfl, ?_⟩)
    funext k j
    simp only [u1_r, u2_r]
    by_cases h : k = 119
    · subst h
      by_cases hj : j = i
      · subst hj; simp
      · have : (j < i + 1) = (j < i) := by apply propext; omega
        simp [hj, this]
    · simp [h]
  · rintro ν rfl
    simp (disch := omega) only [x_lle, Nat.le_refl, if_true]
    exact ok_s ⟨_, rfl, ok_s rfl⟩
end
section
/-! ===== bits of an int (the family b_ of the kit's BITS.to-paste) ===== -/
theorem b_ext {x y : Int32} (h : ∀ i, i < 32 → bt x i = bt y i) : x = y := Int32.toBitVec_inj.mp (BitVec.eq_of_getLsbD_eq (fun i hi => h i hi))
theorem b_or (x y : Int32) (i : Nat) : bt (x ||| y) i = (bt x i || bt y i) := by unfold bt; rw [Int32.toBitVec_or, BitVec.getLsbD_or]
theorem b_and (x y : Int32) (i : Nat) : bt (x &&& y) i = (bt x i && bt y i) := by unfold bt; rw [Int32.toBitVec_and, BitVec.getLsbD_and]
theorem b_xor (x y : Int32) (i : Nat) : bt (x ^^^ y) i = (bt x i ^^ bt y i) := by unfold bt; rw [Int32.toBitVec_xor, BitVec.getLsbD_xor]
theorem b_m1 : ∀ i, i < 32 → bt (-1) i = true := by decide +kernel
theorem b_0 (i : Nat) : bt 0 i = false := BitVec.getLsbD_zero
theorem b_1 : ∀ i, i < 32 → bt 1 i = decide (i = 0) := by decide +kernel
theorem s_l : ∀ n, n < 32 → ((nI n &&& 31).toBitVec.smod 32).toNat = n := by decide +kernel
theorem b_shl (n : Nat) (hn : n < 32) (x : Int32) {i : Nat} (hi : i < 32) : bt (x <<< (nI n &&& 31)) i = (decide (n ≤ i) && bt x (i - n)) := by
  unfold bt
  rw [Int32.toBitVec_shiftLeft]
  show (x.toBitVec <<< ((nI n &&& 31).toBitVec.smod 32).toNat).getLsbD i = _
  rw [s_l n hn, BitVec.getLsbD_shiftLeft]
  rcases Nat.lt_or_ge i n with h | h
  · simp [h, Nat.not_le.mpr h]
  · simp [hi, h, Nat.not_lt.mpr h]
theorem b_sshr (n : Nat) (hn : n < 32) (x : Int32) {i : Nat} (hi : i < 32) : bt (x >>> (nI n &&& 31)) i = if n + i < 32 then bt x (n + i) else bt x 31 := by
  unfold bt
  rw [Int32.toBitVec_shiftRight]
  show (x.toBitVec.sshiftRight ((nI n &&& 31).toBitVec.smod 32).toNat).getLsbD i = _
  rw [s_l n hn, BitVec.getLsbD_sshiftRight, BitVec.msb_eq_getLsbD_last]
  simp [hi]
theorem and1 (x : Int32) : (x &&& 1 = 1 ↔ bt x 0 = true) ∧ (x &&& 1 = 0 ↔ bt x 0 = false) := by
  have h := pk_and x (m := 1) 1 (by decide)
  have hb : bt x 0 = decide (x.toBitVec.toNat % 2 = 1) := by
    unfold bt BitVec.getLsbD
    rw [Nat.testBit_zero]
  rw [h, hb, show 2 ^ 1 = 2 from rfl]
  have : x.toBitVec.toNat % 2 = 0 ∨ x.toBitVec.toNat % 2 = 1 := by omega
  rcases this with e | e
  · rw [e]; decide
  · rw [e]; decide
theorem bitC (r : Int32) {c : Nat} (hc : c < 32) : ((r >>> (nI c &&& 31)) &&& 1 = 1 ↔ bt r c = true) ∧ ((r >>> (nI c &&& 31)) &&& 1 = 0 ↔ bt r c = false) := by
  have h := and1 (r >>> (nI c &&& 31))
  rw [b_sshr c hc r (i := 0) (by omega), if_pos (by omega), Nat.add_zero] at h
  exact h
theorem b_set (r : Int32) {c i : Nat} (hc : c < 32) (hi : i < 32) : bt (r ||| (1 <<< (nI c &&& 31))) i = (bt r i || decide (i = c)) := by
  rw [b_or, b_shl c hc 1 hi, b_1 (i - c) (by omega)]
  congr 1
  by_cases h : c ≤ i
  · by_cases h2 : i = c
    · subst h2; simp
    · have h3 : ¬ i - c = 0 := by omega
      simp [h2, h3]
  · have h3 : ¬ i = c := by omega
    simp [h, h3]
theorem b_clr (r : Int32) {c i : Nat} (hc : c < 32) (hi : i < 32) : bt (r &&& ((1 <<< (nI c &&& 31)) ^^^ (-1))) i = (bt r i && !decide (i = c)) := by
  rw [b_and, b_xor, b_shl c hc 1 hi, b_1 (i - c) (by omega), b_m1 i hi]
  congr 1
  by_cases h : c ≤ i
  · by_cases h2 : i = c
    · subst h2; simp
    · have h3 : ¬ i - c = 0 := by omega
      simp [h2, h3]
  · have h3 : ¬ i = c := by omega
    simp [h, h3]
/-! ===== the program's panel ===== -/
def PIs (μ : MT) (b nc : Nat) (x : RS) : Prop := PRel nc (μ b) (μ (b + 1)) (μ (b + 2)) (μ (b + 3)) (μ (b + 4)) (μ (b + 5)) (μ (b + 6)) x
def FrP (b : Nat) (μ ν : MT) : Prop := ∀ k, k < b ∨ b + 6 < k → ν k = μ k
theorem FrP.refl (b : Nat) (μ : MT) : FrP b μ μ := fun _ _ => rfl
theorem FrP.trans {b : Nat} {μ ν ω : MT} (h : FrP b μ ν) (h2 : FrP b ν ω) : FrP b μ ω := fun k hk => (h2 k hk).trans (h k hk)
theorem FrP.w {b : Nat} {μ ν : MT} (h : FrP b μ ν) {k j : Nat} {v : Int32} (hk : b ≤ k ∧ k ≤ b + 6) : FrP b μ (u2 ν k j v) := fun q hq => by rw [u2_w, if_neg (by omega)]; exact h q hq
theorem FrP.w1 {b : Nat} {μ ν : MT} (h : FrP b μ ν) {k : Nat} {f : Nat → Int32} (hk : b ≤ k ∧ k ≤ b + 6) : FrP b μ (u1 ν k f) := fun q hq => by rw [u1_w, if_neg (by omega)]; exact h q hq
theorem u2_id {μ : MT} {k j : Nat} {v : Int32} (h : μ k j = v) : u2 μ k j v = μ := by
  funext a c
  rw [u2_r]
  by_cases hh : a = k ∧ c = j
  · rw [if_pos hh, hh.1, hh.2, h]
  · rw [if_neg hh]
theorem u2_2 {μ : MT} {k j : Nat} {v w : Int32} : u2 (u2 μ k j v) k j w = u2 μ k j w := by
  funext a c
  rw [u2_r, u2_r, u2_r]
  by_cases hh : a = k ∧ c = j
  · rw [if_pos hh, if_pos hh]
  · rw [if_neg hh, if_neg hh, if_neg hh]
theorem al_P {μ : MT} {b j i : Nat} (hb : isPn b) (h1 : 1 ≤ j) (h2 : j ≤ 6) (hi : i < 12) : ald Zc μ (b + j) (nI i) = some (μ (b + j) i) := by
  obtain ⟨l1, l2, l3, l4, l5, l6⟩ := zpl hb
  rcases (by omega : j = 1 ∨ j = 2 ∨ j = 3 ∨ j = 4 ∨ j = 5 ∨ j = 6) with rfl | rfl | rfl | rfl | rfl | rfl
  · exact ald_n l1 hi (by omega)
  · exact ald_n l2 hi (by omega)
  · exact ald_n l3 hi (by omega)
  · exact ald_n l4 hi (by omega)
  · exact ald_n l5 hi (by omega)
  · exact ald_n l6 hi (by omega)
theorem as_P {μ : MT} {b j i : Nat} {v : Int32} (hb : isPn b) (h1 : 1 ≤ j) (h2 : j ≤ 6) (hi : i < 12) : ast Zc μ (b + j) (nI i) v = some (u2 μ (b + j) i v) := by
  obtain ⟨l1, l2, l3, l4, l5, l6⟩ := zpl hb
  rcases (by omega : j = 1 ∨ j = 2 ∨ j = 3 ∨ j = 4 ∨ j = 5 ∨ j = 6) with rfl | rfl | rfl | rfl | rfl | rfl
  · exact ast_n l1 hi (by omega)
  · exact ast_n l2 hi (by omega)
  · exact ast_n l3 hi (by omega)
  · exact ast_n l4 hi (by omega)
  · exact ast_n l5 hi (by omega)
  · exact ast_n l6 hi (by omega)
theorem coolN_s : ∀ n h, coolN (n + 1) h = 3 * coolN n h / 4
  | 0, h => rfl
  | n + 1, h => by
    rw [coolN, coolN_s n (3 * h / 4)]
    rfl
theorem coolN_0 : ∀ n, coolN n 0 = 0
  | 0 => rfl
  | n + 1 => by
    rw [coolN_s, coolN_0 n]
theorem coolN_a (n : Nat) : ∀ m h, coolN (n + m) h = coolN n (coolN m h)
  | 0, h => rfl
  | m + 1, h => by
    show coolN (n + m) (3 * h / 4) = _
    rw [coolN_a n m]
    rfl
theorem coolN_le : ∀ n h, coolN n h ≤ h
  | 0, h => Nat.le_refl _
  | n + 1, h => by
    rw [coolN_s]
    have := coolN_le n h
    omega
theorem p_cool {μ : MT} {b nc c : Nat} {x : RS} (hb : isPn b) (h : PIs μ b nc x) (hc : nc ≤ 12) (hcc : c < nc) : m_X2_cool Zc b (nI c) μ = some (u2 (u2 μ (b + 1) c (x.1 c)) (b + 2) c x.2.2.2) := by
  obtain ⟨h7, h8, ⟨w, hw, hwl, hh⟩, h9⟩ := h
  obtain ⟨hv, t, e1, e2, e3, e4, e5⟩ := hh c hcc
  unfold m_X2_cool
  rw [zp_1 hb, zp_0 hb, al_P hb (by omega) (by omega) (by omega), ob_s, e3]
  apply ok_eq
  refine ok_l (fun m s => ∃ i, i + m = w ∧ t ≤ i ∧ s = (nI i, u2 μ (b + 1) c (nI (coolN (i - t) hv)))) (w - t) (by omega) ⟨t, by omega, Nat.le_refl _, ?_⟩ ?_
  · rw [Nat.sub_self]
    show (nI t, μ) = (nI t, u2 μ (b + 1) c (nI hv))
    rw [u2_id e1]
  · rintro m s ⟨i, hi, hti, rfl⟩
    have e8 : u2 μ (b + 1) c (nI (coolN (i - t) hv)) b 8 = nI w := by rw [u2_r, if_neg (by omega), h8, hw]
    have ev : u2 μ (b + 1) c (nI (coolN (i - t) hv)) (b + 1) c = nI (coolN (i - t) hv) := by rw [u2_r, if_pos ⟨rfl, rfl⟩]
    have hle := coolN_le (i - t) hv
    have hend : coolN (i - t) hv = coolN (w - t) hv → Ok ((ast Zc (u2 μ (b + 1) c (nI (coolN (i - t) hv))) (b + 2) (nI c) (u2 μ (b + 1) c (nI (coolN (i - t) hv)) b 8)).bind fun ν11 => some ν11) (fun a => a = u2 (u2 μ (b + 1) c (x.1 c)) (b + 2) c x.2.2.2) := fun hq => by
      rw [as_P hb (by omega) (by omega) (by omega), ob_s, e8, hw, e5, hq]
      exact ok_s rfl
    simp only [e8]
    by_cases hm : i = w
    · subst hm
      rw [if_pos (by rw [x_le (by omega) (by omega)]; omega)]
      exact ok_s (Or.inl ⟨_, rfl, hend rfl⟩)
    · rw [if_neg (by rw [x_le (by omega) (by omega)]; omega), al_P hb (by omega) (by omega) (by omega), ob_s, ev]
      by_cases hz : coolN (i - t) hv = 0
      · rw [if_pos (by rw [hz]; decide)]
        refine ok_s (Or.inl ⟨_, rfl, hend ?_⟩)
        rw [show w - t = (w - i) + (i - t) by omega, coolN_a, hz, coolN_0]
      · rw [if_neg (by rw [x_lel (by omega) (by omega)]; omega), ob_s, x_ml, x_d4, ob_s, x_ndl (by omega) (by omega) (by omega), as_P hb (by omega) (by omega) (by omega), ob_s, u2_2, n1, ob_s]
        refine ok_s (Or.inr ⟨_, m - 1, rfl, by omega, i + 1, by omega, by omega, ?_⟩)
        rw [show i + 1 - t = (i - t) + 1 by omega, coolN_s, Nat.mul_comm]
theorem p_has {μ : MT} {b nc c : Nat} (e : μ b 7 = nI nc) (hc : nc ≤ 12) (hcc : c < nc) : m_X2_has Zc b (nI c) μ = some 1 := by
  unfold m_X2_has
  rw [if_neg (by rw [x_ltl (by omega) (by omega)]; omega), e, if_neg (by rw [x_le (by omega) (by omega)]; omega)]
theorem p_holds {μ : MT} {b nc k : Nat} {N : Nat → Int32} (hb : isPn b) (e : μ b 7 = nI nc) (hN : ∀ c, c < nc → μ (b + 3) c = N (12 + c)) (hc : nc ≤ 12) (hk : k ≤ 12) : m_X2_holds Zc b (nI k) μ = some (bI (hoA nc N k = true)) := by
  unfold m_X2_holds
  rw [if_neg (by rw [x_ltl (by omega) (by omega)]; omega), e]
  by_cases h1 : k < nc
  · rw [if_neg (by rw [x_le (by omega) (by omega)]; omega), zp_2 hb, al_P hb (by omega) (by omega) (by omega), ob_s, hN k h1]
    unfold hoA bI
    simp only [le0]
    by_cases h2 : 0 < N (12 + k)
    · simp [h1, h2]
    · simp [h1, h2]
  · rw [if_pos (by rw [x_le (by omega) (by omega)]; omega)]
    unfold hoA bI
    simp [h1]
theorem p_holdm {μ : MT} {b nc c : Nat} {N : Nat → Int32} (hb : isPn b) (e : μ b 7 = nI nc) (hN : ∀ c, c < nc → μ (b + 3) c = N (12 + c)) (hc : nc ≤ 12) (hk : c < 12) : m_X2_holds Zc b (nI c - 1) μ = some (bI (1 ≤ c ∧ hoA nc N (c - 1) = true)) := by
  by_cases h0 : c = 0
  · subst h0
    unfold m_X2_holds
    rw [if_pos (by decide), bI_f (by omega)]
  · rw [x_sl (by omega), p_holds hb e hN hc (by omega)]
    unfold bI
    by_cases h2 : hoA nc N (c - 1) = true
    · rw [if_pos h2, if_pos ⟨by omega, h2⟩]
    · rw [if_neg h2, if_neg (fun hh => h2 hh.2)]
theorem p_shr {μ : MT} {b nc kd c : Nat} {p : Int32} {N : Nat → Int32} (hb : isPn b) (e : μ b 7 = nI nc) (hN : ∀ c, c < nc → μ (b + 3) c = N (12 + c)) (hB : ∀ c, c < nc → μ (b + 4) c = N (24 + c)) (hc : nc ≤ 12) (hcc : c < nc) (hk2 : kd ≤ 6) : m_X2_shrinkageOf Zc b (nI kd) (nI c) p μ = some (shA nc N (kd + 1) c p) := by
  unfold m_X2_shrinkageOf
  rw [n1, p_holds hb e hN hc (by omega), p_holdm hb e hN hc (by omega), p_holds hb e hN hc (by omega), zp_3 hb, al_P hb (by omega) (by omega) (by omega), hB c hcc]
  simp (disch := omega) only [x_eql, bI_0, ob_s, x_d2]
  unfold shA
  simp only [le0]
  have hz : (if ¬ hoA nc N (c + 1) = true then some p else some (p - 1)) = some (p - (if hoA nc N (c + 1) = true then 1 else 0)) := by
    by_cases h1 : hoA nc N (c + 1) = true
    · simp [h1]
    · simp [h1]
  rw [hz, ob_s]
  rcases (by omega : kd = 0 ∨ kd = 1 ∨ kd = 2 ∨ kd = 3 ∨ kd = 4 ∨ kd = 5 ∨ kd = 6) with rfl | rfl | rfl | rfl | rfl | rfl | rfl
  · simp
  · simp
  · simp
  · simp only [if_false, if_true, Nat.reduceEqDiff, Nat.reduceAdd]
    by_cases h1 : 1 ≤ c ∧ hoA nc N (c - 1) = true
    · simp [h1, jn]
    · by_cases h2 : hoA nc N (c + 1) = true
      · simp [h1, h2, jn]
      · simp [h1, h2, jn]
  · simp only [if_false, if_true, Nat.reduceEqDiff, Nat.reduceAdd]
    by_cases h1 : hoA nc N c = true
    · simp [h1]
    · simp [h1]
  · simp
  · simp only [if_false, if_true, Nat.reduceEqDiff, Nat.reduceAdd]
    by_cases h1 : 0 < N (24 + c)
    · simp [h1]
    · simp [h1]
theorem p_eff {μ : MT} {b nc kd c g : Nat} {p : Int32} {N : Nat → Int32} (hb : isPn b) (hN : μ (b + 3) c = N (12 + c)) (hH : μ (b + 1) c = N c) (hg : N (12 + c) = nI g) (hg2 : g < 100000) (hc : c < 12) : m_X2_effectOf Zc b (shA nc N kd c p) (nI c) μ = some (efA nc N kd c p) := by
  unfold m_X2_effectOf
  have hz : ¬ (8 + nI g : Int32) = 0 := by
    rw [x_la, x_eql (by omega) (by omega)]; omega
  have hz2 : ¬ (8 + nI g : Int32) ≤ 0 := by
    rw [x_la, x_lel (by omega) (by omega)]; omega
  rw [zp_2 hb, zp_0 hb, al_P hb (by omega) (by omega) (by omega), al_P hb (by omega) (by omega) (by omega), ob_s, ob_s, hN, hg, if_neg hz2, x_dv hz, ob_s, ob_s, ob_s, hH, x_d2, ob_s]
  unfold efA
  rw [hg]
  by_cases h100 : N c < 100
  · rw [if_pos h100, if_neg (by rw [fa_le]; rw [fa_lt] at h100; omega)]
  · rw [if_neg h100, if_pos (by rw [fa_le]; rw [fa_lt] at h100; omega)]
theorem p_clm {μ : MT} {b c : Nat} (hc : c < 12) : m_X2_isClamped Zc b (nI c) μ = some (bI (bt (μ b 6) c = true)) := by
  unfold m_X2_isClamped bI
  simp only [(bitC (μ b 6) (c := c) (by omega)).1]
  by_cases h : bt (μ b 6) c = true
  · rw [if_pos h, if_pos h]
  · rw [if_neg h, if_neg h]
theorem p_hos {kd : Nat} {q : Int32} {μ : MT} (hk : kd ≤ 6) : m_X2_heatOfStep Zc (nI kd) q μ = some (heA (kd + 1) q) ∧ m_X2_holdOfStep Zc (nI kd) μ = some (hdA (kd + 1)) := by
  unfold m_X2_heatOfStep m_X2_holdOfStep heA hdA
  simp (disch := omega) only [x_eql]
  rcases (by omega : kd = 0 ∨ kd = 1 ∨ kd = 2 ∨ kd = 3 ∨ kd = 4 ∨ kd = 5 ∨ kd = 6) with rfl | rfl | rfl | rfl | rfl | rfl | rfl <;> simp
theorem hea_n {kd q : Nat} (h2 : q ≤ 20) : ∃ e : Nat, heA kd (nI q) = nI e ∧ e ≤ 120 := by
  unfold heA
  split
  · exact ⟨q, rfl, by omega⟩
  split
  · exact ⟨6 * q, x_lm, by omega⟩
  · exact ⟨4 * q, x_lm, by omega⟩
end
section
theorem p_doStep {μ : MT} {b nc kd c q m : Nat} {x : RS} (hb : isPn b) (h : PIs μ b nc x) (hbd : Bd nc m x) (hm : m < 1000) (hc : nc ≤ 12) (hcc : c < nc) (hk : kd ≤ 6) (h1 : 1 ≤ q) (h2 : q ≤ 20) : Ok (m_X2_doStep Zc b (nI kd) (nI c) (nI q) μ) (fun ν => PIs ν b nc (stA nc (kd + 1) c (nI q) x) ∧ FrP b μ ν) := by
  have hcool := p_cool hb h hc hcc
  obtain ⟨h7, h8, ⟨w, hw, hwl, hh⟩, h9⟩ := h
  obtain ⟨⟨w', hw', hwb⟩, hbc⟩ := hbd
  have hww : w ≤ 30 * m := by
    rw [hw'] at hw
    by_cases hwx : w' = w
    · omega
    · exact absurd ((nI_inj (by omega) (by omega)).mp hw) hwx
  obtain ⟨⟨hv, bv1, bv2⟩, ⟨g, bg1, bg2⟩, bb, bcl⟩ := hbc c hcc
  unfold m_X2_doStep
  rw [p_has h7 hc hcc, ob_s, if_neg (by decide), hcool, ob_s]
  have r0 : u2 (u2 μ (b + 1) c (x.1 c)) (b + 2) c x.2.2.2 b = μ b := by simp [u2_w]
  have r1 : ∀ j, u2 (u2 μ (b + 1) c (x.1 c)) (b + 2) c x.2.2.2 (b + 1) j = if j = c then x.1 c else μ (b + 1) j := fun j => by simp [u2_r]
  have r2 : ∀ j, u2 (u2 μ (b + 1) c (x.1 c)) (b + 2) c x.2.2.2 (b + 2) j = if j = c then x.2.2.2 else μ (b + 2) j := fun j => by simp [u2_r]
  have r3 : u2 (u2 μ (b + 1) c (x.1 c)) (b + 2) c x.2.2.2 (b + 3) = μ (b + 3) := by simp [u2_w]
  have r4 : u2 (u2 μ (b + 1) c (x.1 c)) (b + 2) c x.2.2.2 (b + 4) = μ (b + 4) := by simp [u2_w]
  have r5 : u2 (u2 μ (b + 1) c (x.1 c)) (b + 2) c x.2.2.2 (b + 5) = μ (b + 5) := by simp [u2_w]
  have r6 : u2 (u2 μ (b + 1) c (x.1 c)) (b + 2) c x.2.2.2 (b + 6) = μ (b + 6) := by simp [u2_w]
  have rf : FrP b μ (u2 (u2 μ (b + 1) c (x.1 c)) (b + 2) c x.2.2.2) := ((FrP.refl b μ).w (by omega)).w (by omega)
  generalize u2 (u2 μ (b + 1) c (x.1 c)) (b + 2) c x.2.2.2 = ν2 at r0 r1 r2 r3 r4 r5 r6 rf ⊢
  have g3 : ∀ c, c < nc → ν2 (b + 3) c = x.1 (12 + c) := fun c hc => by rw [r3]; exact (h9 c hc).1
  have g4 : ∀ c, c < nc → ν2 (b + 4) c = x.1 (24 + c) := fun c hc => by rw [r4]; exact (h9 c hc).2.1
  rw [p_shr hb (by rw [r0]; exact h7) g3 g4 hc hcc hk, ob_s, p_eff hb (g3 c hcc) (by rw [r1, if_pos rfl]) bg1 (by omega) (by omega), ob_s, p_clm (by omega), ob_s, r0]
  generalize hee : efA nc x.1 (kd + 1) c (nI q) = ef
  have hcb := (h9 c hcc).2.2.2.2
  have hm3 : Ok (if bI (bt (μ b 6) c = true) = 0 then (ald Zc ν2 (zr Zc b 3) (nI c)).bind fun x23 => (ast Zc ν2 (zr Zc b 3) (nI c) (x23 + ef)).bind fun ν24 => some ν24 else (ald Zc ν2 (zr Zc b 4) (nI c)).bind fun x26 => (ast Zc ν2 (zr Zc b 4) (nI c) (x26 + ef)).bind fun ν27 => some ν27)
      (fun ν => ν b = μ b ∧ ν (b + 1) = ν2 (b + 1) ∧ ν (b + 2) = ν2 (b + 2) ∧ ν (b + 3) = μ (b + 3) ∧ ν (b + 6) = μ (b + 6) ∧ (∀ j, ν (b + 4) j = if j = c ∧ x.2.2.1 c = 0 then μ (b + 4) j + ef else μ (b + 4) j) ∧ (∀ j, ν (b + 5) j = if j = c ∧ ¬ x.2.2.1 c = 0 then μ (b + 5) j + ef else μ (b + 5) j) ∧ FrP b μ ν) := by
    by_cases h0 : x.2.2.1 c = 0
    · have hbt : ¬ bt (μ b 6) c = true := fun hq => by
        have := hcb.1.mp hq
        rw [h0] at this
        exact absurd this (by decide)
      rw [bI_f hbt, if_pos rfl, zp_3 hb, al_P hb (by omega) (by omega) (by omega), ob_s, as_P hb (by omega) (by omega) (by omega), ob_s]
      refine ok_s ⟨?_, ?_, ?_, ?_, ?_, ?_, ?_, rf.w (by omega)⟩
      · simp [u2_w, r0]
      · simp [u2_w]
      · simp [u2_w]
      · simp [u2_w, r3]
      · simp [u2_w, r6]
      · intro j
        rw [u2_r, r4]
        by_cases hj : j = c
        · subst hj; simp [h0]
        · simp [hj]
      · intro j
        rw [u2_r, r5]
        simp [h0]
    · have hbt : bt (μ b 6) c = true := hcb.1.mpr (hcb.2.resolve_left h0)
      rw [bI_t hbt, if_neg (by decide), zp_4 hb, al_P hb (by omega) (by omega) (by omega), ob_s, as_P hb (by omega) (by omega) (by omega), ob_s]
      refine ok_s ⟨?_, ?_, ?_, ?_, ?_, ?_, ?_, rf.w (by omega)⟩
      · simp [u2_w, r0]
      · simp [u2_w]
      · simp [u2_w]
      · simp [u2_w, r3]
      · simp [u2_w, r6]
      · intro j
        rw [u2_r, r4]
        simp [h0]
      · intro j
        rw [u2_r, r5]
        by_cases hj : j = c
        · subst hj; simp [h0]
        · simp [hj]
  refine ok_b hm3 ?_
  rintro ν3 ⟨s0, s1, s2, s3, s6, s4, s5, sf⟩
  rw [zp_5 hb, zp_0 hb, zp_2 hb, al_P hb (by omega) (by omega) (by omega), ob_s, as_P hb (by omega) (by omega) (by omega), ob_s, ob_s, al_P hb (by omega) (by omega) (by omega), ob_s, (p_hos (q := nI q) hk).1, ob_s, as_P hb (by omega) (by omega) (by omega), ob_s, al_P hb (by omega) (by omega) (by omega), ob_s, (p_hos (q := nI q) hk).2, ob_s, as_P hb (by omega) (by omega) (by omega), ob_s, ob_s]
  refine ok_s ⟨?_, (((((sf.w (by omega)).w (by omega)).w (by omega)).w (by omega)).w (by omega))⟩
  have t1 : ∀ j, ν3 (b + 1) j = if j = c then x.1 c else μ (b + 1) j := fun j => by rw [s1]; exact r1 j
  have t2 : ∀ j, ν3 (b + 2) j = if j = c then x.2.2.2 else μ (b + 2) j := fun j => by rw [s2]; exact r2 j
  obtain ⟨e, he1, he2⟩ := hea_n (kd := kd + 1) h2
  refine ⟨?_, ?_, ⟨w + 1, ?_, by omega, ?_⟩, ?_⟩
  · simp [u2_r, s0, h7]
  · simp [u2_r, s0, h8, stA, minA]
  · simp only [stA, minA]
    rw [hw, x_al]
  · intro c' hc'
    by_cases hcc' : c' = c
    · subst hcc'
      refine ⟨hv + e, w, ?_, by omega, ?_, by omega, ?_⟩
      · simp [u2_r, t1, bv1, he1, x_a]
      · simp [u2_r, t2, hw]
      · simp only [stA, minA]
        rw [if_pos hc', if_pos trivial, bv1, he1, x_a, (cool_n (by omega)).1, show w + 1 - w = 1 by omega]
        rfl
    · obtain ⟨h', t', a1, a2, a3, a4, a5⟩ := hh c' hc'
      refine ⟨h', t', ?_, a2, ?_, by omega, ?_⟩
      · simp [u2_r, t1, hcc', a1]
      · simp [u2_r, t2, hcc', a3]
      · have := coolN_le (w - t') h'
        simp only [stA, minA]
        rw [if_pos hc', if_neg hcc', if_neg (by omega), if_neg (by omega), if_neg (by omega), a5, (cool_n (by omega)).1, show w + 1 - t' = (w - t') + 1 by omega, coolN_s]
  · intro c' hc'
    obtain ⟨a1, a2, a3, a4, a5, a6⟩ := h9 c' hc'
    refine ⟨?_, ?_, ?_, ?_, ?_, a6⟩
    · by_cases hcc' : c' = c
      · subst hcc'
        simp only [stA, minA]
        rw [if_neg (by omega), if_neg (by omega), if_pos trivial]
        simp [u2_r, s3, a1]
      · simp only [stA, minA]
        rw [if_neg (by omega), if_neg (by omega), if_neg (by omega), if_neg (by omega), if_neg (by omega)]
        simp [u2_r, s3, a1, hcc']
    · have hb1 : (stA nc (kd + 1) c (nI q) x).1 (24 + c') = if c' = c ∧ x.2.2.1 c = 0 then x.1 (24 + c') + ef else x.1 (24 + c') := by
        simp only [stA, minA, hee]
        by_cases hcc' : c' = c
        · subst hcc'
          rw [if_neg (by omega), if_neg (by omega), if_neg (by omega), if_pos rfl]
          simp
        · rw [if_neg (by omega), if_neg (by omega), if_neg (by omega), if_neg (by omega), if_neg (by omega)]
          simp [hcc']
      rw [hb1]
      simp [u2_r, s4, a2]
    · have hb1 : (stA nc (kd + 1) c (nI q) x).2.1 c' = if c' = c ∧ ¬ x.2.2.1 c = 0 then x.2.1 c' + ef else x.2.1 c' := by
        simp only [stA, minA, hee]
        by_cases h0 : x.2.2.1 c = 0
        · simp [h0]
        · by_cases hcc' : c' = c
          · subst hcc'
            simp [h0, upd]
          · simp [h0, upd, hcc']
      rw [hb1]
      simp [u2_r, s5, a3]
    · by_cases hcc' : c' = c
      · subst hcc'
        simp only [stA, minA, hee]
        rw [if_neg (by omega), if_neg (by omega), if_neg (by omega), if_neg (by omega), if_pos (by omega), if_pos trivial, a4]
        simp [u2_r, s6, s0]
        grind
      · simp only [stA, minA, hee]
        rw [if_neg (by omega), if_neg (by omega), if_neg (by omega), if_neg (by omega), if_pos (by omega), if_neg (by omega), a4]
        simp [u2_r, s6, s0, hcc']
        grind
    · simp only [stA, minA]
      simp [u2_r, s0]
      exact a5
theorem u2_3 {μ : MT} {b c : Nat} {V A B : Int32} : u2 (u2 (u2 μ b 6 V) (b + 4) c A) (b + 5) c B b 6 = V := by simp [u2_r]
theorem p_free {μ : MT} {b nc c : Nat} {x : RS} (hb : isPn b) (h : PIs μ b nc x) (hc : nc ≤ 12) (hcc : c < nc) : Ok (m_X2_freeOne Zc b (nI c) μ) (fun ν => PIs ν b nc (frA c x) ∧ FrP b μ ν) := by
  obtain ⟨h7, h8, hh, h9⟩ := id h
  have hcb := (h9 c hcc).2.2.2.2
  unfold m_X2_freeOne frA
  rw [p_has h7 hc hcc, ob_s, if_neg (by decide), p_clm (by omega), ob_s]
  by_cases h0 : x.2.2.1 c = 0
  · have hbt : ¬ bt (μ b 6) c = true := fun hq => by
      have := hcb.1.mp hq
      rw [h0] at this
      exact absurd this (by decide)
    rw [bI_f hbt, if_pos rfl, if_pos h0]
    exact ok_s ⟨h, FrP.refl b μ⟩
  · have hbt : bt (μ b 6) c = true := hcb.1.mpr (hcb.2.resolve_left h0)
    rw [bI_t hbt, if_neg (by decide), if_neg h0, ob_s, zp_3 hb, zp_4 hb, al_P hb (by omega) (by omega) (by omega), ob_s, al_P hb (by omega) (by omega) (by omega), ob_s, x_d2, ob_s, as_P hb (by omega) (by omega) (by omega), ob_s, as_P hb (by omega) (by omega) (by omega), ob_s]
    refine ok_s ⟨⟨?_, ?_, ?_, ?_⟩, (((FrP.refl b μ).w (by omega)).w (by omega)).w (by omega)⟩
    · simp [u2_r, h7]
    · simp [u2_r, h8]
    · obtain ⟨w, hw, hwl, hh⟩ := hh
      refine ⟨w, hw, hwl, fun c' hc' => ?_⟩
      obtain ⟨h', t', a1, a2, a3, a4, a5⟩ := hh c' hc'
      refine ⟨h', t', ?_, a2, ?_, a4, ?_⟩
      · simp [u2_r, a1]
      · simp [u2_r, a3]
      · simp only [upd]
        rw [if_neg (by omega)]
        exact a5
    · intro c' hc'
      obtain ⟨a1, a2, a3, a4, a5, a6⟩ := h9 c' hc'
      by_cases hcc' : c' = c
      · subst hcc'
        refine ⟨?_, ?_, ?_, ?_, ?_, ?_⟩
        · simp only [upd]
          rw [if_neg (by omega)]
          simp [u2_r, a1]
        · simp [u2_r, upd, a2, a3]
        · simp [u2_r, upd]
        · simp only [upd]
          rw [if_neg (by omega)]
          simp [u2_r, a4]
        · have := b_clr (μ b 6) (c := c') (i := c') (by omega) (by omega)
          rw [u2_3, this]
          simp [upd]
        · simp [upd]
      · refine ⟨?_, ?_, ?_, ?_, ?_, ?_⟩
        · simp only [upd]
          rw [if_neg (by omega)]
          simp [u2_r, a1]
        · simp only [upd]
          rw [if_neg (by omega)]
          simp [u2_r, a2, hcc']
        · simp [u2_r, upd, a3, hcc']
        · simp only [upd]
          rw [if_neg (by omega)]
          simp [u2_r, a4]
        · have := b_clr (μ b 6) (c := c) (i := c') (by omega) (by omega)
          rw [u2_3, this]
          simp [upd, hcc', a5]
        · simp [upd, hcc', a6]
theorem p_freeAll {μ : MT} {b nc : Nat} {x : RS} (hb : isPn b) (h : PIs μ b nc x) (hc : nc ≤ 12) : Ok (m_X2_freeAll Zc b μ) (fun ν => PIs ν b nc (frsA nc x) ∧ FrP b μ ν) := by
  unfold m_X2_freeAll
  refine ok_for (fun i ν => FrP b μ ν ∧ PIs ν b nc ((List.range i).foldl (fun x c => frA c x) x)) 0 nc (by omega) (by omega) rfl ⟨FrP.refl b μ, h⟩ ?_ ?_
  · rintro i ν _ hi ⟨f, g⟩
    have e7 : ν b 7 = nI nc := g.1
    simp (disch := omega) only [e7, x_le, show ¬ nc ≤ i by omega, if_false]
    refine ok_b (p_free hb g hc hi) ?_
    rintro ν3 ⟨t1, t2⟩
    simp only [ob_s, n1]
    refine ok_s (Or.inl ⟨_, rfl, f.trans t2, ?_⟩)
    rw [List.range_succ, List.foldl_append]
    exact t1
  · rintro ν ⟨f, g⟩
    have e7 : ν b 7 = nI nc := g.1
    simp (disch := omega) only [e7, x_le, Nat.le_refl, if_true]
    exact ok_s ⟨_, rfl, ok_s ⟨g, f⟩⟩
end
section
theorem acp0 {μ : MT} {k k1 n n1 m : Nat} {v : Int32} (hk : zl Zc k = n) (hk1 : zl Zc k1 = n1) (h1 : m ≤ n) (h2 : m ≤ n1) (hm : m < 1000) (hv : v = nI m) : acp Zc μ k 0 k1 0 v = some (u1 μ k1 (fun j => if j < m then μ k j else μ k1 j)) := by
  subst hv
  have e0 : (0 : Int32).toNatClampNeg = 0 := rfl
  have hn : ¬ nI m < 0 := by rw [x_ltl (by omega) (by omega)]; omega
  unfold acp
  rw [x_cl (by omega), e0, hk, hk1, if_pos ⟨by decide, by decide, hn, by omega, by omega⟩]
  congr 2
  funext j
  unfold va_cpy
  by_cases hj : j < m
  · have h3 : 0 ≤ j ∧ j < 0 + m := by omega
    rw [if_pos h3, if_pos hj, show 0 + (j - 0) = j by omega]
  · have h3 : ¬ (0 ≤ j ∧ j < 0 + m) := by omega
    rw [if_neg h3, if_neg hj]
theorem p_begin {μ : MT} {b k nc : Nat} (hb : isPn b) (hk : zl Zc k = 12) (hk2 : k < b ∨ b + 6 < k) (hc : nc ≤ 12) : Ok (m_X2_begin Zc b (nI nc) k μ) (fun ν => PIs ν b nc (bgA (μ k)) ∧ FrP b μ ν) := by
  obtain ⟨l1, l2, l3, l4, l5, l6⟩ := zpl hb
  have hmin : imin (nI nc) 12 = nI nc := by
    unfold imin
    rw [if_neg (by rw [x_llt (by omega) (by omega)]; omega)]
  unfold m_X2_begin
  rw [hmin, zp_0 hb, zp_1 hb, zp_2 hb, zp_3 hb, zp_4 hb, zp_5 hb]
  simp only [ob_s]
  rw [q_fill l1 (by omega), ob_s, q_fill l2 (by omega), ob_s, q_fill l3 (by omega), ob_s, q_fill l5 (by omega), ob_s, q_fill l6 (by omega), ob_s, acp0 (m := 12) (v := 12) hk l4 (by omega) (by omega) (by omega) rfl, ob_s]
  have hkb : ¬ k = b := by omega
  have hk1 : ¬ k = b + 1 := by omega
  have hk3 : ¬ k = b + 2 := by omega
  have hk4 : ¬ k = b + 3 := by omega
  have hk5 : ¬ k = b + 5 := by omega
  have hk6 : ¬ k = b + 6 := by omega
  refine ok_s ⟨⟨?_, ?_, ⟨0, rfl, by omega, ?_⟩, ?_⟩, ?_⟩
  · simp [u1_r, u2_r]
  · simp [u1_r, u2_r, bgA]
  · intro c hcc
    have hcl : c < 12 := by omega
    refine ⟨0, 0, ?_, by omega, ?_, by omega, ?_⟩
    · simp [u1_r, u2_r, hcl]; rfl
    · simp [u1_r, u2_r, hcl]; rfl
    · simp only [bgA]
      rw [if_neg (by omega)]
      rfl
  · intro c hcc
    have hcl : c < 12 := by omega
    refine ⟨?_, ?_, ?_, ?_, ?_, Or.inl rfl⟩
    · simp only [bgA]
      rw [if_neg (by omega)]
      simp [u1_r, u2_r, hcl]
    · simp only [bgA]
      rw [if_pos (by omega), show 24 + c - 24 = c by omega]
      simp [u1_r, u2_r, hcl, hkb, hk1, hk3, hk4, hk5, hk6]
    · simp [u1_r, u2_r, hcl, bgA]
    · simp only [bgA]
      rw [if_neg (by omega)]
      simp [u1_r, u2_r, hcl]
    · simp [u1_r, u2_r, bgA, b_0]
  · exact ((((((((((FrP.refl b μ).w (by omega)).w (by omega)).w (by omega)).w (by omega)).w1 (by omega)).w1 (by omega)).w1 (by omega)).w1 (by omega)).w1 (by omega)).w1 (by omega)
theorem p_height {μ : MT} {b nc i : Nat} {N : Nat → Int32} (hb : isPn b) (e : μ b 7 = nI nc) (hB : ∀ c, c < nc → μ (b + 4) c = N (24 + c)) (hc : nc ≤ 12) (hi : i ≤ nc) : m_X2_heightAt Zc b (nI i) μ = some (hgA N i).2 := by
  unfold m_X2_heightAt
  apply ok_eq
  refine ok_l (fun m q => ∃ c, c + m = i ∧ q = ((hgA N c).1, (hgA N c).2, nI c)) i (by omega) ⟨0, by omega, rfl⟩ ?_
  rintro m q ⟨c, hc', rfl⟩
  by_cases hm : m = 0
  · subst hm
    have : c = i := by omega
    subst this
    simp (disch := omega) only [x_le, Nat.le_refl, if_true]
    exact ok_s (Or.inl ⟨_, rfl, ok_s rfl⟩)
  · simp (disch := omega) only [e, x_le, show ¬ i ≤ c by omega, show ¬ nc ≤ c by omega, if_false, zp_3 hb]
    rw [al_P hb (by omega) (by omega) (by omega), ob_s, hB c (by omega)]
    simp only [ob_s, n1]
    refine ok_s (Or.inr ⟨_, m - 1, rfl, by omega, c + 1, by omega, ?_⟩)
    simp only [hgA]
theorem iabs_A (y : Int32) : iabs y = abA y := by
  unfold iabs abA
  by_cases h : 0 ≤ y
  · rw [if_pos h, if_neg (by rw [fa_lt]; rw [fa_le] at h; omega)]
  · rw [if_neg h, if_pos (by rw [fa_lt]; rw [fa_le] at h; omega), Int32.zero_sub]
theorem mx_1 (nc : Nat) (N : Nat → Int32) : mxA nc N 1 = 0 := by
  have h : nI nc * (hgA N 0).2 - nI 0 * (hgA N nc).2 = 0 := by
    show nI nc * 0 - nI 0 * (hgA N nc).2 = 0
    rw [nI_0, Int32.zero_mul, Int32.mul_zero]
    rfl
  rw [mxA, h]
  rfl
theorem p_off {μ : MT} {b nc : Nat} {N : Nat → Int32} (hb : isPn b) (e : μ b 7 = nI nc) (hB : ∀ c, c < nc → μ (b + 4) c = N (24 + c)) (hc : 4 ≤ nc) (hc2 : nc ≤ 12) : m_X2_off Zc b μ = some (offA nc N) := by
  unfold m_X2_off
  rw [e, p_height hb e hB hc2 (Nat.le_refl _), ob_s]
  apply ok_eq
  refine ok_l (fun m q => ∃ c, c + m = nc ∧ q = ((hgA N c).1, (hgA N c).2, mxA nc N (c + 1), nI c)) nc (by omega) ⟨0, by omega, ?_⟩ ?_
  · rw [mx_1]; rfl
  rintro m q ⟨c, hc', rfl⟩
  by_cases hm : m = 0
  · subst hm
    have : c = nc := by omega
    subst this
    simp (disch := omega) only [x_le, Nat.le_refl, if_true]
    refine ok_s (Or.inl ⟨_, rfl, ?_⟩)
    rw [if_neg (by rw [x_lel (by omega) (by omega)]; omega), x_dv (by rw [ne_eq, x_eql (by omega) (by omega)]; omega), ob_s]
    exact ok_s rfl
  · simp (disch := omega) only [x_le, show ¬ nc ≤ c by omega, if_false, zp_3 hb]
    rw [al_P hb (by omega) (by omega) (by omega), ob_s, hB c (by omega)]
    simp only [ob_s, n1, iabs_A]
    refine ok_s (Or.inr ⟨_, m - 1, rfl, by omega, c + 1, by omega, ?_⟩)
    simp only [hgA, imax, mxA]
    rfl
theorem p_pull {μ : MT} {b nc c : Nat} {x : RS} (hb : isPn b) (h : PIs μ b nc x) (hc : nc ≤ 12) (hcc : c < nc) : m_X2_pullOf Zc b (nI c) μ = some (x.1 (36 + c)) := by
  obtain ⟨h7, h8, hh, h9⟩ := h
  unfold m_X2_pullOf
  rw [p_has h7 hc hcc, ob_s, if_neg (by decide), zp_5 hb, al_P hb (by omega) (by omega) (by omega), ob_s, h7, (h9 c hcc).2.2.2.1]
/-- the first cell whose pull is above a limit -/
def fsF (N : Nat → Int32) (lim : Int32) : Nat → Nat → Int32
  | 0, _ => -1000000
  | n + 1, c => if lim < N (36 + c) then nI c else fsF N lim n (c + 1)
theorem nle {a b : Int32} : ¬ a ≤ b ↔ b < a := by rw [fa_le, fa_lt]; omega
theorem p_fst {μ : MT} {b nc : Nat} {x : RS} {lim : Int32} (hb : isPn b) (h : PIs μ b nc x) (hc : nc ≤ 12) : m_X2_firstAbove Zc b lim μ = some (fsF x.1 lim nc 0) := by
  unfold m_X2_firstAbove
  have h7 := h.1
  apply ok_eq
  refine ok_c (fun i => fsF x.1 lim (nc - i) i = fsF x.1 lim nc 0) 0 nc (by omega) (by omega) rfl rfl ?_ ?_
  · intro i _ hi hJ
    simp (disch := omega) only [h7, x_le, show ¬ nc ≤ i by omega, if_false]
    rw [p_pull hb h hc hi, ob_s]
    rw [show nc - i = (nc - (i + 1)) + 1 by omega, fsF] at hJ
    by_cases hl : x.1 (36 + i) ≤ lim
    · rw [if_pos hl, ob_s, n1]
      rw [if_neg (fun q => (nle.mpr q) hl)] at hJ
      exact ok_s (Or.inl ⟨rfl, hJ⟩)
    · rw [if_neg hl]
      rw [if_pos (nle.mp hl)] at hJ
      exact ok_s (Or.inr ⟨_, rfl, ok_s hJ⟩)
  · intro hJ
    simp (disch := omega) only [h7, x_le, Nat.le_refl, if_true]
    rw [Nat.sub_self] at hJ
    exact ok_s ⟨_, rfl, ok_s hJ⟩
theorem p_heat {μ : MT} {b nc c : Nat} {x : RS} (hb : isPn b) (h : PIs μ b nc x) (hc : nc ≤ 12) (hcc : c < nc) : Ok (m_X2_heatOf Zc b (nI c) μ) (fun r => r.1 = x.1 c ∧ PIs r.2 b nc x ∧ FrP b μ r.2) := by
  have hcool := p_cool hb h hc hcc
  obtain ⟨h7, h8, ⟨w, hw, hwl, hh⟩, h9⟩ := h
  unfold m_X2_heatOf
  rw [p_has h7 hc hcc, ob_s, if_neg (by decide), hcool, ob_s, zp_0 hb, al_P hb (by omega) (by omega) (by omega), ob_s]
  refine ok_s ⟨?_, ⟨?_, ?_, ⟨w, hw, hwl, ?_⟩, ?_⟩, ((FrP.refl b μ).w (by omega)).w (by omega)⟩
  · simp [u2_r]
  · simp [u2_r, h7]
  · simp [u2_r, h8]
  · intro c' hc'
    obtain ⟨h', t', a1, a2, a3, a4, a5⟩ := hh c' hc'
    have := coolN_le (w - t') h'
    by_cases hcc' : c' = c
    · subst hcc'
      refine ⟨coolN (w - t') h', w, ?_, by omega, ?_, by omega, ?_⟩
      · simp [u2_r, a5]
      · simp [u2_r, hw]
      · rw [Nat.sub_self]; exact a5
    · refine ⟨h', t', ?_, a2, ?_, a4, a5⟩
      · simp [u2_r, a1, hcc']
      · simp [u2_r, a3, hcc']
  · intro c' hc'
    obtain ⟨a1, a2, a3, a4, a5, a6⟩ := h9 c' hc'
    refine ⟨?_, ?_, ?_, ?_, ?_, a6⟩
    · simp [u2_r, a1]
    · simp [u2_r, a2]
    · simp [u2_r, a3]
    · simp [u2_r, a4]
    · simp [u2_r, a5]
/-! ===== seams ===== -/
theorem p_first {μ : MT} {p ns s : Nat} {E : Nat → Nat} (hp : isPl p) (e1 : μ p 1 = nI ns) (hs : s < ns) (hns : ns ≤ 6) (hE0 : E 0 = 0) (hE : ∀ s, s < ns → μ (p + 5) s = nI (E (s + 1))) : m_X3_firstAct Zc p (nI s) μ = some (nI (E s)) := by
  unfold m_X3_firstAct
  by_cases h0 : s = 0
  · subst h0
    rw [if_pos (by decide), hE0]
    rfl
  · rw [if_neg (by rw [x_lel (by omega) (by omega)]; omega), e1, if_neg (by rw [x_le (by omega) (by omega)]; omega), zq_8 hp, x_sl (by omega), al_p5 hp (by omega) (by omega) (by omega), ob_s, hE (s - 1) (by omega), show s - 1 + 1 = s by omega]
theorem p_last {μ : MT} {p ns s : Nat} {E : Nat → Nat} (hp : isPl p) (e1 : μ p 1 = nI ns) (hs : s < ns) (hns : ns ≤ 6) (hE : ∀ s, s < ns → μ (p + 5) s = nI (E (s + 1))) : m_X3_endOfActs Zc p (nI s) μ = some (nI (E (s + 1))) := by
  unfold m_X3_endOfActs
  rw [q_hasSeam e1 (by omega), ob_s, bI_t (by rw [ti_n (by omega)]; omega), if_neg (by decide), zq_8 hp, al_p5 hp (by omega) (by omega) (by omega), ob_s, hE s hs]
theorem seg_ex {E : Nat → Nat} (hE0 : E 0 = 0) : ∀ t a, a < E t → ∃ s, s < t ∧ E s ≤ a ∧ a < E (s + 1)
  | 0, a, h => by omega
  | t + 1, a, h => by
    by_cases ha : a < E t
    · obtain ⟨s, h1, h2⟩ := seg_ex hE0 t a ha
      exact ⟨s, by omega, h2⟩
    · exact ⟨t, by omega, by omega, h⟩
theorem fold_sk {α : Type} {f : α → Nat → α} {x : α} {lo : Nat} : ∀ n, (∀ a y, lo ≤ a → a < lo + n → f y a = y) → (List.range (lo + n)).foldl f x = (List.range lo).foldl f x
  | 0, _ => rfl
  | n + 1, h => by
    rw [show lo + (n + 1) = (lo + n) + 1 by omega, List.range_succ, List.foldl_append, List.foldl_cons, List.foldl_nil, h _ _ (by omega) (by omega)]
    exact fold_sk n (fun a y h1 h2 => h a y h1 (by omega))
theorem mins_h {nc c : Nat} (hc : c < nc) : ∀ (n : Nat) (x : RS) (h : Nat), x.1 c = nI h → h ≤ 480 → (minsA nc n x).1 c = nI (coolN n h)
  | 0, x, h, e, _ => e
  | n + 1, x, h, e, hl => by
    refine mins_h hc n (minA nc x) (3 * h / 4) ?_ (by omega)
    show (if c < nc then 3 * x.1 c / 4 else x.1 c) = _
    rw [if_pos hc, e, (cool_n hl).1]
theorem p_wait {μ : MT} {b nc n m : Nat} {x : RS} (hb : isPn b) (h : PIs μ b nc x) (hbd : Bd nc m x) (hm : m < 1000) (hc : nc ≤ 12) (hn : n ≤ 30) : PIs (u2 μ b 8 (μ b 8 + nI n)) b nc (minsA nc n x) := by
  obtain ⟨h7, h8, ⟨w, hw, hwl, hh⟩, h9⟩ := h
  obtain ⟨⟨w', hw', hwb⟩, hbc⟩ := hbd
  have hww : w ≤ 30 * m := by
    rw [hw'] at hw
    by_cases hwx : w' = w
    · omega
    · exact absurd ((nI_inj (by omega) (by omega)).mp hw) hwx
  obtain ⟨a1, a2, a3, a4, a5⟩ := bd_mins (nc := nc) n x (fun c' hc' => (hbc c' hc').1)
  refine ⟨?_, ?_, ⟨w + n, ?_, by omega, ?_⟩, ?_⟩
  · simp [u2_r, h7]
  · simp [u2_r, h8, a5]
  · rw [a5, hw, x_a]
  · intro c hcc
    obtain ⟨h', t', b1, b2, b3, b4, b5⟩ := hh c hcc
    have := coolN_le (w - t') h'
    refine ⟨h', t', ?_, b2, ?_, by omega, ?_⟩
    · simp [u2_r, b1]
    · simp [u2_r, b3]
    · rw [mins_h hcc n x _ b5 (by omega), show w + n - t' = n + (w - t') by omega, coolN_a]
  · intro c hcc
    obtain ⟨b1, b2, b3, b4, b5, b6⟩ := h9 c hcc
    rw [a2 _ (by omega), a2 _ (by omega), a2 _ (by omega), a3, a4]
    refine ⟨?_, ?_, ?_, ?_, ?_, b6⟩
    · simp [u2_r, b1]
    · simp [u2_r, b2]
    · simp [u2_r, b3]
    · simp [u2_r, b4]
    · simp [u2_r, b5]
theorem p_clamp {μ : MT} {b nc c : Nat} {x : RS} (h : PIs μ b nc x) (hc : nc ≤ 12) (hcc : c < nc) : PIs (u2 μ b 6 (μ b 6 ||| (1 <<< (nI c &&& 31)))) b nc (x.1, x.2.1, upd x.2.2.1 c 1, x.2.2.2) := by
  obtain ⟨h7, h8, hh, h9⟩ := h
  refine ⟨?_, ?_, ?_, ?_⟩
  · simp [u2_r, h7]
  · simp [u2_r, h8]
  · obtain ⟨w, hw, hwl, hh⟩ := hh
    refine ⟨w, hw, hwl, fun c' hc' => ?_⟩
    obtain ⟨h', t', b1, b2, b3, b4, b5⟩ := hh c' hc'
    refine ⟨h', t', ?_, b2, ?_, b4, b5⟩
    · simp [u2_r, b1]
    · simp [u2_r, b3]
  · intro c' hc'
    obtain ⟨b1, b2, b3, b4, b5, b6⟩ := h9 c' hc'
    refine ⟨?_, ?_, ?_, ?_, ?_, ?_⟩
    · simp [u2_r, b1]
    · simp [u2_r, b2]
    · simp [u2_r, b3]
    · simp [u2_r, b4]
    · have := b_set (μ b 6) (c := c) (i := c') (by omega) (by omega)
      rw [show u2 μ b 6 (μ b 6 ||| (1 <<< (nI c &&& 31))) b 6 = μ b 6 ||| (1 <<< (nI c &&& 31)) by simp [u2_r], this]
      by_cases hcc' : c' = c
      · simp [hcc', upd]
      · simp [hcc', upd, b5]
    · by_cases hcc' : c' = c
      · simp [hcc', upd]
      · simp [hcc', upd, b6]
theorem pl_act {nc ns na nb : Nat} {r kd pc st sm se nd A AH BH : Nat → Int32} (h : IPl nc ns na nb r kd pc st sm se nd A AH BH) : ∀ a, a < na → ActOK nc A a := fun a ha => by
  obtain ⟨k, c, s, q, hk, hs, e1, e2, e3, e4, e5, e6, e7, e8, e9, e10⟩ := h.2.2.1 a ha
  exact ⟨k, c, q, hk, e2, e4, e7, e8, fun h7 => ⟨(e9 h7).1, (e9 h7).2.1, (e9 h7).2.2.2⟩⟩
abbrev PlIs (μ : MT) (p nc ns na nb : Nat) : Prop := IPl nc ns na nb (μ p) (μ (p + 1)) (μ (p + 2)) (μ (p + 3)) (μ (p + 4)) (μ (p + 5)) (μ (p + 6)) (μ 110) (μ 111) (μ 112)
theorem p_doSeam {μ : MT} {b p nc ns na nb s m : Nat} {x : RS} (hb : isPn b) (hp : isPl p) (hpl : PlIs μ p nc ns na nb) (hs : s < ns) (h : PIs μ b nc x) (hbd : Bd nc m x) (hm : m + na < 1000) : Ok (m_X2_doSeam Zc b p (nI s) μ) (fun ν => PIs ν b nc (seA nc na (μ 110) (nI s) x) ∧ FrP b μ ν) := by
  obtain ⟨hnc, hns, hna, hnb⟩ := pl_bd hpl
  have hbl := isPn_le hb
  have hpl2 := isPl_le hp
  have hact := pl_act hpl
  obtain ⟨⟨e0, e1, e2, e3⟩, -, hac, ⟨E, hE0, hEn, hE, hin⟩, -, -⟩ := hpl
  have hEs := (hE s hs).1
  have hEs2 := (hE s hs).2.1
  have nx : ∀ t, t < ns → t ≠ s → nI t ≠ nI s := fun t ht hts hq => hts ((nI_inj (by omega) (by omega)).mp hq)
  have hlo : ∀ a, a < E s → μ 110 (4 * a + 3) ≠ nI s := fun a ha => by
    obtain ⟨t, h1, h2, h3⟩ := seg_ex hE0 s a ha
    rw [hin a t (by omega) h2 h3]
    exact nx t (by omega) (by omega)
  have hhi : ∀ a, E (s + 1) ≤ a → a < na → μ 110 (4 * a + 3) ≠ nI s := fun a ha ha2 => by
    obtain ⟨t, h1, h2, h3⟩ := seg_ex hE0 ns a (by omega)
    rw [hin a t h1 h2 h3]
    refine nx t h1 (fun hq => ?_)
    rw [hq] at h3
    omega
  unfold m_X2_doSeam
  rw [p_first hp e1 hs hns hE0 (fun s hs => (hE s hs).2.2), ob_s]
  refine ok_for (fun i ν => FrP b μ ν ∧ PIs ν b nc ((List.range i).foldl (fun x a => if μ 110 (4 * a + 3) = nI s then acA nc (μ 110) a x else x) x)) (E s) (E (s + 1)) hEs (by omega) rfl ⟨FrP.refl b μ, ?_⟩ ?_ ?_
  · have := fold_sk (f := fun x a => if μ 110 (4 * a + 3) = nI s then acA nc (μ 110) a x else x) (x := x) (lo := 0) (E s) (fun a y _ ha => if_neg (hlo a (by omega)))
    rw [Nat.zero_add] at this
    rw [this]
    exact h
  · rintro i ν hi1 hi2 ⟨f, g⟩
    have fp : ∀ j, j ≤ 6 → ν (p + j) = μ (p + j) := fun j hj => f _ (by omega)
    have fp0 : ν p = μ p := f _ (by omega)
    have hbi := bd_se (s := nI s) hnc hact i m x (by omega) hbd (by omega)
    generalize hy : (List.range i).foldl (fun x a => if μ 110 (4 * a + 3) = nI s then acA nc (μ 110) a x else x) x = y at g hbi
    obtain ⟨k, c, s', q, hk, hs', c1, c2, c3, c4, c5, c6, c7, c8, c9, c10⟩ := hac i (by omega)
    have hsi := hin i s hs hi1 hi2
    have hcl : c < 2147483648 := by by_cases k = 7 <;> omega
    have main : Ok (if (nI k : Int32) = 7 then (some (u2 ν b 8 ((ν b 8) + nI c))).bind fun ν19 => some ν19 else if (nI k : Int32) = 8 then (some (u2 ν b 6 ((ν b 6) ||| (1 <<< (nI c &&& 31))))).bind fun ν21 => some ν21 else if (nI k : Int32) = 9 then (m_X2_freeOne Zc b (nI c) ν).bind fun ν23 => some ν23 else (some (nI k)).bind fun x25 => (some (μ (p + 3) i)).bind fun x27 => (m_X2_doStep Zc b x25 (nI c) x27 ν).bind fun ν28 => some ν28) (fun ν' => PIs ν' b nc (acA nc (μ 110) i y) ∧ FrP b ν ν') := by
      unfold acA
      rw [c2, c4, x_cl hcl, x_cl (by omega)]
      simp (disch := omega) only [x_eql]
      by_cases k7 : k = 7
      · subst k7
        have := c7 rfl
        rw [if_pos rfl, if_pos rfl]
        exact ok_s ⟨p_wait hb g hbi (by omega) hnc (by omega), (FrP.refl b ν).w (by omega)⟩
      · have hcn := c8 k7
        rw [if_neg k7, if_neg (show ¬ k + 1 = 8 by omega)]
        by_cases k8 : k = 8
        · subst k8
          rw [if_pos rfl, if_pos rfl]
          exact ok_s ⟨p_clamp g hnc hcn, (FrP.refl b ν).w (by omega)⟩
        · rw [if_neg k8, if_neg (show ¬ k + 1 = 9 by omega)]
          by_cases k9 : k = 9
          · subst k9
            rw [if_pos rfl, if_pos rfl]
            exact ok_b (p_free hb g hnc hcn) (fun ν' hν => ok_s hν)
          · rw [if_neg k9, if_neg (show ¬ k + 1 = 10 by omega)]
            obtain ⟨q1, q2, q3, q4⟩ := c9 (by omega)
            rw [q3, q4, ob_s, ob_s]
            exact ok_b (p_doStep hb g hbi (by omega) hnc hcn (by omega) q1 q2) (fun ν' hν => ok_s hν)
    simp only []
    rw [p_last hp (by rw [fp0]; exact e1) hs hns (fun s hs => by rw [fp 5 (by omega)]; exact (hE s hs).2.2), ob_s, if_neg (by rw [x_le (by omega) (by omega)]; omega), zq_4 hp, zq_5 hp, zq_6 hp, al_p hp (by omega) (by omega) (by omega), al_p hp (by omega) (by omega) (by omega), al_p hp (by omega) (by omega) (by omega), fp 1 (by omega), fp 2 (by omega), fp 3 (by omega), c1, c3, ob_s, ob_s]
    refine ok_b main ?_
    rintro ν' ⟨t1, t2⟩
    simp only [ob_s, n1]
    refine ok_s (Or.inl ⟨_, rfl, f.trans t2, ?_⟩)
    rw [List.range_succ, List.foldl_append, List.foldl_cons, List.foldl_nil, hy, if_pos hsi]
    exact t1
  · rintro ν ⟨f, g⟩
    have fp : ∀ j, j ≤ 6 → ν (p + j) = μ (p + j) := fun j hj => f _ (by omega)
    have fp0 : ν p = μ p := f _ (by omega)
    simp only []
    rw [p_last hp (by rw [fp0]; exact e1) hs hns (fun s hs => by rw [fp 5 (by omega)]; exact (hE s hs).2.2), ob_s, if_pos (by rw [x_le (by omega) (by omega)]; omega)]
    refine ok_s ⟨_, rfl, ok_s ⟨?_, f⟩⟩
    unfold seA
    have := fold_sk (f := fun x a => if μ 110 (4 * a + 3) = nI s then acA nc (μ 110) a x else x) (x := x) (lo := E (s + 1)) (na - E (s + 1)) (fun a y h1 h2 => if_neg (hhi a h1 (by omega)))
    rw [show E (s + 1) + (na - E (s + 1)) = na by omega] at this
    rw [this]
    exact g
theorem pl_fr {μ ν : MT} {b p nc ns na nb : Nat} (hb : isPn b) (hp : isPl p) (f : FrP b μ ν) (h : PlIs μ p nc ns na nb) : PlIs ν p nc ns na nb := by
  have hbl := isPn_le hb
  have hpl2 := isPl_le hp
  unfold PlIs
  rw [f p (by omega), f (p + 1) (by omega), f (p + 2) (by omega), f (p + 3) (by omega), f (p + 4) (by omega), f (p + 5) (by omega), f (p + 6) (by omega), f 110 (by omega), f 111 (by omega), f 112 (by omega)]
  exact h
theorem p_go {μ : MT} {b p k o nc ns na nb : Nat} {wo : Int32} (hb : isPn b) (hp : isPl p) (hpl : PlIs μ p nc ns na nb) (hk : zl Zc k = 12) (hk2 : k < b ∨ b + 6 < k) (ho : zl Zc o = 6) (ho2 : o < b ∨ b + 6 < o) (hO : ∀ j, j < ns → ∃ s, s < ns ∧ μ o j = nI s) (hB : ∀ c, c < 12 → -40 ≤ (μ k c).toInt ∧ (μ k c).toInt ≤ 40) : Ok (m_X2_go Zc b p k o wo μ) (fun ν => PIs ν b nc (goA nc ns na (μ 110) (μ k) (μ o) wo) ∧ FrP b μ ν) := by
  obtain ⟨hnc, hns, hna, hnb⟩ := pl_bd hpl
  have hbl := isPn_le hb
  have hpl2 := isPl_le hp
  have hact := pl_act hpl
  have e0 := hpl.1.1
  have e1 := hpl.1.2.1
  unfold m_X2_go
  rw [e0]
  refine ok_b (p_begin hb hk hk2 hnc) ?_
  rintro ν0 ⟨g0, f0⟩
  refine ok_for (fun i ν => FrP b μ ν ∧ PIs ν b nc (sesA nc na (μ 110) wo (μ o) i (bgA (μ k)))) 0 ns (by omega) (by omega) rfl ⟨f0, g0⟩ ?_ ?_
  · rintro i ν _ hi ⟨f, g⟩
    have fo : ν o = μ o := f o ho2
    have f1 : ν p 1 = nI ns := by rw [f p (by omega)]; exact e1
    obtain ⟨s, hs, hos⟩ := hO i hi
    have h6 : Int32.ofNat (zl Zc o) = nI 6 := by rw [ho]; rfl
    have hbi := bd_ses (wo := wo) (O := μ o) hnc hna hact i 0 (bgA (μ k)) (bd_bg hnc hB) (by omega)
    simp (disch := omega) only [f1, h6, x_le, show ¬ ns ≤ i by omega, show ¬ 6 ≤ i by omega, if_false]
    rw [ald_n ho (by omega) (by omega), ob_s, fo, hos]
    have hse : sesA nc na (μ 110) wo (μ o) (i + 1) (bgA (μ k)) = if nI s = wo then sesA nc na (μ 110) wo (μ o) i (bgA (μ k)) else seA nc na (μ 110) (nI s) (sesA nc na (μ 110) wo (μ o) i (bgA (μ k))) := by
      show (List.range (i + 1)).foldl _ _ = _
      rw [List.range_succ, List.foldl_append, List.foldl_cons, List.foldl_nil, hos]
      rfl
    rw [hse]
    by_cases hw : nI s = wo
    · simp only [hw, if_true, ob_s, n1]
      exact ok_s (Or.inl ⟨_, rfl, f, g⟩)
    · simp only [hw, if_false, ob_s]
      have hd := p_doSeam hb hp (pl_fr hb hp f hpl) hs g hbi (by omega)
      rw [f 110 (by omega)] at hd
      obtain ⟨ν2, t1, t2, t3⟩ := hd
      rw [t1]
      simp only [ob_s, n1]
      exact ok_s (Or.inl ⟨_, rfl, f.trans t3, t2⟩)
  · rintro ν ⟨f, g⟩
    have f1 : ν p 1 = nI ns := by rw [f p (by omega)]; exact e1
    simp (disch := omega) only [f1, x_le, Nat.le_refl, if_true]
    refine ok_s ⟨_, rfl, ?_⟩
    refine ok_b (p_freeAll hb g hnc) ?_
    rintro ν2 ⟨t1, t2⟩
    exact ok_s ⟨t1, f.trans t2⟩
end
section
/-! ===== what a call leaves of the rest, once more ===== -/
theorem c_gen {μ ν : MT} {p d nc ns na nb : Nat} (h : Core μ p d nc ns na nb) (k2 : ν 0 15 = ν 106 1)
    (k0 : ∀ j, j = 11 ∨ j = 12 ∨ j = 14 → ν 0 j = μ 0 j)
    (k6 : ∀ j, (5 ≤ j ∧ j < 9) ∨ j = 20 ∨ j = 21 ∨ j = 42 → ν 106 j = μ 106 j)
    (kr : ∀ k, (1 ≤ k ∧ k < 15) ∨ k = 16 ∨ (90 ≤ k ∧ k < 106) ∨ (107 ≤ k ∧ k < 113) ∨ k = 116 ∨ k = 117 ∨ k = 126 ∨ (1000 ≤ k ∧ k < 1004) → ν k = μ k)
    (k8 : (ν 17 = μ 17 ∧ ν 118 = μ 118) ∨ ∀ k, k < ns → ∃ s, s < ns ∧ ν 17 k = nI s ∧ ν 118 k = nI s)
    (k9 : (ν 0 13 = μ 0 13 ∧ ν 106 31 = μ 106 31 ∧ ν 106 37 = μ 106 37 ∧ ν 122 = μ 122 ∧ ∀ k, 19 ≤ k → k < 26 → ν k = μ k) ∨ ILa nc (ν 0 13) (ν 106 31) (ν 106 37) (ν 122) (ν 117) (ν 19) (ν 20) (ν 21) (ν 22) (ν 23) (ν 24) (ν 25))
    (k10 : ((∀ j, 4 ≤ j → j < 7 → ν 33 j = μ 33 j) ∧ ν 36 = μ 36) ∨ ISe nc ns na nb (ν 110) (ν 111) (ν 112) (ν 117) (ν 33 4) (ν 33 5) (ν 33 6) (ν 36))
    (k11 : (ν 87 2 = μ 87 2 ∧ ν 88 = μ 88) ∨ IBe nc ns na (ν 110) (ν 87 2) (ν 88)) : Core ν p d nc ns na nb := by
  have hp := isPl_le h.2.2.2.1.1
  have e90 := kr 90 (by omega)
  have e13 := kr 13 (by omega)
  refine c_mk h (Or.inl ⟨?_, ?_, ?_, ?_, ?_, ?_⟩) k2 (Or.inl ⟨k0 14 (by omega), k6 21 (by omega)⟩) (Or.inl ⟨?_, ?_, k6 20 (by omega), ?_⟩) ⟨k0 11 (by omega), k0 12 (by omega)⟩ ?_ ⟨?_, ?_, ?_⟩ ⟨k6 5 (by omega), k6 6 (by omega), k6 7 (by omega), k6 8 (by omega)⟩ (Or.inl ⟨?_, ?_⟩) k8 ?_ ?_ k11 (Or.inl ⟨?_, ?_, k6 42 (by omega), ?_⟩) ⟨?_, ?_, ?_, ?_⟩
  case refine_10 => exact fun i hi => kr _ (by omega)
  case refine_16 =>
    rcases k9 with ⟨a1, a2, a3, a4, a5⟩ | k9
    · exact Or.inl ⟨a1, a2, a3, a4, kr _ (by omega), a5 19 (by omega) (by omega), a5 20 (by omega) (by omega), a5 21 (by omega) (by omega), a5 22 (by omega) (by omega), a5 23 (by omega) (by omega), a5 24 (by omega) (by omega), a5 25 (by omega) (by omega)⟩
    · exact Or.inr k9
  case refine_17 =>
    rcases k10 with ⟨a1, a2⟩ | k10
    · exact Or.inl ⟨kr _ (by omega), a1 4 (by omega) (by omega), a1 5 (by omega) (by omega), a1 6 (by omega) (by omega), a2⟩
    · exact Or.inr k10
  all_goals first
    | exact kr _ (by omega)
    | exact fun s hs => kr _ (by omega)
    | rw [e90]
    | rw [e13]
/-- what the reference's looking leaves -/
def FrX (μ ν : MT) : Prop := (∀ k, k ≠ 106 → (k < 119 ∨ 125 < k ∨ k = 122) → ν k = μ k) ∧ (∀ j, j ≠ 0 → j ≠ 35 → ν 106 j = μ 106 j)
theorem FrX.refl (μ : MT) : FrX μ μ := ⟨fun _ _ _ => rfl, fun _ _ _ => rfl⟩
theorem FrX.trans {μ ν ω : MT} (h : FrX μ ν) (h2 : FrX ν ω) : FrX μ ω := ⟨fun k a b => (h2.1 k a b).trans (h.1 k a b), fun j a b => (h2.2 j a b).trans (h.2 j a b)⟩
theorem FrX.of {μ ν : MT} (h : FrR μ ν) : FrX μ ν := ⟨fun k a b => h.1 k a (by omega) (by omega) (by omega), fun j _ b => h.2 j b⟩
theorem FrX.w {μ ν : MT} (h : FrX μ ν) {k j : Nat} {v : Int32} (hk : 119 ≤ k ∧ k ≤ 125 ∧ k ≠ 122) : FrX μ (u2 ν k j v) := ⟨fun q a b => by rw [u2_w, if_neg (by omega)]; exact h.1 q a b, fun i a b => by rw [u2_r, if_neg (by omega)]; exact h.2 i a b⟩
theorem FrX.w1 {μ ν : MT} (h : FrX μ ν) {k : Nat} {f : Nat → Int32} (hk : 119 ≤ k ∧ k ≤ 125 ∧ k ≠ 122) : FrX μ (u1 ν k f) := ⟨fun q a b => by rw [u1_w, if_neg (by omega)]; exact h.1 q a b, fun i a b => by rw [u1_r, if_neg (by omega)]; exact h.2 i a b⟩
theorem FrX.w0 {μ ν : MT} (h : FrX μ ν) {v : Int32} : FrX μ (u2 ν 106 0 v) := ⟨fun q a b => by rw [u2_w, if_neg (by omega)]; exact h.1 q a b, fun i a b => by rw [u2_r, if_neg (by omega)]; exact h.2 i a b⟩
/-- the reference looked, nothing else -/
theorem c_x {μ ν : MT} {p d nc ns na nb : Nat} (h : Core μ p d nc ns na nb) (f : FrX μ ν) : Core ν p d nc ns na nb := by
  refine c_gen h ?_ ?_ ?_ ?_ (Or.inl ⟨?_, ?_⟩) (Or.inl ⟨?_, ?_, ?_, ?_, ?_⟩) (Or.inl ⟨?_, ?_⟩) (Or.inl ⟨?_, ?_⟩)
  · rw [f.1 0 (by omega) (by omega), f.2 1 (by omega) (by omega)]; exact h.2.1.1
  · intro j _; rw [f.1 0 (by omega) (by omega)]
  · intro j hj; exact f.2 j (by omega) (by omega)
  · intro k hk; exact f.1 k (by omega) (by omega)
  · exact f.1 _ (by omega) (by omega)
  · exact f.1 _ (by omega) (by omega)
  · rw [f.1 0 (by omega) (by omega)]
  · exact f.2 _ (by omega) (by omega)
  · exact f.2 _ (by omega) (by omega)
  · exact f.1 _ (by omega) (by omega)
  · intro k h1 h2; exact f.1 _ (by omega) (by omega)
  · intro j _ _; rw [f.1 33 (by omega) (by omega)]
  · exact f.1 _ (by omega) (by omega)
  · rw [f.1 87 (by omega) (by omega)]
  · exact f.1 _ (by omega) (by omega)
theorem okR_of {c : Option Int32} {r : Option (Int32 × MT)} {a : Int32} (h1 : c = some a) (h2 : Ok r (fun q => q.1 = a ∧ Inv q.2)) : OkR Inv c r := by
  obtain ⟨⟨b, μ⟩, e, e1, e2⟩ := h2
  simp only at e1 e2
  subst e1
  exact ⟨_, _, h1, e, e2⟩
theorem okI_of {c : Option (Int32 × MT)} {r : MT → Option (Int32 × MT)} {a : Int32} {P : MT → Prop} (h1 : Ok c (fun q => q.1 = a ∧ P q.2)) (h2 : ∀ μ, P μ → Ok (r μ) (fun q => q.1 = a ∧ Inv q.2)) : OkI Inv c r := by
  obtain ⟨⟨b, μ⟩, e, e1, e2⟩ := h1
  simp only at e1 e2
  subst e1
  obtain ⟨⟨b', μ'⟩, g, g1, g2⟩ := h2 μ e2
  simp only at g1 g2
  subst g1
  exact ⟨_, _, _, e, g, g2⟩
theorem q_none {μ : MT} {p nc : Nat} (e : μ p 0 = nI nc) (h : nc < 1000) : m_X3_isNone Zc p μ = some (bI (nc = 0)) := by
  unfold m_X3_isNone bI
  rw [e]
  simp (disch := omega) only [x_eql]
  by_cases h0 : nc = 0
  · rw [if_pos h0, if_pos h0]
  · rw [if_neg h0, if_neg h0]
/-- what stands, as one run -/
def StIs (μ : MT) (x : RS) : Prop := (μ 106 31 = 1 ∧ ∀ k, k < 48 → μ 122 k = x.1 k) ∨ (μ 106 31 = 0 ∧ x = bgA (μ 117))
theorem q_layS {μ : MT} {x : RS} (h : StIs μ x) : Ok (m_X9_layStanding Zc 106 μ) (fun ν => (∀ k, k < 48 → ν 119 k = x.1 k) ∧ FrX μ ν ∧ ν 106 = μ 106) := by
  rw [r_layS]
  refine ok_s ⟨fun k hk => ?_, (FrX.refl μ).w1 (by omega), ?_⟩
  · rw [u1_r, if_pos rfl, if_pos hk]
    unfold stdR
    rcases h with ⟨h1, h2⟩ | ⟨h1, h2⟩
    · rw [h1, if_neg (by decide)]
      exact h2 k hk
    · rw [h1, if_pos rfl, h2]
      rfl
  · rw [u1_w, if_neg (by omega)]
theorem st_fr {μ ν : MT} {x : RS} (h : StIs μ x) (f : FrX μ ν) : StIs ν x := by
  unfold StIs
  rw [f.2 31 (by omega) (by omega), f.1 122 (by omega) (by omega), f.1 117 (by omega) (by omega)]
  exact h
theorem la_ex {μ : MT} {nc : Nat} (h : ILa nc (μ 0 13) (μ 106 31) (μ 106 37) (μ 122) (μ 117) (μ 19) (μ 20) (μ 21) (μ 22) (μ 23) (μ 24) (μ 25)) : ∃ x, PIs μ 19 nc x ∧ Bd nc 240 x ∧ StIs μ x := by
  obtain ⟨x, h1, h2, h3⟩ := h
  refine ⟨x, h1, h2, ?_⟩
  rcases h3 with ⟨_, a2, _, a4⟩ | ⟨_, a2, a3⟩
  · exact Or.inl ⟨a2, a4⟩
  · exact Or.inr ⟨a2, a3⟩
theorem pn19 : isPn 19 := Or.inl rfl
theorem pn26 : isPn 26 := Or.inr (Or.inl rfl)
theorem op_height {ν : MT} (h : Inv ν) (a0 : Int32) : OkR Inv (m_X8_height Zc 127 0 a0 ν) (m_X9_height Zc 106 a0 ν) := by
  obtain ⟨p, d, nc, ns, na, nb, h⟩ := h
  obtain ⟨c1, c2, c3, ⟨hp, hd, hpd, e11, e12⟩, c5, c6, c7, c8, c9, c10, c11, c12, c13⟩ := id h
  obtain ⟨hnc, hns, hna, hnb⟩ := pl_bd c5
  obtain ⟨x, x1, x2, x3⟩ := la_ex c9
  have e0 := c5.1.1
  have m5 : u2 ν 106 0 0 106 5 = nI nc := c6.1
  have f0 : FrX ν (u2 ν 106 0 0) := (FrX.refl ν).w0
  have gin : ∀ μ : MT, m_X9_in Zc a0.toInt64 0 (nI nc).toInt64 μ = some (bI (0 ≤ a0.toInt ∧ a0.toInt ≤ nc)) := fun μ => by
    rw [q_in, Int32.toInt_toInt64, Int32.toInt_toInt64, show (0 : Int64).toInt = 0 from rfl, ti_n (by omega)]
  unfold m_X8_height m_X9_height
  simp only [zA, e11, mrd_p hp, ob_s, q_none e0 (show nc < 1000 by omega), e0, m5, gin]
  by_cases hz : nc = 0
  · rw [bI_t hz, if_neg (by decide), if_pos (by rw [hz]; rfl)]
    exact okR_of rfl (ok_s ⟨rfl, p, d, nc, ns, na, nb, c_x h f0⟩)
  · have hz' : ¬ nI nc = 0 := by rw [x_eql (by omega) (by omega)]; exact hz
    rw [bI_f hz, if_pos rfl, if_neg hz']
    by_cases ha : 0 ≤ a0.toInt ∧ a0.toInt ≤ nc
    · rw [bI_t ha, if_neg (show ¬ a0 < 0 by rw [fa_lt]; show ¬ _ < (0 : Int); omega), if_pos (show a0 ≤ nI nc by rw [fa_le, ti_n (by omega)]; omega), if_neg (by decide)]
      obtain ⟨i, hi, rfl⟩ := nI_ex (n := nc + 1) ha.1 (by omega)
      rw [p_height pn19 x1.1 (fun c hc => (x1.2.2.2 c hc).2.1) hnc (by omega), ob_s]
      refine okR_of rfl ?_
      refine ok_b (q_layS (st_fr x3 f0)) ?_
      rintro ν3 ⟨g1, g2, g3⟩
      rw [r_height (by simp only [zA]) (by omega), ob_s]
      refine ok_s ⟨?_, p, d, nc, ns, na, nb, c_x h (f0.trans g2)⟩
      simp only
      rw [hgA_c (N' := x.1) (fun c hc => g1 _ (by omega))]
    · rw [bI_f ha, if_pos rfl]
      by_cases h1 : a0 < 0
      · rw [if_pos h1]
        exact okR_of rfl (ok_s ⟨rfl, p, d, nc, ns, na, nb, c_x h f0⟩)
      · rw [if_neg h1, if_neg (show ¬ a0 ≤ nI nc by rw [fa_le, ti_n (by omega)]; rw [fa_lt, show (0 : Int32).toInt = 0 from rfl] at h1; omega)]
        exact okR_of rfl (ok_s ⟨rfl, p, d, nc, ns, na, nb, c_x h f0⟩)
theorem r_crackAt {μ : MT} {x : RS} {nc : Nat} {a : Int32} (h : StIs μ x) (e : μ 106 5 = nI nc) (hc : nc ≤ 12) : Ok (m_X9_crackAt Zc 106 a μ) (fun q => q.1 = fsF x.1 (300 - 4 * a) nc 0 ∧ FrX μ q.2) := by
  unfold m_X9_crackAt
  refine ok_b (q_layS h) ?_
  rintro ν ⟨g1, g2, g3⟩
  have e5 : ν 106 5 = nI nc := by rw [g3]; exact e
  refine ok_c (fun i => fsF x.1 (300 - 4 * a) (nc - i) i = fsF x.1 (300 - 4 * a) nc 0) 0 nc (by omega) (by omega) rfl rfl ?_ ?_
  · intro i _ hi hJ
    simp (disch := omega) only [e5, x_le, show ¬ nc ≤ i by omega, if_false, zA, x_la]
    rw [al_119 (by omega), ob_s, g1 _ (by omega)]
    rw [show nc - i = (nc - (i + 1)) + 1 by omega, fsF] at hJ
    by_cases hl : x.1 (36 + i) ≤ 300 - 4 * a
    · rw [if_pos hl, ob_s, n1]
      rw [if_neg (fun q => (nle.mpr q) hl)] at hJ
      exact ok_s (Or.inl ⟨rfl, hJ⟩)
    · rw [if_neg hl]
      rw [if_pos (nle.mp hl)] at hJ
      exact ok_s (Or.inr ⟨_, rfl, ok_s ⟨hJ, g2⟩⟩)
  · intro hJ
    simp (disch := omega) only [e5, x_le, Nat.le_refl, if_true]
    rw [Nat.sub_self] at hJ
    exact ok_s ⟨_, rfl, ok_s ⟨hJ, g2⟩⟩
theorem op_crack {ν : MT} (h : Inv ν) (a0 : Int32) : OkR Inv (m_X8_crack Zc 0 a0 ν) (m_X9_crack Zc 106 a0 ν) := by
  obtain ⟨p, d, nc, ns, na, nb, h⟩ := h
  obtain ⟨c1, c2, c3, ⟨hp, hd, hpd, e11, e12⟩, c5, c6, c7, c8, c9, c10, c11, c12, c13⟩ := id h
  obtain ⟨hnc, hns, hna, hnb⟩ := pl_bd c5
  obtain ⟨x, x1, x2, x3⟩ := la_ex c9
  have m5 : u2 ν 106 0 0 106 5 = nI nc := c6.1
  have f0 : FrX ν (u2 ν 106 0 0) := (FrX.refl ν).w0
  unfold m_X8_crack m_X9_crack
  simp only [zA, ob_s, q_in, Int32.toInt_toInt64, show (0 : Int64).toInt = 0 from rfl, show (60 : Int64).toInt = 60 from rfl]
  by_cases ha : 0 ≤ a0.toInt ∧ a0.toInt ≤ 60
  · rw [bI_t ha, if_neg (show ¬ a0 < 0 by rw [fa_lt]; show ¬ _ < (0 : Int); omega), if_pos (show a0 ≤ 60 by rw [fa_le]; show _ ≤ (60 : Int); omega), if_neg (by decide), p_fst pn19 x1 hnc, ob_s]
    refine okR_of rfl ?_
    refine ok_b (r_crackAt (st_fr x3 f0) m5 hnc) ?_
    rintro ⟨r, ν3⟩ ⟨g1, g2⟩
    exact ok_s ⟨g1, p, d, nc, ns, na, nb, c_x h (f0.trans g2)⟩
  · rw [bI_f ha, if_pos rfl]
    by_cases h1 : a0 < 0
    · rw [if_pos h1]
      exact okR_of rfl (ok_s ⟨rfl, p, d, nc, ns, na, nb, c_x h f0⟩)
    · rw [if_neg h1, if_neg (show ¬ a0 ≤ 60 by rw [fa_le, show (60 : Int32).toInt = 60 from rfl]; rw [fa_lt, show (0 : Int32).toInt = 0 from rfl] at h1; omega)]
      exact okR_of rfl (ok_s ⟨rfl, p, d, nc, ns, na, nb, c_x h f0⟩)
/-- the greatest cold without a crack, from n - 1 down -/
def wmF (N : Nat → Int32) (nc : Nat) : Nat → Int32
  | 0 => -1000000
  | n + 1 => if fsF N (300 - 4 * nI n) nc 0 = -1000000 then nI n else wmF N nc n
theorem nm_1 {n : Nat} : nI (n + 1) + -1 = nI n := by
  rw [← n1, Int32.add_assoc, show (1 : Int32) + -1 = 0 from rfl, Int32.add_zero]
theorem op_warm {ν : MT} (h : Inv ν) : OkR Inv (m_X8_warm Zc 127 0 ν) (m_X9_warm Zc 106 ν) := by
  obtain ⟨p, d, nc, ns, na, nb, h⟩ := h
  obtain ⟨c1, c2, c3, ⟨hp, hd, hpd, e11, e12⟩, c5, c6, c7, c8, c9, c10, c11, c12, c13⟩ := id h
  obtain ⟨hnc, hns, hna, hnb⟩ := pl_bd c5
  obtain ⟨x, x1, x2, x3⟩ := la_ex c9
  have e0 := c5.1.1
  have m5 : u2 ν 106 0 0 106 5 = nI nc := c6.1
  have f0 : FrX ν (u2 ν 106 0 0) := (FrX.refl ν).w0
  unfold m_X8_warm m_X9_warm
  simp only [zA, e11, mrd_p hp, ob_s, q_none e0 (show nc < 1000 by omega), m5]
  by_cases hz : nc = 0
  · rw [bI_t hz, if_neg (by decide), if_pos (by rw [hz]; rfl)]
    exact okR_of rfl (ok_s ⟨rfl, p, d, nc, ns, na, nb, c_x h f0⟩)
  · have hz' : ¬ nI nc = 0 := by rw [x_eql (by omega) (by omega)]; exact hz
    rw [bI_f hz, if_pos rfl, if_neg hz']
    refine okR_of (a := wmF x.1 nc 61) ?_ ?_
    · apply ok_eq
      refine ok_l (fun m s => s = nI m + -1 ∧ wmF x.1 nc m = wmF x.1 nc 61 ∧ m ≤ 61) 61 (by omega) ⟨rfl, rfl, by omega⟩ ?_
      rintro m s ⟨rfl, hw, hm⟩
      cases m with
      | zero =>
        rw [if_pos (by decide)]
        exact ok_s (Or.inl ⟨_, rfl, ok_s hw⟩)
      | succ n =>
        rw [nm_1, if_neg (by rw [x_ltl (by omega) (by omega)]; omega), p_fst pn19 x1 hnc, ob_s]
        rw [wmF] at hw
        by_cases hq : fsF x.1 (300 - 4 * nI n) nc 0 = -1000000
        · rw [if_pos hq]
          rw [if_pos hq] at hw
          exact ok_s (Or.inl ⟨_, rfl, ok_s hw⟩)
        · rw [if_neg hq]
          rw [if_neg hq] at hw
          exact ok_s (Or.inr ⟨_, n, rfl, by omega, rfl, hw, by omega⟩)
    · refine ok_l (fun m s => s.1 = nI m + -1 ∧ FrX ν s.2 ∧ wmF x.1 nc m = wmF x.1 nc 61 ∧ m ≤ 61) 61 (by omega) ⟨rfl, f0, rfl, by omega⟩ ?_
      rintro m ⟨s, ν2⟩ ⟨hs, f2', hw, hm⟩
      have f2 : FrX ν ν2 := f2'
      clear f2'
      simp only at hs
      subst hs
      cases m with
      | zero =>
        simp only [show (nI 0 + -1 : Int32) < 0 from by decide, if_true]
        exact ok_s (Or.inl ⟨_, rfl, ok_s ⟨hw, p, d, nc, ns, na, nb, c_x h f2⟩⟩)
      | succ n =>
        simp only [nm_1]
        rw [if_neg (by rw [x_ltl (by omega) (by omega)]; omega)]
        refine ok_b (r_crackAt (st_fr x3 f2) (by rw [f2.2 5 (by omega) (by omega)]; exact c6.1) hnc) ?_
        rintro ⟨r, ν3⟩ ⟨g1, g2⟩
        simp only at g1 g2 ⊢
        subst g1
        rw [wmF] at hw
        by_cases hq : fsF x.1 (300 - 4 * nI n) nc 0 = -1000000
        · rw [if_pos hq]
          rw [if_pos hq] at hw
          refine ok_s (Or.inl ⟨_, rfl, ?_⟩)
          simp only
          rw [if_pos (by rw [x_lle (by omega) (by omega)]; omega)]
          exact ok_s ⟨hw, p, d, nc, ns, na, nb, c_x h (f2.trans g2)⟩
        · rw [if_neg hq]
          rw [if_neg hq] at hw
          exact ok_s (Or.inr ⟨_, n, rfl, by omega, rfl, f2.trans g2, hw, by omega⟩)
end
section
/-! ===== cell, open, runs ===== -/
theorem fold_cg {α : Type} {f g : α → Nat → α} : ∀ (n : Nat) (x : α), (∀ a y, a < n → f y a = g y a) → (List.range n).foldl f x = (List.range n).foldl g x
  | 0, _, _ => rfl
  | n + 1, x, h => by
    rw [List.range_succ, List.foldl_append, List.foldl_append, fold_cg n x (fun a y ha => h a y (by omega))]
    simp only [List.foldl_cons, List.foldl_nil]
    exact h n _ (by omega)
theorem bgA_c {B B' : Nat → Int32} (h : ∀ c, c < 12 → B c = B' c) : bgA B = bgA B' := by
  unfold bgA
  have : (fun k => if 24 ≤ k ∧ k < 36 then B (k - 24) else 0) = (fun k => if 24 ≤ k ∧ k < 36 then B' (k - 24) else 0) := by
    funext k
    by_cases hk : 24 ≤ k ∧ k < 36
    · rw [if_pos hk, if_pos hk, h _ (by omega)]
    · rw [if_neg hk, if_neg hk]
  rw [this]
theorem sesA_c {nc na ns : Nat} {A O O' : Nat → Int32} {wo wo' : Int32} {x : RS} (hO : ∀ k, k < ns → O k = O' k) (hw : ∀ k, k < ns → (O k = wo ↔ O' k = wo')) : sesA nc na A wo O ns x = sesA nc na A wo' O' ns x := by
  unfold sesA
  refine fold_cg ns x (fun a y ha => ?_)
  by_cases h : O a = wo
  · rw [if_pos h, if_pos ((hw a ha).mp h)]
  · rw [if_neg h, if_neg (fun q => h ((hw a ha).mpr q)), hO a ha]
theorem goA_c {nc ns na : Nat} {A B B' O O' : Nat → Int32} {wo wo' : Int32} (hB : ∀ c, c < 12 → B c = B' c) (hO : ∀ k, k < ns → O k = O' k) (hw : ∀ k, k < ns → (O k = wo ↔ O' k = wo')) : goA nc ns na A B O wo = goA nc ns na A B' O' wo' := by
  unfold goA
  rw [bgA_c hB, sesA_c hO hw]
theorem m1n {s : Nat} (h : s < 1000) : ¬ nI s = -1 := by rw [fa_eq, ti_n (by omega)]; show ¬ (s : Int) = -1; omega
theorem mNn {s : Nat} (h : s < 1000) : ¬ nI s = -1000000 := by rw [fa_eq, ti_n (by omega)]; show ¬ (s : Int) = -1000000; omega
theorem c_p19 {μ ν : MT} {p d nc ns na nb : Nat} {x : RS} (h : Core ν p d nc ns na nb) (hb : Bd nc 240 x) (hx : (ν 0 13 = 1 ∧ ν 106 31 = 1 ∧ ν 106 37 = x.2.2.2 ∧ ∀ k, k < 48 → ν 122 k = x.1 k) ∨ (ν 0 13 = 0 ∧ ν 106 31 = 0 ∧ x = bgA (ν 117))) (f : FrP 19 ν μ) (g : PIs μ 19 nc x) : Core μ p d nc ns na nb := by
  refine c_gen h ?_ ?_ ?_ ?_ (Or.inl ⟨?_, ?_⟩) (Or.inr ⟨x, g, hb, ?_⟩) (Or.inl ⟨?_, ?_⟩) (Or.inl ⟨?_, ?_⟩)
  · rw [f 0 (by omega), f 106 (by omega)]; exact h.2.1.1
  · intro j _; rw [f 0 (by omega)]
  · intro j _; rw [f 106 (by omega)]
  · intro k hk; exact f k (by omega)
  · exact f 17 (by omega)
  · exact f 118 (by omega)
  · rw [f 0 (by omega), f 106 (by omega), f 122 (by omega), f 117 (by omega)]; exact hx
  · intro j _ _; rw [f 33 (by omega)]
  · exact f 36 (by omega)
  · rw [f 87 (by omega)]
  · exact f 88 (by omega)
theorem op_cell {ν : MT} (h : Inv ν) (a0 a1 : Int32) : OkI Inv (m_X8_cell Zc 127 0 a0 a1 ν) (fun μ => m_X9_cell Zc 106 a0 a1 μ) := by
  obtain ⟨p, d, nc, ns, na, nb, h⟩ := h
  obtain ⟨c1, c2, c3, ⟨hp, hd, hpd, e11, e12⟩, c5, c6, c7, c8, c9, c10, c11, c12, c13⟩ := id h
  obtain ⟨hnc, hns, hna, hnb⟩ := pl_bd c5
  have c9' := c9
  obtain ⟨x, x1, x2, x3'⟩ := c9'
  have x1 : PIs ν 19 nc x := x1
  have x3 : StIs ν x := by
    rcases x3' with ⟨_, a2, _, a4⟩ | ⟨_, a2, a3⟩
    · exact Or.inl ⟨a2, a4⟩
    · exact Or.inr ⟨a2, a3⟩
  have e0 := c5.1.1
  have gin : ∀ μ : MT, m_X9_in Zc a1.toInt64 0 3 μ = some (bI (0 ≤ a1.toInt ∧ a1.toInt ≤ 3)) := fun μ => by
    rw [q_in, Int32.toInt_toInt64, show (0 : Int64).toInt = 0 from rfl, show (3 : Int64).toInt = 3 from rfl]
  by_cases ha : 0 ≤ a0.toInt ∧ a0.toInt < nc
  · by_cases hw : 0 ≤ a1.toInt ∧ a1.toInt ≤ 3
    · obtain ⟨c, hcc, rfl⟩ := nI_ex (n := nc) ha.1 ha.2
      obtain ⟨w, hw1, rfl⟩ := nI_ex (n := 4) hw.1 (by omega)
      refine okI_of (a := x.1 (12 * w + c)) (P := fun μ => FrP 19 ν μ ∧ PIs μ 19 nc x) ?_ ?_
      · unfold m_X8_cell
        rw [e11, mrd_p hp, ob_s, q_hasCell e0 (by omega), ob_s, bI_t ha, if_neg (by decide)]
        simp (disch := omega) only [zA, x_eql]
        rcases (by omega : w = 0 ∨ w = 1 ∨ w = 2 ∨ w = 3) with rfl | rfl | rfl | rfl
        · rw [if_pos rfl]
          refine ok_b (p_heat pn19 x1 hnc hcc) ?_
          rintro ⟨r, μ1⟩ ⟨g1, g2, g3⟩
          refine ok_s ⟨?_, g3, g2⟩
          simp only at g1 ⊢
          rw [g1, show 12 * 0 + c = c by omega]
        · rw [if_neg (by decide), if_pos rfl, zp_2 pn19, al_P pn19 (by omega) (by omega) (by omega), ob_s]
          exact ok_s ⟨(x1.2.2.2 c hcc).1, FrP.refl 19 ν, x1⟩
        · rw [if_neg (by decide), if_neg (by decide), if_pos rfl, zp_3 pn19, al_P pn19 (by omega) (by omega) (by omega), ob_s]
          exact ok_s ⟨(x1.2.2.2 c hcc).2.1, FrP.refl 19 ν, x1⟩
        · rw [if_neg (by decide), if_neg (by decide), if_neg (by decide), if_pos rfl, p_pull pn19 x1 hnc hcc, ob_s]
          exact ok_s ⟨rfl, FrP.refl 19 ν, x1⟩
      · rintro μ ⟨f, g⟩
        have m106 : μ 106 = ν 106 := f 106 (by omega)
        have m5 : u2 μ 106 0 0 106 5 = nI nc := by rw [u2_r, if_neg (by omega), m106]; exact c6.1
        have f0 : FrX μ (u2 μ 106 0 0) := (FrX.refl μ).w0
        have x4 : StIs μ x := by
          unfold StIs
          rw [m106, f 122 (by omega), f 117 (by omega)]
          exact x3
        unfold m_X9_cell
        rw [ob_s, q_isCell m5 (by omega), ob_s, bI_t ha, if_neg (by decide), gin, ob_s, bI_t hw, if_neg (by decide)]
        refine ok_b (q_layS (st_fr x4 f0)) ?_
        rintro ν3 ⟨g1, g2, g3⟩
        simp only [zA, x_lm, x_a]
        rw [al_119 (by omega), ob_s]
        exact ok_s ⟨g1 _ (by omega), p, d, nc, ns, na, nb, c_x (c_p19 h x2 x3' f g) (f0.trans g2)⟩
    · refine okI_of (a := -1000001) (P := fun μ => μ = ν) ?_ ?_
      · unfold m_X8_cell
        have q0 : ¬ a1 = 0 := fun hq => hw (by rw [hq]; decide)
        have q1 : ¬ a1 = 1 := fun hq => hw (by rw [hq]; decide)
        have q2 : ¬ a1 = 2 := fun hq => hw (by rw [hq]; decide)
        have q3 : ¬ a1 = 3 := fun hq => hw (by rw [hq]; decide)
        rw [e11, mrd_p hp, ob_s, q_hasCell e0 (by omega), ob_s, bI_t ha, if_neg (by decide), if_neg q0, if_neg q1, if_neg q2, if_neg q3]
        exact ok_s ⟨rfl, rfl⟩
      · rintro μ rfl
        have m5 : u2 μ 106 0 0 106 5 = nI nc := c6.1
        unfold m_X9_cell
        rw [ob_s, q_isCell m5 (by omega), ob_s, bI_t ha, if_neg (by decide), gin, ob_s, bI_f hw, if_pos rfl]
        exact ok_s ⟨rfl, p, d, nc, ns, na, nb, c_x h (FrX.refl μ).w0⟩
  · refine okI_of (a := -1000001) (P := fun μ => μ = ν) ?_ ?_
    · unfold m_X8_cell
      rw [e11, mrd_p hp, ob_s, q_hasCell e0 (by omega), ob_s, bI_f ha, if_pos rfl]
      exact ok_s ⟨rfl, rfl⟩
    · rintro μ rfl
      have m5 : u2 μ 106 0 0 106 5 = nI nc := c6.1
      unfold m_X9_cell
      rw [ob_s, q_isCell m5 (by omega), ob_s, bI_f ha, if_pos rfl]
      exact ok_s ⟨rfl, p, d, nc, ns, na, nb, c_x h (FrX.refl μ).w0⟩
theorem op_open {ν : MT} (h : Inv ν) (a0 a1 : Int32) : OkI Inv (m_X8_open Zc 127 0 a0 a1 ν) (fun μ => m_X9_open Zc 106 a0 a1 μ) := by
  obtain ⟨p, d, nc, ns, na, nb, h⟩ := h
  obtain ⟨c1, c2, c3, ⟨hp, hd, hpd, e11, e12⟩, c5, c6, c7, c8, c9, c10, c11, c12, c13⟩ := id h
  obtain ⟨hnc, hns, hna, hnb⟩ := pl_bd c5
  have hpl := isPl_le hp
  have e0 := c5.1.1
  have gin : ∀ μ : MT, m_X9_in Zc a1.toInt64 (-40) 40 μ = some (bI (-40 ≤ a1.toInt ∧ a1.toInt ≤ 40)) := fun μ => by
    rw [q_in, Int32.toInt_toInt64, show (-40 : Int64).toInt = -40 from rfl, show (40 : Int64).toInt = 40 from rfl]
  by_cases ha : 0 ≤ a0.toInt ∧ a0.toInt < nc
  · by_cases hw : -40 ≤ a1.toInt ∧ a1.toInt ≤ 40
    · obtain ⟨c, hcc, rfl⟩ := nI_ex (n := nc) ha.1 ha.2
      refine okI_of (a := ν 117 c) (P := fun μ => (∀ k, k ≠ 16 → k ≠ 33 → k < 19 ∨ 25 < k → μ k = ν k) ∧ μ 16 = upd (ν 16) c a1 ∧ μ 33 4 = 0 ∧ ((ν 0 13 = 1 ∧ ∀ k, 19 ≤ k → k < 26 → μ k = ν k) ∨ (ν 0 13 = 0 ∧ PIs μ 19 nc (bgA (upd (ν 16) c a1))))) ?_ ?_
      · unfold m_X8_open m_X5_forget
        have g13 : u2 (u2 ν 16 c a1) 33 4 0 0 13 = ν 0 13 := rfl
        have g11 : u2 (u2 ν 16 c a1) 33 4 0 0 11 = nI p := e11
        have gp : u2 (u2 ν 16 c a1) 33 4 0 p 0 = nI nc := by
          rw [u2_r, if_neg (by omega), u2_r, if_neg (by omega)]; exact e0
        rw [e11, mrd_p hp, ob_s, q_hasCell e0 (by omega), ob_s, bI_t ha, if_neg (by decide), if_neg (show ¬ a1 < -40 by rw [fa_lt]; show ¬ _ < (-40 : Int); omega), if_pos (show a1 ≤ 40 by rw [fa_le]; show _ ≤ (40 : Int); omega)]
        simp only [zA, ob_s]
        rw [al_16 (by omega), ob_s, as_16 (by omega), ob_s, g13, g11, mrd_p hp, ob_s, gp, (c7 c (by omega)).1]
        have h16 : u2 (u2 ν 16 c a1) 33 4 0 16 = upd (ν 16) c a1 := rfl
        have hf : ∀ k, k ≠ 16 → k ≠ 33 → u2 (u2 ν 16 c a1) 33 4 0 k = ν k := fun k h1 h2 => by rw [u2_w, if_neg h2, u2_w, if_neg h1]
        by_cases hr : ν 0 13 = 0
        · rw [if_pos hr]
          refine ok_b (p_begin pn19 (by simp only [zA]) (by omega) hnc) ?_
          rintro μ1 ⟨g1, g2⟩
          rw [h16] at g1
          refine ok_s ⟨rfl, fun k h1 h2 h3 => ?_, ?_, ?_, Or.inr ⟨hr, g1⟩⟩
          · show μ1 k = ν k
            rw [g2 k (by omega), hf k h1 h2]
          · show μ1 16 = _
            rw [g2 16 (by omega), h16]
          · show μ1 33 4 = 0
            rw [g2 33 (by omega)]; rfl
        · rw [if_neg hr]
          have hr1 : ν 0 13 = 1 := by
            obtain ⟨_, _, _, ⟨q, _⟩ | ⟨q, _⟩⟩ := c9
            · exact q
            · exact absurd q hr
          exact ok_s ⟨rfl, fun k h1 h2 h3 => hf k h1 h2, h16, rfl, Or.inl ⟨hr1, fun k h1 h2 => hf k (by omega) (by omega)⟩⟩
      · rintro μ ⟨f, f16, f33, f19⟩
        have m106 : μ 106 = ν 106 := f 106 (by omega) (by omega) (by omega)
        have m5 : u2 μ 106 0 0 106 5 = nI nc := by rw [u2_r, if_neg (by omega), m106]; exact c6.1
        have m117 : u2 μ 106 0 0 117 = ν 117 := by rw [u2_w, if_neg (by omega)]; exact f 117 (by omega) (by omega) (by omega)
        unfold m_X9_open
        rw [ob_s, q_isCell m5 (by omega), ob_s, bI_t ha, if_neg (by decide), gin, ob_s, bI_t hw, if_neg (by decide)]
        simp only [zA]
        rw [al_117 (by omega), ob_s, as_117 (by omega), ob_s, m117]
        refine ok_s ⟨rfl, p, d, nc, ns, na, nb, ?_⟩
        simp only
        have n117 : u2 (u2 μ 106 0 0) 117 c a1 117 = upd (ν 117) c a1 := by rw [u2_w, if_pos rfl, m117]
        have nk : ∀ k, k ≠ 106 → k ≠ 117 → u2 (u2 μ 106 0 0) 117 c a1 k = μ k := fun k h1 h2 => by rw [u2_w, if_neg h2, u2_w, if_neg h1]
        have n106 : ∀ j, j ≠ 0 → u2 (u2 μ 106 0 0) 117 c a1 106 j = ν 106 j := fun j hj => by rw [u2_r, if_neg (by omega), u2_r, if_neg (by omega), m106]
        have n0 : u2 (u2 μ 106 0 0) 117 c a1 0 = ν 0 := by rw [nk 0 (by omega) (by omega)]; exact f 0 (by omega) (by omega) (by omega)
        have fk : ∀ k, k ≠ 16 → k ≠ 33 → k < 19 ∨ 25 < k → k ≠ 106 → k ≠ 117 → u2 (u2 μ 106 0 0) 117 c a1 k = ν k := fun k h1 h2 h3 h4 h5 => by rw [nk k h4 h5, f k h1 h2 h3]
        have n16 : u2 (u2 μ 106 0 0) 117 c a1 16 = upd (ν 16) c a1 := by rw [nk 16 (by omega) (by omega)]; exact f16
        have nnew : ∀ q, q < 12 → upd (ν 16) c a1 q = upd (ν 117) c a1 q ∧ -40 ≤ (upd (ν 117) c a1 q).toInt ∧ (upd (ν 117) c a1 q).toInt ≤ 40 := fun q hq => by
          unfold upd
          by_cases hqc : q = c
          · rw [if_pos hqc, if_pos hqc]; exact ⟨rfl, hw⟩
          · rw [if_neg hqc, if_neg hqc]; exact c7 q hq
        refine c_mk h (Or.inl ⟨?_, ?_, ?_, ?_, ?_, ?_⟩) ?_ (Or.inl ⟨?_, ?_⟩) (Or.inl ⟨?_, ?_, ?_, ?_⟩) ⟨?_, ?_⟩ ?_ ⟨?_, ?_, ?_⟩ ⟨?_, ?_, ?_, ?_⟩ (Or.inr ?_) (Or.inl ⟨?_, ?_⟩) (Or.inr ?_) (Or.inr (Or.inl ?_)) (Or.inl ⟨?_, ?_⟩) (Or.inl ⟨?_, ?_, ?_, ?_⟩) ⟨?_, ?_, ?_, ?_⟩
        case refine_7 => rw [n0, n106 1 (by omega)]; exact c2.1
        case refine_16 => exact fun i hi => fk _ (by omega) (by omega) (by omega) (by omega) (by omega)
        case refine_24 => rw [n16, n117]; exact nnew
        case refine_27 =>
          rw [n0, n106 31 (by omega), n106 37 (by omega), fk 122 (by omega) (by omega) (by omega) (by omega) (by omega), n117]
          obtain ⟨x, x1, x2, x3⟩ := c9
          rcases f19 with ⟨r1, r2⟩ | ⟨r1, r2⟩
          · refine ⟨x, ?_, x2, ?_⟩
            · rw [nk 19 (by omega) (by omega), nk 20 (by omega) (by omega), nk 21 (by omega) (by omega), nk 22 (by omega) (by omega), nk 23 (by omega) (by omega), nk 24 (by omega) (by omega), nk 25 (by omega) (by omega), r2 19 (by omega) (by omega), r2 20 (by omega) (by omega), r2 21 (by omega) (by omega), r2 22 (by omega) (by omega), r2 23 (by omega) (by omega), r2 24 (by omega) (by omega), r2 25 (by omega) (by omega)]
              exact x1
            · rcases x3 with x3 | ⟨q, _⟩
              · exact Or.inl x3
              · rw [r1] at q; exact absurd q (by decide)
          · have hbg : bgA (upd (ν 16) c a1) = bgA (upd (ν 117) c a1) := bgA_c (fun q hq => (nnew q hq).1)
            rw [hbg] at r2
            refine ⟨bgA (upd (ν 117) c a1), ?_, bd_mono (bd_bg hnc (fun q hq => (nnew q hq).2)) (by omega), ?_⟩
            · rw [nk 19 (by omega) (by omega), nk 20 (by omega) (by omega), nk 21 (by omega) (by omega), nk 22 (by omega) (by omega), nk 23 (by omega) (by omega), nk 24 (by omega) (by omega), nk 25 (by omega) (by omega)]
              exact r2
            · rcases x3 with ⟨q, _⟩ | ⟨q1, q2, _⟩
              · rw [r1] at q; exact absurd q (by decide)
              · exact Or.inr ⟨q1, q2, rfl⟩
        case refine_28 => rw [nk 33 (by omega) (by omega)]; exact f33
        all_goals first
          | exact fk _ (by omega) (by omega) (by omega) (by omega) (by omega)
          | exact fun s hs => fk _ (by omega) (by omega) (by omega) (by omega) (by omega)
          | exact n106 _ (by omega)
          | rw [n0]
          | exact congrFun (fk _ (by omega) (by omega) (by omega) (by omega) (by omega)) _
    · refine okI_of (a := -1000001) (P := fun μ => μ = ν) ?_ ?_
      · unfold m_X8_open
        rw [e11, mrd_p hp, ob_s, q_hasCell e0 (by omega), ob_s, bI_t ha, if_neg (by decide)]
        by_cases h1 : a1 < -40
        · rw [if_pos h1]
          exact ok_s ⟨rfl, rfl⟩
        · rw [if_neg h1, if_neg (show ¬ a1 ≤ 40 by rw [fa_le, show (40 : Int32).toInt = 40 from rfl]; rw [fa_lt, show (-40 : Int32).toInt = -40 from rfl] at h1; omega)]
          exact ok_s ⟨rfl, rfl⟩
      · rintro μ rfl
        have m5 : u2 μ 106 0 0 106 5 = nI nc := c6.1
        unfold m_X9_open
        rw [ob_s, q_isCell m5 (by omega), ob_s, bI_t ha, if_neg (by decide), gin, ob_s, bI_f hw, if_pos rfl]
        exact ok_s ⟨rfl, p, d, nc, ns, na, nb, c_x h (FrX.refl μ).w0⟩
  · refine okI_of (a := -1000001) (P := fun μ => μ = ν) ?_ ?_
    · unfold m_X8_open
      rw [e11, mrd_p hp, ob_s, q_hasCell e0 (by omega), ob_s, bI_f ha, if_pos rfl]
      exact ok_s ⟨rfl, rfl⟩
    · rintro μ rfl
      have m5 : u2 μ 106 0 0 106 5 = nI nc := c6.1
      unfold m_X9_open
      rw [ob_s, q_isCell m5 (by omega), ob_s, bI_f ha, if_pos rfl]
      exact ok_s ⟨rfl, p, d, nc, ns, na, nb, c_x h (FrX.refl μ).w0⟩
end
section
/-! ===== runs, run, gives ===== -/
theorem t1000 : ∀ k, k < 6 → μf 1000 k = nI k := by decide +kernel
/-- the reference's run, and that it stands -/
theorem r_runs {μ : MT} {nc ns na : Nat} (e5 : μ 106 5 = nI nc) (e6 : μ 106 6 = nI ns) (e7 : μ 106 7 = nI na) (hc4 : 4 ≤ nc) (hc : nc ≤ 12) (hns : ns ≤ 6) (hna : na ≤ 40) (hA : ∀ a, a < na → ActOK nc (μ 110) a) (hB : ∀ c, c < 12 → -40 ≤ (μ 117 c).toInt ∧ (μ 117 c).toInt ≤ 40) {γ : Type} {F : Int32 → MT → Option γ} {R : γ → Prop}
    (hF : ∀ ν, ν 106 31 = 1 → ν 106 37 = (goA nc ns na (μ 110) (μ 117) (μ 124) (-1000000)).2.2.2 → (∀ k, k < 48 → ν 122 k = (goA nc ns na (μ 110) (μ 117) (μ 124) (-1000000)).1 k) → (∀ k, k < 6 → ν 118 k = μ 124 k) → (∀ k, k ≠ 106 → k < 118 ∨ 125 < k → ν k = μ k) → (∀ j, j ≠ 31 → j ≠ 35 → j ≠ 37 → ν 106 j = μ 106 j) → Ok (F (offA nc (goA nc ns na (μ 110) (μ 117) (μ 124) (-1000000)).1) ν) R) :
    Ok ((m_X9_layOpened Zc 106 μ).bind fun ν28 => (m_X9_go Zc 106 (-1000000) ν28).bind fun ν29 => (m_X9_stand Zc 106 ν29).bind fun ν30 => (m_X9_offBy Zc 106 ν30).bind fun r31 => F r31 ν30) R := by
  rw [r_layO, ob_s]
  have g : ∀ k, k ≠ 123 → u1 μ 123 (fun c => if c < 12 then μ 117 c else μ 123 c) k = μ k := fun k hk => by rw [u1_w, if_neg hk]
  have g123 : ∀ c, c < 12 → u1 μ 123 (fun c => if c < 12 then μ 117 c else μ 123 c) 123 c = μ 117 c := fun c hc => by rw [u1_r, if_pos rfl, if_pos hc]
  generalize u1 μ 123 (fun c => if c < 12 then μ 117 c else μ 123 c) = ν1 at g g123 ⊢
  have hgo := r_go (μ := ν1) (wo := -1000000) (by rw [g 106 (by omega)]; exact e5) (by rw [g 106 (by omega)]; exact e6) (by rw [g 106 (by omega)]; exact e7) hc hns hna (by rw [g 110 (by omega)]; exact hA) (fun c hc => by rw [g123 c hc]; exact hB c hc)
  have hX : goA nc ns na (ν1 110) (ν1 123) (ν1 124) (-1000000) = goA nc ns na (μ 110) (μ 117) (μ 124) (-1000000) := by
    rw [g 110 (by omega), g 124 (by omega)]
    exact goA_c g123 (fun k _ => rfl) (fun k _ => Iff.rfl)
  rw [hX] at hgo
  generalize goA nc ns na (μ 110) (μ 117) (μ 124) (-1000000) = X at hgo hF
  refine ok_b hgo ?_
  rintro ν2 ⟨⟨h1, h2, h3, h4⟩, h5⟩
  rw [r_stand, ob_s]
  have e5' : u1 (u2 (u2 (u1 ν2 122 (fun c => if c < 48 then ν2 119 c else ν2 122 c)) 106 37 (ν2 106 35)) 106 31 1) 118 (fun c => if c < 6 then ν2 124 c else ν2 118 c) 106 5 = nI nc := by
    simp [u1_r, u2_r]
    rw [h5.2 5 (by omega), g 106 (by omega)]
    exact e5
  rw [r_off e5' hc4 hc, ob_s, offA_c (N' := X.1) (fun c hc => by
    rw [← h1 _ (by omega)]
    simp [u1_r, u2_r])]
  refine hF _ ?_ ?_ ?_ ?_ ?_ ?_
  · simp [u1_r, u2_r]
  · simp [u1_r, u2_r, h4]
  · intro k hk
    rw [← h1 k hk]
    simp [u1_r, u2_r, hk]
  · intro k hk
    have : ν2 124 = μ 124 := by rw [h5.1 124 (by omega) (by omega) (by omega) (by omega), g 124 (by omega)]
    simp [u1_r, hk, this]
  · intro k h6 h7
    rw [u1_w, if_neg (by omega), u2_w, if_neg h6, u2_w, if_neg h6, u1_w, if_neg (by omega), h5.1 k h6 (by omega) (by omega) (by omega), g k (by omega)]
  · intro j h6 h7 h8
    simp [u1_r, u2_r, h6, h8]
    rw [h5.2 j h7, g 106 (by omega)]
/-- the program's run, and that it stands -/
theorem p_stands {μ : MT} {p nc ns na nb : Nat} (hp : isPl p) (e11 : μ 0 11 = nI p) (hpl : PlIs μ p nc ns na nb) (hc4 : 4 ≤ nc) (hO : ∀ j, j < ns → ∃ s, s < ns ∧ μ 17 j = nI s) (hB : ∀ c, c < 12 → -40 ≤ (μ 16 c).toInt ∧ (μ 16 c).toInt ≤ 40) : Ok (m_X8_standByOrder Zc 127 0 μ) (fun q => q.1 = offA nc (goA nc ns na (μ 110) (μ 16) (μ 17) (-1)).1 ∧ PIs q.2 19 nc (goA nc ns na (μ 110) (μ 16) (μ 17) (-1)) ∧ FrP 19 (u2 μ 0 13 1) q.2) := by
  obtain ⟨hnc, hns, hna, hnb⟩ := pl_bd hpl
  have hpl2 := isPl_le hp
  have g : ∀ k, k ≠ 0 → u2 μ 0 13 1 k = μ k := fun k hk => by rw [u2_w, if_neg hk]
  have g11 : u2 μ 0 13 1 0 11 = nI p := by rw [u2_r, if_neg (by omega)]; exact e11
  have hgo := p_go (μ := u2 μ 0 13 1) (b := 19) (p := p) (k := 16) (o := 17) (wo := -1) (nc := nc) (ns := ns) (na := na) (nb := nb) pn19 hp (by
    unfold PlIs
    rw [g p (by omega), g (p + 1) (by omega), g (p + 2) (by omega), g (p + 3) (by omega), g (p + 4) (by omega), g (p + 5) (by omega), g (p + 6) (by omega), g 110 (by omega), g 111 (by omega), g 112 (by omega)]
    exact hpl) (by simp only [zA]) (by omega) (by simp only [zA]) (by omega) (by rw [g 17 (by omega)]; exact hO) (by rw [g 16 (by omega)]; exact hB)
  rw [g 110 (by omega), g 16 (by omega), g 17 (by omega)] at hgo
  unfold m_X8_standByOrder
  rw [ob_s, g11, mrd_p hp, ob_s]
  simp only [zA]
  refine ok_b hgo ?_
  rintro ν ⟨h1, h2⟩
  rw [p_off pn19 h1.1 (fun c hc => (h1.2.2.2 c hc).2.1) hc4 hnc, ob_s]
  exact ok_s ⟨rfl, h1, h2⟩
theorem op_runs {ν : MT} (h : Inv ν) : OkI Inv (m_X8_runs Zc 127 0 ν) (fun μ => m_X9_runs Zc 106 μ) := by
  obtain ⟨p, d, nc, ns, na, nb, h⟩ := h
  obtain ⟨c1, c2, c3, ⟨hp, hd, hpd, e11, e12⟩, c5, c6, c7, c8, c9, c10, c11, c12, c13⟩ := id h
  obtain ⟨hnc, hns, hna, hnb⟩ := pl_bd c5
  have hpl2 := isPl_le hp
  have e0 := c5.1.1
  have hz4 := c5.2.1
  by_cases hz : nc = 0
  · refine okI_of (a := -1000002) (P := fun μ => μ = ν) ?_ ?_
    · unfold m_X8_runs
      rw [e11, mrd_p hp, ob_s, q_none e0 (by omega), ob_s, bI_t hz, if_neg (by decide)]
      exact ok_s ⟨rfl, rfl⟩
    · rintro μ rfl
      have m5 : u2 μ 106 0 0 106 5 = nI nc := c6.1
      unfold m_X9_runs
      rw [ob_s, m5, if_pos (by rw [hz]; rfl)]
      exact ok_s ⟨rfl, p, d, nc, ns, na, nb, c_x h (FrX.refl μ).w0⟩
  · have hz' : ¬ nI nc = 0 := by rw [x_eql (by omega) (by omega)]; exact hz
    have hX : ∀ O : Nat → Int32, (∀ k, k < 6 → O k = nI k) → goA nc ns na (ν 110) (ν 16) O (-1) = goA nc ns na (ν 110) (ν 117) (fun k => nI k) (-1000000) := fun O hO => by
      refine goA_c (fun c hc => (c7 c hc).1) (fun k hk => hO k (by omega)) (fun k hk => ?_)
      rw [hO k (by omega)]
      exact ⟨fun q => absurd q (m1n (by omega)), fun q => absurd q (mNn (by omega))⟩
    refine okI_of (a := offA nc (goA nc ns na (ν 110) (ν 117) (fun k => nI k) (-1000000)).1) (P := fun μ => PIs μ 19 nc (goA nc ns na (ν 110) (ν 117) (fun k => nI k) (-1000000)) ∧ (∀ k, k ≠ 0 → k ≠ 17 → k < 19 ∨ 25 < k → μ k = ν k) ∧ (∀ j, j ≠ 13 → μ 0 j = ν 0 j) ∧ μ 0 13 = 1 ∧ (∀ k, k < 6 → μ 17 k = nI k)) ?_ ?_
    · unfold m_X8_runs
      rw [e11, mrd_p hp, ob_s, q_none e0 (by omega), ob_s, bI_f hz, if_pos rfl]
      simp only [zA]
      rw [acp0 (m := 6) (v := 6) (n := 6) (n1 := 6) (by simp only [zA]) (by simp only [zA]) (by omega) (by omega) (by omega) rfl, ob_s]
      have g : ∀ k, k ≠ 17 → u1 ν 17 (fun j => if j < 6 then ν 1000 j else ν 17 j) k = ν k := fun k hk => by rw [u1_w, if_neg hk]
      have g17 : ∀ k, k < 6 → u1 ν 17 (fun j => if j < 6 then ν 1000 j else ν 17 j) 17 k = nI k := fun k hk => by rw [u1_r, if_pos rfl, if_pos hk, c13.1, t1000 k hk]
      generalize u1 ν 17 (fun j => if j < 6 then ν 1000 j else ν 17 j) = ν1 at g g17 ⊢
      have hs := p_stands (μ := ν1) (nc := nc) (ns := ns) (na := na) (nb := nb) hp (by rw [g 0 (by omega)]; exact e11) (by
        unfold PlIs
        rw [g p (by omega), g (p + 1) (by omega), g (p + 2) (by omega), g (p + 3) (by omega), g (p + 4) (by omega), g (p + 5) (by omega), g (p + 6) (by omega), g 110 (by omega), g 111 (by omega), g 112 (by omega)]
        exact c5) (by omega) (fun j hj => ⟨j, hj, g17 j (by omega)⟩) (by rw [g 16 (by omega)]; exact fun c hc => by rw [(c7 c hc).1]; exact (c7 c hc).2)
      rw [g 110 (by omega), g 16 (by omega), hX (ν1 17) g17] at hs
      refine ok_b hs ?_
      rintro ⟨r, ν2⟩ ⟨h1, h2, h3⟩
      simp only at h1 h2 h3
      refine ok_s ⟨h1, h2, fun k a b c => ?_, fun j hj => ?_, ?_, fun k hk => ?_⟩
      · show ν2 k = ν k
        rw [h3 k (by omega), u2_w, if_neg a, g k b]
      · show ν2 0 j = ν 0 j
        rw [h3 0 (by omega), u2_r, if_neg (by omega), g 0 (by omega)]
      · show ν2 0 13 = 1
        rw [h3 0 (by omega)]; simp [u2_r]
      · show ν2 17 k = nI k
        rw [h3 17 (by omega), u2_w, if_neg (by omega)]; exact g17 k hk
    · rintro μ ⟨f1, f2, f3, f4, f5⟩
      have m106 : μ 106 = ν 106 := f2 106 (by omega) (by omega) (by omega)
      have m5 : u2 μ 106 0 0 106 5 = nI nc := by rw [u2_r, if_neg (by omega), m106]; exact c6.1
      unfold m_X9_runs
      rw [ob_s, m5, if_neg hz', r_layN, ob_s]
      have g : ∀ k, k ≠ 106 → k ≠ 124 → u1 (u2 μ 106 0 0) 124 (fun c => if c < 6 then nI c else u2 μ 106 0 0 124 c) k = μ k := fun k hk hk2 => by rw [u1_w, if_neg hk2, u2_w, if_neg hk]
      have g6 : ∀ j, j ≠ 0 → u1 (u2 μ 106 0 0) 124 (fun c => if c < 6 then nI c else u2 μ 106 0 0 124 c) 106 j = ν 106 j := fun j hj => by rw [u1_r, if_neg (by omega), u2_r, if_neg (by omega), m106]
      have g124 : ∀ k, k < 6 → u1 (u2 μ 106 0 0) 124 (fun c => if c < 6 then nI c else u2 μ 106 0 0 124 c) 124 k = nI k := fun k hk => by rw [u1_r, if_pos rfl, if_pos hk]
      generalize u1 (u2 μ 106 0 0) 124 (fun c => if c < 6 then nI c else u2 μ 106 0 0 124 c) = μ1 at g g6 g124 ⊢
      have g110 : μ1 110 = ν 110 := by rw [g 110 (by omega) (by omega), f2 110 (by omega) (by omega) (by omega)]
      have g117 : μ1 117 = ν 117 := by rw [g 117 (by omega) (by omega), f2 117 (by omega) (by omega) (by omega)]
      have hX2 : goA nc ns na (μ1 110) (μ1 117) (μ1 124) (-1000000) = goA nc ns na (ν 110) (ν 117) (fun k => nI k) (-1000000) := by
        rw [g110, g117]
        refine goA_c (fun c _ => rfl) (fun k hk => g124 k (by omega)) (fun k hk => ?_)
        rw [g124 k (by omega)]
      refine r_runs (nc := nc) (ns := ns) (na := na) (by rw [g6 5 (by omega)]; exact c6.1) (by rw [g6 6 (by omega)]; exact c6.2.1) (by rw [g6 7 (by omega)]; exact c6.2.2.1) (by omega) hnc hns hna (by rw [g110]; exact pl_act c5) (by rw [g117]; exact fun c hc => (c7 c hc).2) ?_
      rw [hX2]
      intro ν3 r1 r2 r3 r4 r5 r6
      refine ok_s ⟨rfl, p, d, nc, ns, na, nb, ?_⟩
      have hk : ∀ k, k ≠ 0 → k ≠ 17 → k ≠ 106 → k < 19 ∨ (25 < k ∧ k < 118) ∨ 125 < k → ν3 k = ν k := fun k a b c e => by rw [r5 k c (by omega), g k c (by omega), f2 k a b (by omega)]
      have h0 : ν3 0 = μ 0 := by rw [r5 0 (by omega) (by omega), g 0 (by omega) (by omega)]
      have hj : ∀ j, j ≠ 0 → j ≠ 31 → j ≠ 35 → j ≠ 37 → ν3 106 j = ν 106 j := fun j a b c e => by rw [r6 j b c e, g6 j a]
      refine c_gen h ?_ ?_ ?_ ?_ (Or.inr fun k hk => ⟨k, hk, ?_, ?_⟩) (Or.inr ⟨goA nc ns na (ν 110) (ν 117) (fun k => nI k) (-1000000), ?_, ?_, Or.inl ⟨?_, r1, r2, r3⟩⟩) (Or.inl ⟨?_, ?_⟩) (Or.inl ⟨?_, ?_⟩)
      · show ν3 0 15 = ν3 106 1
        rw [h0, f3 15 (by omega), hj 1 (by omega) (by omega) (by omega) (by omega)]; exact c2.1
      · intro j hjj
        show ν3 0 j = _
        rw [h0, f3 j (by omega)]
      · intro j hjj
        exact hj j (by omega) (by omega) (by omega) (by omega)
      · intro k hkk
        exact hk k (by omega) (by omega) (by omega) (by omega)
      · show ν3 17 k = nI k
        rw [r5 17 (by omega) (by omega), g 17 (by omega) (by omega)]; exact f5 k (by omega)
      · show ν3 118 k = nI k
        rw [r4 k (by omega)]; exact g124 k (by omega)
      · have q : ∀ k, 19 ≤ k → k < 26 → ν3 k = μ k := fun k a b => by rw [r5 k (by omega) (by omega), g k (by omega) (by omega)]
        show PRel nc (ν3 19) (ν3 20) (ν3 21) (ν3 22) (ν3 23) (ν3 24) (ν3 25) _
        rw [q 19 (by omega) (by omega), q 20 (by omega) (by omega), q 21 (by omega) (by omega), q 22 (by omega) (by omega), q 23 (by omega) (by omega), q 24 (by omega) (by omega), q 25 (by omega) (by omega)]
        exact f1
      · exact bd_go hnc hns hna (pl_act c5) (fun c hc => (c7 c hc).2)
      · show ν3 0 13 = 1
        rw [h0]; exact f4
      · intro j a b
        show ν3 33 j = _
        rw [hk 33 (by omega) (by omega) (by omega) (by omega)]
      · exact hk 36 (by omega) (by omega) (by omega) (by omega)
      · show ν3 87 2 = _
        rw [hk 87 (by omega) (by omega) (by omega) (by omega)]
      · exact hk 88 (by omega) (by omega) (by omega) (by omega)
end
section
theorem c_s2 {μ : MT} {p d nc ns na nb : Nat} (h : Core μ p d nc ns na nb) (v : Int32) : Core (u2 (u2 (u2 μ 0 15 v) 106 0 0) 106 1 v) p d nc ns na nb := by
  have hp := isPl_le h.2.2.2.1.1
  refine c_gen h ?_ ?_ ?_ ?_ (Or.inl ⟨?_, ?_⟩) (Or.inl ⟨?_, ?_, ?_, ?_, ?_⟩) (Or.inl ⟨?_, ?_⟩) (Or.inl ⟨?_, ?_⟩)
  · simp [u2_r]
  · intro j hj
    simp only [u2_r]
    grind
  · intro j hj
    simp only [u2_r]
    grind
  · intro k hk
    simp only [u2_w]
    grind
  · simp [u2_w]
  · simp [u2_w]
  · simp [u2_r]
  · simp [u2_r]
  · simp [u2_r]
  · simp [u2_w]
  · intro k h1 h2
    simp only [u2_w]
    grind
  · intro j _ _
    simp [u2_r]
  · simp [u2_w]
  · simp [u2_r]
  · simp [u2_w]
theorem q_item {μ : MT} {s z j : Nat} (hs : s < 8) (e : μ 3 s = nI z) (hz : z ≤ 40) (hj : j < z) : m_X6_itemAt Zc 1 (nI s) (nI j) μ = some (μ (5 + s) j) := by
  have hc : (0 ≤ (nI j).toInt ∧ 0 ≤ (1 : Int32).toInt ∧ (nI j).toInt + (1 : Int32).toInt ≤ z) := by rw [ti_n (by omega), show (1 : Int32).toInt = 1 from rfl]; omega
  unfold m_X6_itemAt
  rw [q_find hs e hz, ob_s, if_pos hc, if_pos rfl]
  simp only [zA]
  rw [ard_4 hs, ob_s, al_5 hs (by omega), ob_s]
/-- whether items tell an order -/
def toF (I : Nat → Int32) (ns : Nat) : Nat → Nat → Int32 → Bool
  | 0, _, _ => true
  | n + 1, k, sn => if (0 ≤ (I k).toInt ∧ (I k).toInt < ns) ∧ ¬ ((sn >>> (I k &&& 31)) &&& 1) = 1 then toF I ns n (k + 1) (sn ||| (1 <<< (I k &&& 31))) else false
theorem toF_ok {I : Nat → Int32} {ns : Nat} : ∀ (n k : Nat) (sn : Int32), toF I ns n k sn = true → ∀ j, k ≤ j → j < k + n → ∃ s, s < ns ∧ I j = nI s
  | 0, k, sn, _, j, h1, h2 => by omega
  | n + 1, k, sn, h, j, h1, h2 => by
    rw [toF] at h
    by_cases hc : (0 ≤ (I k).toInt ∧ (I k).toInt < ns) ∧ ¬ ((sn >>> (I k &&& 31)) &&& 1) = 1
    · rw [if_pos hc] at h
      by_cases hj : j = k
      · subst hj
        exact nI_ex hc.1.1 hc.1.2
      · exact toF_ok n (k + 1) _ h j (by omega) (by omega)
    · rw [if_neg hc] at h
      exact absurd h (by decide)
theorem q_tells {μ : MT} {s z i ns : Nat} (hs : s < 8) (e : μ 3 s = nI z) (hz : z ≤ 40) (hi : i + ns ≤ z) (hns : ns ≤ 6) : m_X6_tellsOrder Zc 1 (nI s) (nI i) (nI ns) μ = some (bI (toF (fun k => μ (5 + s) (i + k)) ns ns 0 0 = true)) := by
  unfold m_X6_tellsOrder
  apply ok_eq
  refine ok_l (fun m q => ∃ k sn, k + m = ns ∧ q = (sn, nI k) ∧ toF (fun k => μ (5 + s) (i + k)) ns m k sn = toF (fun k => μ (5 + s) (i + k)) ns ns 0 0) ns (by omega) ⟨0, 0, by omega, rfl, rfl⟩ ?_
  rintro m q ⟨k, sn, hk, rfl, ht⟩
  cases m with
  | zero =>
    have : k = ns := by omega
    subst this
    simp (disch := omega) only [x_le, Nat.le_refl, if_true]
    refine ok_s (Or.inl ⟨_, rfl, ok_s ?_⟩)
    rw [← ht]
    exact (bI_t rfl).symm
  | succ m =>
    simp (disch := omega) only [x_le, show ¬ ns ≤ k by omega, if_false, x_a]
    rw [q_item hs e hz (by omega), ob_s]
    rw [toF] at ht
    generalize μ (5 + s) (i + k) = v at ht ⊢
    by_cases h1 : v < 0
    · rw [if_pos h1]
      rw [fa_lt, show (0 : Int32).toInt = 0 from rfl] at h1
      rw [if_neg (fun hq => by omega)] at ht
      exact ok_s (Or.inl ⟨_, rfl, ok_s (by rw [← ht, bI_f (by decide)])⟩)
    · rw [if_neg h1]
      rw [fa_lt, show (0 : Int32).toInt = 0 from rfl] at h1
      by_cases h2 : nI ns ≤ v
      · rw [if_pos h2]
        rw [fa_le, ti_n (by omega)] at h2
        rw [if_neg (fun hq => by omega)] at ht
        exact ok_s (Or.inl ⟨_, rfl, ok_s (by rw [← ht, bI_f (by decide)])⟩)
      · rw [if_neg h2]
        rw [fa_le, ti_n (by omega)] at h2
        by_cases h3 : ((sn >>> (v &&& 31)) &&& 1) = 1
        · rw [if_pos h3]
          rw [if_neg (fun hq => hq.2 h3)] at ht
          exact ok_s (Or.inl ⟨_, rfl, ok_s (by rw [← ht, bI_f (by decide)])⟩)
        · rw [if_neg h3]
          rw [if_pos ⟨by omega, h3⟩] at ht
          simp only [ob_s, n1]
          exact ok_s (Or.inr ⟨_, m, rfl, by omega, k + 1, _, by omega, rfl, ht⟩)
theorem op_run {ν : MT} (h : Inv ν) (a0 a1 : Int32) : OkI Inv (m_X8_run Zc 127 0 a0 a1 ν) (fun μ => m_X9_run Zc 106 a0 a1 μ) := by
  obtain ⟨p, d, nc, ns, na, nb, h⟩ := h
  obtain ⟨c1, c2, c3, ⟨hp, hd, hpd, e11, e12⟩, c5, c6, c7, c8, c9, c10, c11, c12, c13⟩ := id h
  obtain ⟨hnc, hns, hna, hnb⟩ := pl_bd c5
  have hpl2 := isPl_le hp
  have e0 := c5.1.1
  have e1 := c5.1.2.1
  have hz4 := c5.2.1
  by_cases hs : 0 ≤ a0.toInt ∧ a0.toInt < 8
  case neg =>
    refine okI_of (a := -1000001) (P := fun μ => μ = ν) ?_ ?_
    · unfold m_X8_run
      simp only [zA]
      rw [q_hasN, ob_s, bI_f hs, if_pos rfl]
      exact ok_s ⟨rfl, rfl⟩
    · rintro μ rfl
      unfold m_X9_run
      rw [ob_s, q_isSh, ob_s, bI_f hs, if_pos rfl]
      exact ok_s ⟨rfl, p, d, nc, ns, na, nb, c_x h (FrX.refl μ).w0⟩
  obtain ⟨s, hs1, rfl⟩ := nI_ex (n := 8) hs.1 hs.2
  by_cases hz : nc = 0
  · refine okI_of (a := -1000002) (P := fun μ => μ = ν) ?_ ?_
    · unfold m_X8_run
      simp only [zA]
      rw [q_hasN, ob_s, bI_t hs, if_neg (by decide), e11, mrd_p hp, ob_s, q_none e0 (by omega), ob_s, bI_t hz, if_neg (by decide)]
      exact ok_s ⟨rfl, rfl⟩
    · rintro μ rfl
      have m5 : u2 μ 106 0 0 106 5 = nI nc := c6.1
      unfold m_X9_run
      rw [ob_s, q_isSh, ob_s, bI_t hs, if_neg (by decide), m5, if_pos (by rw [hz]; rfl)]
      exact ok_s ⟨rfl, p, d, nc, ns, na, nb, c_x h (FrX.refl μ).w0⟩
  have hz' : ¬ nI nc = 0 := by rw [x_eql (by omega) (by omega)]; exact hz
  rcases c1.1 s hs1 with ⟨q1, q2⟩ | ⟨z, l, hzl, hl, q1, q2, q3, q4⟩
  · refine okI_of (a := -1000010 - 1) (P := fun μ => μ = u2 ν 0 15 1) ?_ ?_
    · unfold m_X8_run m_X8_found
      simp only [zA]
      rw [q_hasN, ob_s, bI_t hs, if_neg (by decide), e11, mrd_p hp, ob_s, q_none e0 (by omega), ob_s, bI_f hz, if_pos rfl, ob_s, q_find1 hs1 q1, ob_s, if_neg (by decide), ob_s, ob_s]
      exact ok_s ⟨rfl, rfl⟩
    · rintro μ rfl
      have m5 : u2 (u2 ν 0 15 1) 106 0 0 106 5 = nI nc := c6.1
      have m107 : u2 (u2 ν 0 15 1) 106 0 0 107 = ν 107 := rfl
      unfold m_X9_run m_X9_finding
      rw [ob_s, q_isSh, ob_s, bI_t hs, if_neg (by decide), m5, if_neg hz']
      simp only [zA]
      rw [al_107 hs1, ob_s, m107, q2, if_neg (by decide), ob_s, ob_s]
      exact ok_s ⟨rfl, p, d, nc, ns, na, nb, c_s2 h 1⟩
  have fnd : m_X6_findingAt Zc 1 (nI s) a1 (nI ns) ν = some (if 0 ≤ a1.toInt ∧ a1.toInt + ns ≤ z then 0 else 2) := by
    rw [q_find hs1 q1 hzl, ti_n (by omega)]
    by_cases hc : 0 ≤ a1.toInt ∧ a1.toInt + ns ≤ z
    · rw [if_pos hc, if_pos (by omega)]
    · rw [if_neg hc, if_neg (by omega)]
  by_cases hpc : 0 ≤ a1.toInt ∧ a1.toInt + ns ≤ z
  case neg =>
    refine okI_of (a := -1000010 - 2) (P := fun μ => μ = u2 ν 0 15 2) ?_ ?_
    · unfold m_X8_run m_X8_found
      simp only [zA]
      rw [q_hasN, ob_s, bI_t hs, if_neg (by decide), e11, mrd_p hp, ob_s, q_none e0 (by omega), ob_s, bI_f hz, if_pos rfl, ob_s, e1, fnd, ob_s, if_neg hpc, if_neg (by decide), ob_s, ob_s]
      exact ok_s ⟨rfl, rfl⟩
    · rintro μ rfl
      have m5 : u2 (u2 ν 0 15 2) 106 0 0 106 5 = nI nc := c6.1
      have m6 : u2 (u2 ν 0 15 2) 106 0 0 106 6 = nI ns := c6.2.1
      have m107 : u2 (u2 ν 0 15 2) 106 0 0 107 = ν 107 := rfl
      have m108 : u2 (u2 ν 0 15 2) 106 0 0 108 = ν 108 := rfl
      unfold m_X9_run m_X9_finding
      rw [ob_s, q_isSh, ob_s, bI_t hs, if_neg (by decide), m5, if_neg hz']
      simp only [zA]
      rw [al_107 hs1, ob_s, m107, q4, if_pos (by rw [x_lle (by omega) (by omega)]; omega)]
      refine ok_b (R1 := fun q => q = Sum.inr (u2 (u2 ν 0 15 2) 106 0 0)) ?_ ?_
      · by_cases h1 : a1 < 0
        · rw [if_pos h1]
          exact ok_s rfl
        · rw [if_neg h1, al_108 hs1, ob_s, m108, q2, m6]
          rw [fa_lt, show (0 : Int32).toInt = 0 from rfl] at h1
          rw [if_neg (by rw [lg_cmp_le, fa_le64, lg_i2l_add, Int32.toInt_toInt64, ti_n (by omega), ti_n (by omega)]; omega)]
          exact ok_s rfl
      · rintro q rfl
        exact ok_s ⟨rfl, p, d, nc, ns, na, nb, c_s2 h 2⟩
  obtain ⟨i, hi, rfl⟩ := nI_ex (n := 41) hpc.1 (by omega)
  rw [ti_n (by omega)] at hpc
  have hti := q_tells (μ := ν) (i := i) (ns := ns) hs1 q1 hzl (by omega) hns
  have hI : ∀ k, k < ns → ν 109 (40 * s + (i + k)) = ν (5 + s) (i + k) := fun k hk => (c1.2 s (i + k) hs1 (by omega)).symm
  generalize hIe : (fun k => ν (5 + s) (i + k)) = I at hti
  have hI2 : ∀ k, k < ns → ν 109 (40 * s + i + k) = I k := fun k hk => by rw [← hIe, Nat.add_assoc]; exact hI k hk
  have hI3 : ∀ k, ν (5 + s) (i + k) = I k := fun k => by rw [← hIe]
  have ri : ((0 : Int) ≤ (nI i).toInt ∧ (nI i).toInt + ns ≤ z) := by rw [ti_n (by omega)]; omega
  by_cases hto : toF I ns ns 0 0 = true
  case neg =>
    refine okI_of (a := -1000001) (P := fun μ => μ = ν) ?_ ?_
    · unfold m_X8_run
      simp only [zA]
      rw [q_hasN, ob_s, bI_t hs, if_neg (by decide), e11, mrd_p hp, ob_s, q_none e0 (by omega), ob_s, bI_f hz, if_pos rfl, ob_s, e1, fnd, ob_s, if_pos ri, if_pos rfl, ob_s, e1, hti, ob_s, bI_f hto, if_pos rfl]
      exact ok_s ⟨rfl, rfl⟩
    · rintro μ rfl
      have m5 : u2 μ 106 0 0 106 5 = nI nc := c6.1
      have m6 : u2 μ 106 0 0 106 6 = nI ns := c6.2.1
      have m107 : u2 μ 106 0 0 107 = μ 107 := rfl
      have m108 : u2 μ 106 0 0 108 = μ 108 := rfl
      have m109 : u2 μ 106 0 0 109 = μ 109 := rfl
      unfold m_X9_run
      rw [ob_s, q_isSh, ob_s, bI_t hs, if_neg (by decide), m5, if_neg hz']
      simp only [zA]
      rw [al_107 hs1, ob_s, m107, q4, if_pos (by rw [x_lle (by omega) (by omega)]; omega), if_neg (by rw [x_ltl (by omega) (by omega)]; omega), al_108 hs1, ob_s, m108, q2, m6, if_pos (by rw [lg_cmp_le, fa_le64, lg_i2l_add, Int32.toInt_toInt64, ti_n (by omega), ti_n (by omega), ti_n (by omega)]; omega)]
      refine ok_b (R1 := fun q => q = Sum.inl (-1000001, u2 μ 106 0 0)) ?_ ?_
      · refine ok_l (fun m q => ∃ k sn, k + m = ns ∧ q = (sn, nI k) ∧ toF I ns m k sn = toF I ns ns 0 0) ns (by omega) ⟨0, 0, by omega, rfl, rfl⟩ ?_
        rintro m q ⟨k, sn, hk, rfl, ht⟩
        cases m with
        | zero => exact absurd ht.symm hto
        | succ m =>
          simp (disch := omega) only [x_le, show ¬ ns ≤ k by omega, if_false, x_lm, x_a]
          rw [al_109 (by omega), ob_s, m109, hI2 k (by omega), q_in0 (by omega), ob_s]
          rw [toF] at ht
          by_cases h1 : 0 ≤ (I k).toInt ∧ (I k).toInt < ns
          · rw [bI_t h1, if_neg (by decide)]
            by_cases h3 : ((sn >>> (I k &&& 31)) &&& 1) = 1
            · rw [if_pos h3]
              exact ok_s (Or.inl ⟨_, rfl, ok_s rfl⟩)
            · rw [if_neg h3]
              rw [if_pos ⟨h1, h3⟩] at ht
              simp only [ob_s, n1]
              exact ok_s (Or.inr ⟨_, m, rfl, by omega, k + 1, _, by omega, rfl, ht⟩)
          · rw [bI_f h1, if_pos rfl]
            exact ok_s (Or.inl ⟨_, rfl, ok_s rfl⟩)
      · rintro q rfl
        exact ok_s ⟨rfl, p, d, nc, ns, na, nb, c_x h (FrX.refl μ).w0⟩
  have hIo : ∀ k, k < ns → ∃ t, t < ns ∧ I k = nI t := fun k hk => toF_ok ns 0 0 hto k (by omega) (by omega)
  refine okI_of (a := offA nc (goA nc ns na (ν 110) (ν 117) I (-1000000)).1) (P := fun μ => PIs μ 19 nc (goA nc ns na (ν 110) (ν 117) I (-1000000)) ∧ (∀ k, k ≠ 0 → k ≠ 17 → k < 19 ∨ 25 < k → μ k = ν k) ∧ (∀ j, j ≠ 13 → j ≠ 15 → μ 0 j = ν 0 j) ∧ μ 0 13 = 1 ∧ μ 0 15 = 0 ∧ (∀ k, k < ns → μ 17 k = I k)) ?_ ?_
  · unfold m_X8_run
    simp only [zA]
    rw [q_hasN, ob_s, bI_t hs, if_neg (by decide), e11, mrd_p hp, ob_s, q_none e0 (by omega), ob_s, bI_f hz, if_pos rfl, ob_s, e1, fnd, ob_s, if_pos ri, if_pos rfl, ob_s, e1, hti, ob_s, bI_t hto, if_neg (by decide)]
    refine ok_for (fun k μ => (∀ q, q ≠ 17 → μ q = ν q) ∧ ∀ q, q < k → μ 17 q = I q) 0 ns (by omega) (by omega) rfl ⟨fun _ _ => rfl, fun q hq => by omega⟩ ?_ ?_
    · rintro k μ _ hk ⟨g1, g2⟩
      have f11 : μ 0 11 = nI p := by rw [g1 0 (by omega)]; exact e11
      have f1 : μ p 1 = nI ns := by rw [g1 p (by omega)]; exact e1
      simp only [f11, mrd_p hp, ob_s, f1]
      rw [if_neg (by rw [x_le (by omega) (by omega)]; omega), x_a, q_item hs1 (by rw [g1 3 (by omega)]; exact q1) hzl (by omega), ob_s, as_17 (by omega), ob_s, n1, g1 (5 + s) (by omega), hI3]
      refine ok_s (Or.inl ⟨_, rfl, fun q hq => ?_, fun q hq => ?_⟩)
      · rw [u2_w, if_neg hq]; exact g1 q hq
      · rw [u2_r]
        by_cases hqk : q = k
        · rw [if_pos ⟨rfl, hqk⟩, hqk]
        · rw [if_neg (by omega)]; exact g2 q (by omega)
    · rintro ν1 ⟨g, g17⟩
      have f11 : ν1 0 11 = nI p := by rw [g 0 (by omega)]; exact e11
      have f1 : ν1 p 1 = nI ns := by rw [g p (by omega)]; exact e1
      simp only [f11, mrd_p hp, ob_s, f1]
      rw [if_pos (by rw [x_le (by omega) (by omega)]; omega)]
      refine ok_s ⟨_, rfl, ?_⟩
      have hst := p_stands (μ := ν1) (nc := nc) (ns := ns) (na := na) (nb := nb) hp f11 (by
        unfold PlIs
        rw [g p (by omega), g (p + 1) (by omega), g (p + 2) (by omega), g (p + 3) (by omega), g (p + 4) (by omega), g (p + 5) (by omega), g (p + 6) (by omega), g 110 (by omega), g 111 (by omega), g 112 (by omega)]
        exact c5) (by omega) (fun j hj => by rw [g17 j hj]; exact hIo j hj) (by rw [g 16 (by omega)]; exact fun c hc => by rw [(c7 c hc).1]; exact (c7 c hc).2)
      have hX : goA nc ns na (ν1 110) (ν1 16) (ν1 17) (-1) = goA nc ns na (ν 110) (ν 117) I (-1000000) := by
        rw [g 110 (by omega), g 16 (by omega)]
        refine goA_c (fun c hc => (c7 c hc).1) g17 (fun k hk => ?_)
        obtain ⟨t, ht, hk2⟩ := hIo k hk
        rw [g17 k hk, hk2]
        exact ⟨fun q => absurd q (m1n (by omega)), fun q => absurd q (mNn (by omega))⟩
      rw [hX] at hst
      refine ok_b hst ?_
      rintro ⟨r, ν2⟩ ⟨h1, h2, h3⟩
      simp only at h1 h2 h3
      unfold m_X8_fine
      simp only [ob_s]
      have k2 : ∀ k, k ≠ 0 → k ≠ 17 → k < 19 ∨ 25 < k → u2 ν2 0 15 0 k = ν k := fun k a b c => by rw [u2_w, if_neg a, h3 k (by omega), u2_w, if_neg a, g k b]
      refine ok_s ⟨h1, ?_, k2, fun j hj hj2 => ?_, ?_, ?_, fun k hk => ?_⟩
      · exact h2
      · show u2 ν2 0 15 0 0 j = ν 0 j
        rw [u2_r, if_neg (by omega), h3 0 (by omega), u2_r, if_neg (by omega), g 0 (by omega)]
      · show u2 ν2 0 15 0 0 13 = 1
        rw [u2_r, if_neg (by omega), h3 0 (by omega)]; simp [u2_r]
      · show u2 ν2 0 15 0 0 15 = 0
        simp [u2_r]
      · show u2 ν2 0 15 0 17 k = I k
        rw [u2_r, if_neg (by omega), h3 17 (by omega), u2_w, if_neg (by omega)]; exact g17 k hk
  · rintro μ ⟨f1, f2, f3, f4, f4b, f5⟩
    have m106 : μ 106 = ν 106 := f2 106 (by omega) (by omega) (by omega)
    have m5 : u2 μ 106 0 0 106 5 = nI nc := by rw [u2_r, if_neg (by omega), m106]; exact c6.1
    have m6 : u2 μ 106 0 0 106 6 = nI ns := by rw [u2_r, if_neg (by omega), m106]; exact c6.2.1
    have m107 : u2 μ 106 0 0 107 = ν 107 := by rw [u2_w, if_neg (by omega)]; exact f2 107 (by omega) (by omega) (by omega)
    have m108 : u2 μ 106 0 0 108 = ν 108 := by rw [u2_w, if_neg (by omega)]; exact f2 108 (by omega) (by omega) (by omega)
    have m109 : u2 μ 106 0 0 109 = ν 109 := by rw [u2_w, if_neg (by omega)]; exact f2 109 (by omega) (by omega) (by omega)
    unfold m_X9_run
    rw [ob_s, q_isSh, ob_s, bI_t hs, if_neg (by decide), m5, if_neg hz']
    simp only [zA]
    rw [al_107 hs1, ob_s, m107, q4, if_pos (by rw [x_lle (by omega) (by omega)]; omega), if_neg (by rw [x_ltl (by omega) (by omega)]; omega), al_108 hs1, ob_s, m108, q2, m6, if_pos (by rw [lg_cmp_le, fa_le64, lg_i2l_add, Int32.toInt_toInt64, ti_n (by omega), ti_n (by omega), ti_n (by omega)]; omega)]
    refine ok_b (R1 := fun q => ∃ ν', q = Sum.inl (offA nc (goA nc ns na (ν 110) (ν 117) I (-1000000)).1, ν') ∧ Inv ν') ?_ ?_
    · refine ok_l (fun m q => ∃ k sn, k + m = ns ∧ q = (sn, nI k) ∧ toF I ns m k sn = toF I ns ns 0 0) ns (by omega) ⟨0, 0, by omega, rfl, rfl⟩ ?_
      rintro m q ⟨k, sn, hk, rfl, ht⟩
      cases m with
      | zero =>
        have : k = ns := by omega
        subst this
        simp (disch := omega) only [x_le, Nat.le_refl, if_true]
        refine ok_s (Or.inl ⟨_, rfl, ?_⟩)
        simp only [jn, ob_s]
        refine ok_for (fun j ξ => (∀ q, q ≠ 106 → q ≠ 124 → ξ q = μ q) ∧ (∀ q, q ≠ 0 → q ≠ 1 → ξ 106 q = ν 106 q) ∧ ξ 106 1 = 0 ∧ ∀ q, q < j → ξ 124 q = if q < k then I q else nI q) 0 6 (by omega) (by omega) rfl ⟨fun q a b => ?_, fun q a b => ?_, ?_, fun q hq => by omega⟩ ?_ ?_
        · rw [u2_w, if_neg a, u2_w, if_neg a]
        · rw [u2_r, if_neg (by omega), u2_r, if_neg (by omega), m106]
        · simp [u2_r]
        · rintro j ξ _ hj ⟨g1, g2, g3, g4⟩
          have x6 : ξ 106 6 = nI k := by rw [g2 6 (by omega) (by omega)]; exact c6.2.1
          have x109 : ξ 109 = ν 109 := by rw [g1 109 (by omega) (by omega)]; exact f2 109 (by omega) (by omega) (by omega)
          have hz3 : (if nI k ≤ nI j then some (nI j) else (ald Zc ξ 109 (nI (40 * s) + nI i + nI j)).bind fun x39 => some x39) = some (if j < k then I j else nI j) := by
            simp (disch := omega) only [x_le, x_a]
            by_cases hjk : j < k
            · rw [if_neg (by omega), if_pos hjk, al_109 (by omega), ob_s, x109, hI2 j hjk]
            · rw [if_pos (by omega), if_neg hjk]
          simp (disch := omega) only [x_lle, show ¬ 6 ≤ j by omega, if_false, x6, x_lm]
          rw [hz3, ob_s, as_124 (by omega), ob_s, n1]
          refine ok_s (Or.inl ⟨_, rfl, fun q a b => ?_, fun q a b => ?_, ?_, fun q hq => ?_⟩)
          · rw [u2_w, if_neg b]; exact g1 q a b
          · rw [u2_r, if_neg (by omega)]; exact g2 q a b
          · rw [u2_r, if_neg (by omega)]; exact g3
          · rw [u2_r]
            by_cases hqj : q = j
            · rw [if_pos ⟨rfl, hqj⟩, hqj]
            · rw [if_neg (by omega)]; exact g4 q (by omega)
        · rintro μ1 ⟨g, g6, g7, g124⟩
          simp (disch := omega) only [x_lle, Nat.le_refl, if_true]
          refine ok_s ⟨_, rfl, ?_⟩
          have g110 : μ1 110 = ν 110 := by rw [g 110 (by omega) (by omega), f2 110 (by omega) (by omega) (by omega)]
          have g117 : μ1 117 = ν 117 := by rw [g 117 (by omega) (by omega), f2 117 (by omega) (by omega) (by omega)]
          have h124 : ∀ q, q < k → μ1 124 q = I q := fun q hq => by rw [g124 q (by omega), if_pos hq]
          have hX2 : goA nc k na (μ1 110) (μ1 117) (μ1 124) (-1000000) = goA nc k na (ν 110) (ν 117) I (-1000000) := by
            rw [g110, g117]
            refine goA_c (fun c _ => rfl) h124 (fun q hq => ?_)
            rw [h124 q hq]
          refine r_runs (nc := nc) (ns := k) (na := na) (by rw [g6 5 (by omega) (by omega)]; exact c6.1) (by rw [g6 6 (by omega) (by omega)]; exact c6.2.1) (by rw [g6 7 (by omega) (by omega)]; exact c6.2.2.1) (by omega) hnc hns hna (by rw [g110]; exact pl_act c5) (by rw [g117]; exact fun c hc => (c7 c hc).2) ?_
          rw [hX2]
          intro ν3 r1 r2 r3 r4 r5 r6
          refine ok_s ⟨_, rfl, p, d, nc, k, na, nb, ?_⟩
          have hk : ∀ q, q ≠ 0 → q ≠ 17 → q ≠ 106 → q < 19 ∨ (25 < q ∧ q < 118) ∨ 125 < q → ν3 q = ν q := fun q a b c e => by rw [r5 q c (by omega), g q c (by omega), f2 q a b (by omega)]
          have h0 : ν3 0 = μ 0 := by rw [r5 0 (by omega) (by omega), g 0 (by omega) (by omega)]
          have hj : ∀ j, j ≠ 0 → j ≠ 1 → j ≠ 31 → j ≠ 35 → j ≠ 37 → ν3 106 j = ν 106 j := fun j a a1 b c e => by rw [r6 j b c e, g6 j a a1]
          refine c_gen h ?_ ?_ ?_ ?_ (Or.inr fun q hq => ?_) (Or.inr ⟨goA nc k na (ν 110) (ν 117) I (-1000000), ?_, ?_, Or.inl ⟨?_, r1, r2, r3⟩⟩) (Or.inl ⟨?_, ?_⟩) (Or.inl ⟨?_, ?_⟩)
          · rw [h0, f4b, r6 1 (by omega) (by omega) (by omega), g7]
          · intro j hjj
            rw [h0, f3 j (by omega) (by omega)]
          · intro j hjj
            exact hj j (by omega) (by omega) (by omega) (by omega) (by omega)
          · intro q hkk
            exact hk q (by omega) (by omega) (by omega) (by omega)
          · obtain ⟨t, ht1, ht2⟩ := hIo q hq
            refine ⟨t, ht1, ?_, ?_⟩
            · rw [r5 17 (by omega) (by omega), g 17 (by omega) (by omega), f5 q hq, ht2]
            · rw [r4 q (by omega), h124 q hq, ht2]
          · have hq : ∀ q, 19 ≤ q → q < 26 → ν3 q = μ q := fun q a b => by rw [r5 q (by omega) (by omega), g q (by omega) (by omega)]
            show PRel nc (ν3 19) (ν3 20) (ν3 21) (ν3 22) (ν3 23) (ν3 24) (ν3 25) _
            rw [hq 19 (by omega) (by omega), hq 20 (by omega) (by omega), hq 21 (by omega) (by omega), hq 22 (by omega) (by omega), hq 23 (by omega) (by omega), hq 24 (by omega) (by omega), hq 25 (by omega) (by omega)]
            exact f1
          · exact bd_go hnc hns hna (pl_act c5) (fun c hc => (c7 c hc).2)
          · rw [h0]; exact f4
          · intro j a b
            rw [hk 33 (by omega) (by omega) (by omega) (by omega)]
          · exact hk 36 (by omega) (by omega) (by omega) (by omega)
          · rw [hk 87 (by omega) (by omega) (by omega) (by omega)]
          · exact hk 88 (by omega) (by omega) (by omega) (by omega)
      | succ m =>
        simp (disch := omega) only [x_le, show ¬ ns ≤ k by omega, if_false, x_lm, x_a]
        rw [al_109 (by omega), ob_s, m109, hI2 k (by omega), q_in0 (by omega), ob_s]
        rw [toF] at ht
        by_cases h1 : 0 ≤ (I k).toInt ∧ (I k).toInt < ns
        · rw [bI_t h1, if_neg (by decide)]
          by_cases h3 : ((sn >>> (I k &&& 31)) &&& 1) = 1
          · rw [if_neg (fun hq => hq.2 h3), hto] at ht
            exact absurd ht (by decide)
          · rw [if_neg h3]
            rw [if_pos ⟨h1, h3⟩] at ht
            simp only [ob_s, n1]
            exact ok_s (Or.inr ⟨_, m, rfl, by omega, k + 1, _, by omega, rfl, ht⟩)
        · rw [if_neg (fun hq => h1 hq.1), hto] at ht
          exact absurd ht (by decide)
    · rintro q ⟨ν', rfl, hν⟩
      exact ok_s ⟨rfl, hν⟩
end
section
/-! ===== gives ===== -/
theorem op_gives {ν : MT} (h : Inv ν) (a0 : Int32) : OkI Inv (m_X8_gives Zc 127 0 a0 ν) (fun μ => m_X9_gives Zc 106 a0 μ) := by
  obtain ⟨p, d, nc, ns, na, nb, h⟩ := h
  obtain ⟨c1, c2, c3, ⟨hp, hd, hpd, e11, e12⟩, c5, c6, c7, c8, c9, c10, c11, c12, c13⟩ := id h
  obtain ⟨hnc, hns, hna, hnb⟩ := pl_bd c5
  have hpl2 := isPl_le hp
  have e0 := c5.1.1
  have e1 := c5.1.2.1
  have hz4 := c5.2.1
  by_cases hs : 0 ≤ a0.toInt ∧ a0.toInt < ns
  case neg =>
    refine okI_of (a := -1000001) (P := fun μ => μ = ν) ?_ ?_
    · unfold m_X8_gives
      rw [e11, mrd_p hp, ob_s, q_hasSeam e1 (by omega), ob_s, bI_f hs, if_pos rfl]
      exact ok_s ⟨rfl, rfl⟩
    · rintro μ rfl
      have m6 : u2 μ 106 0 0 106 6 = nI ns := c6.2.1
      unfold m_X9_gives
      rw [ob_s, m6, q_in0 (by omega), ob_s, bI_f hs, if_pos rfl]
      exact ok_s ⟨rfl, p, d, nc, ns, na, nb, c_x h (FrX.refl μ).w0⟩
  have hc4 : 4 ≤ nc := by omega
  have hX1 : ∀ wo wo' : Int32, (∀ k, k < ns → (ν 17 k = wo ↔ ν 118 k = wo')) → goA nc ns na (ν 110) (ν 16) (ν 17) wo = goA nc ns na (ν 110) (ν 117) (ν 118) wo' := fun wo wo' hw => by
    refine goA_c (fun c hc => (c7 c hc).1) (fun k hk => ?_) hw
    obtain ⟨t, ht, q1, q2⟩ := c8 k hk
    rw [q1, q2]
  have hA := hX1 (-1) (-1000000) (fun k hk => by
    obtain ⟨t, ht, q1, q2⟩ := c8 k hk
    rw [q1, q2]
    exact ⟨fun q => absurd q (m1n (by omega)), fun q => absurd q (mNn (by omega))⟩)
  have hB := hX1 a0 a0 (fun k hk => by
    obtain ⟨t, ht, q1, q2⟩ := c8 k hk
    rw [q1, q2])
  have hO : ∀ j, j < ns → ∃ s, s < ns ∧ ν 17 j = nI s := fun j hj => by
    obtain ⟨t, ht, q1, q2⟩ := c8 j hj
    exact ⟨t, ht, q1⟩
  have h16 : ∀ c, c < 12 → -40 ≤ (ν 16 c).toInt ∧ (ν 16 c).toInt ≤ 40 := fun c hc => by rw [(c7 c hc).1]; exact (c7 c hc).2
  refine okI_of (a := offA nc (goA nc ns na (ν 110) (ν 117) (ν 118) (-1000000)).1 - offA nc (goA nc ns na (ν 110) (ν 117) (ν 118) a0).1) (P := fun μ => FrP 26 ν μ) ?_ ?_
  · unfold m_X8_gives
    rw [e11, mrd_p hp, ob_s, q_hasSeam e1 (by omega), ob_s, bI_t hs, if_neg (by decide), ob_s]
    simp only [zA]
    have g1 := p_go (μ := ν) (b := 26) (p := p) (k := 16) (o := 17) (wo := -1) pn26 hp c5 (by simp only [zA]) (by omega) (by simp only [zA]) (by omega) hO h16
    rw [hA] at g1
    refine ok_b g1 ?_
    rintro ν1 ⟨k1, k2⟩
    have g2 := p_go (μ := ν1) (b := 26) (p := p) (k := 16) (o := 17) (wo := a0) pn26 hp (pl_fr pn26 hp k2 c5) (by simp only [zA]) (by omega) (by simp only [zA]) (by omega) (by rw [k2 17 (by omega)]; exact hO) (by rw [k2 16 (by omega)]; exact h16)
    rw [k2 110 (by omega), k2 16 (by omega), k2 17 (by omega), hB] at g2
    rw [p_off pn26 k1.1 (fun c hc => (k1.2.2.2 c hc).2.1) hc4 hnc, ob_s, show ν1 0 11 = nI p by rw [k2 0 (by omega)]; exact e11, mrd_p hp, ob_s]
    refine ok_b g2 ?_
    rintro ν2 ⟨k3, k4⟩
    rw [p_off pn26 k3.1 (fun c hc => (k3.2.2.2 c hc).2.1) hc4 hnc, ob_s]
    exact ok_s ⟨rfl, k2.trans k4⟩
  · rintro μ f
    have m106 : μ 106 = ν 106 := f 106 (by omega)
    have m6 : u2 μ 106 0 0 106 6 = nI ns := by rw [u2_r, if_neg (by omega), m106]; exact c6.2.1
    have hcore : Core μ p d nc ns na nb := by
      refine c_gen h ?_ ?_ ?_ ?_ (Or.inl ⟨?_, ?_⟩) (Or.inl ⟨?_, ?_, ?_, ?_, ?_⟩) (Or.inl ⟨?_, ?_⟩) (Or.inl ⟨?_, ?_⟩)
      · rw [f 0 (by omega), m106]; exact c2.1
      · intro j _; rw [f 0 (by omega)]
      · intro j _; rw [m106]
      · intro k hk; exact f k (by omega)
      · exact f 17 (by omega)
      · exact f 118 (by omega)
      · rw [f 0 (by omega)]
      · rw [m106]
      · rw [m106]
      · exact f 122 (by omega)
      · intro k a b; exact f k (by omega)
      · intro j _ _; rw [f 33 (by omega)]
      · exact f 36 (by omega)
      · rw [f 87 (by omega)]
      · exact f 88 (by omega)
    have m117 : μ 117 = ν 117 := f 117 (by omega)
    have m118 : μ 118 = ν 118 := f 118 (by omega)
    have m110 : μ 110 = ν 110 := f 110 (by omega)
    unfold m_X9_gives
    rw [ob_s, m6, q_in0 (by omega), ob_s, bI_t hs, if_neg (by decide)]
    simp only [zA]
    refine ok_for (fun j ξ => FrX μ ξ ∧ ∀ q, q < j → ξ 124 q = ν 118 q) 0 6 (by omega) (by omega) rfl ⟨(FrX.refl μ).w0, fun q hq => by omega⟩ ?_ ?_
    · rintro j ξ _ hj ⟨g1, g2⟩
      simp (disch := omega) only [x_lle, show ¬ 6 ≤ j by omega, if_false]
      rw [al_118 (by omega), ob_s, as_124 (by omega), ob_s, n1, ob_s, g1.1 118 (by omega) (by omega), m118]
      refine ok_s (Or.inl ⟨_, rfl, g1.w (by omega), fun q hq => ?_⟩)
      rw [u2_r]
      by_cases hqj : q = j
      · rw [if_pos ⟨rfl, hqj⟩, hqj]
      · rw [if_neg (by omega)]; exact g2 q (by omega)
    · rintro ξ ⟨g1, g2⟩
      simp (disch := omega) only [x_lle, Nat.le_refl, if_true]
      refine ok_s ⟨_, rfl, ?_⟩
      rw [r_layO, ob_s]
      have f2 : FrX μ (u1 ξ 123 (fun c => if c < 12 then ξ 117 c else ξ 123 c)) := g1.w1 (by omega)
      have g123 : ∀ c, c < 12 → u1 ξ 123 (fun c => if c < 12 then ξ 117 c else ξ 123 c) 123 c = ν 117 c := fun c hc => by rw [u1_r, if_pos rfl, if_pos hc, g1.1 117 (by omega) (by omega), m117]
      have g124 : ∀ q, q < 6 → u1 ξ 123 (fun c => if c < 12 then ξ 117 c else ξ 123 c) 124 q = ν 118 q := fun q hq => by rw [u1_w, if_neg (by omega)]; exact g2 q hq
      generalize u1 ξ 123 (fun c => if c < 12 then ξ 117 c else ξ 123 c) = ξ1 at f2 g123 g124 ⊢
      have x6 : ∀ j, j ≠ 0 → j ≠ 35 → ξ1 106 j = ν 106 j := fun j a b => by rw [f2.2 j a b, m106]
      have x110 : ξ1 110 = ν 110 := by rw [f2.1 110 (by omega) (by omega), m110]
      have hgx : ∀ wo : Int32, goA nc ns na (ν 110) (ξ1 123) (ξ1 124) wo = goA nc ns na (ν 110) (ν 117) (ν 118) wo := fun wo => goA_c g123 (fun k hk => g124 k (by omega)) (fun k hk => by rw [g124 k (by omega)])
      have r1 := r_go (μ := ξ1) (wo := -1000000) (nc := nc) (ns := ns) (na := na) (by rw [x6 5 (by omega) (by omega)]; exact c6.1) (by rw [x6 6 (by omega) (by omega)]; exact c6.2.1) (by rw [x6 7 (by omega) (by omega)]; exact c6.2.2.1) hnc hns hna (by rw [x110]; exact pl_act c5) (fun c hc => by rw [g123 c hc]; exact (c7 c hc).2)
      rw [x110, hgx] at r1
      refine ok_b r1 ?_
      rintro ξ2 ⟨k1, k2⟩
      have y6 : ∀ j, j ≠ 0 → j ≠ 35 → ξ2 106 j = ν 106 j := fun j a b => by rw [k2.2 j b, x6 j a b]
      have y110 : ξ2 110 = ν 110 := by rw [k2.1 110 (by omega) (by omega) (by omega) (by omega), x110]
      have y123 : ξ2 123 = ξ1 123 := k2.1 123 (by omega) (by omega) (by omega) (by omega)
      have y124 : ξ2 124 = ξ1 124 := k2.1 124 (by omega) (by omega) (by omega) (by omega)
      have r2 := r_go (μ := ξ2) (wo := a0) (nc := nc) (ns := ns) (na := na) (by rw [y6 5 (by omega) (by omega)]; exact c6.1) (by rw [y6 6 (by omega) (by omega)]; exact c6.2.1) (by rw [y6 7 (by omega) (by omega)]; exact c6.2.2.1) hnc hns hna (by rw [y110]; exact pl_act c5) (fun c hc => by rw [y123, g123 c hc]; exact (c7 c hc).2)
      rw [y110, y123, y124, hgx] at r2
      rw [r_off (by rw [y6 5 (by omega) (by omega)]; exact c6.1) hc4 hnc, ob_s, offA_c (N' := (goA nc ns na (ν 110) (ν 117) (ν 118) (-1000000)).1) (fun c hc => k1.1 _ (by omega))]
      refine ok_b r2 ?_
      rintro ξ3 ⟨k3, k4⟩
      rw [r_off (by rw [k4.2 5 (by omega), y6 5 (by omega) (by omega)]; exact c6.1) hc4 hnc, ob_s, offA_c (N' := (goA nc ns na (ν 110) (ν 117) (ν 118) a0).1) (fun c hc => k3.1 _ (by omega))]
      exact ok_s ⟨rfl, p, d, nc, ns, na, nb, c_x hcore (f2.trans ((FrX.of k2).trans (FrX.of k4)))⟩
/-! ===== wires ===== -/
def wbF (I : Nat → Int32) (c : Nat) : Int32 := if c = 0 then I (c + 1) - I c else (I (c + 1) - I c) - (I c - I (c - 1))
def stB (I N : Nat → Int32) (k c : Nat) : Bool := (List.range c).all (fun c => decide (wbF I c = nI k * N (24 + c) / 4))
def slF (I N : Nat → Int32) (nc : Nat) : Nat → Nat → Int32
  | 0, _ => -1000000
  | n + 1, k => if stB I N k nc = true then nI k else slF I N nc n (k + 1)
theorem stB_s {I N : Nat → Int32} {k c : Nat} : stB I N k (c + 1) = (stB I N k c && decide (wbF I c = nI k * N (24 + c) / 4)) := by
  unfold stB
  rw [List.range_succ, List.all_append]
  simp
theorem stB_f {I N : Nat → Int32} {k c : Nat} : ∀ n, stB I N k c = false → stB I N k (c + n) = false
  | 0, h => h
  | n + 1, h => by
    rw [show c + (n + 1) = (c + n) + 1 by omega, stB_s, stB_f n h]
    rfl
theorem p_wb {μ : MT} {s z i c : Nat} {I : Nat → Int32} (hs : s < 8) (e : μ 3 s = nI z) (hz : z ≤ 40) (hI : ∀ k, k ≤ c + 1 → μ (5 + s) (i + k) = I k) (hc : i + c + 1 < z) : m_X8_wireBend Zc 0 (nI s) (nI i) (nI c) μ = some (wbF I c) := by
  unfold m_X8_wireBend wbF
  simp only [zA, x_a, x_al]
  rw [q_item hs e hz (by omega), ob_s, q_item hs e hz (by omega), ob_s, ob_s, hI c (by omega), Nat.add_assoc, hI (c + 1) (by omega)]
  by_cases h0 : c = 0
  · rw [if_pos h0, if_pos (by rw [h0]; rfl), Int32.sub_zero]
  · rw [if_neg h0, if_neg (by rw [x_eql (by omega) (by omega)]; exact h0), x_sl (by omega), show i + c - 1 = i + (c - 1) by omega, q_item hs e hz (by omega), ob_s, ob_s, hI (c - 1) (by omega)]
theorem r_bb {μ : MT} {a c : Nat} {I : Nat → Int32} (hI : ∀ k, k ≤ c + 1 → μ 109 (a + k) = I k) (hc : a + c + 1 < 320) : m_X9_bendBy Zc 106 (nI a) (nI c) μ = some (wbF I c) := by
  unfold m_X9_bendBy wbF
  simp only [zA, x_a, x_al]
  rw [al_109 (by omega), ob_s, al_109 (by omega), ob_s, ob_s, ob_s, hI c (by omega), Nat.add_assoc, hI (c + 1) (by omega)]
  by_cases h0 : c = 0
  · rw [if_pos h0, if_pos (by rw [h0]; rfl)]
  · rw [if_neg h0, if_neg (by rw [x_eql (by omega) (by omega)]; exact h0), x_sl (by omega), show a + c - 1 = a + (c - 1) by omega, al_109 (by omega), ob_s, hI (c - 1) (by omega)]
theorem q_all {μ : MT} {s z i n : Nat} {I : Nat → Int32} (hs : s < 8) (e : μ 3 s = nI z) (hz : z ≤ 40) (hI : ∀ k, k < n → μ (5 + s) (i + k) = I k) (hi : i + n ≤ z) : m_X6_allWithin Zc 1 (nI s) (nI i) (nI n) 9999 μ = some (if ∃ j, j < n ∧ ¬ (-9999 ≤ (I j).toInt ∧ (I j).toInt ≤ 9999) then 0 else 1) := by
  unfold m_X6_allWithin
  by_cases hb : ∃ j, j < n ∧ ¬ (-9999 ≤ (I j).toInt ∧ (I j).toInt ≤ 9999)
  · rw [if_pos hb]
    apply ok_eq
    refine ok_c (fun k => ∃ j, k ≤ j ∧ j < n ∧ ¬ (-9999 ≤ (I j).toInt ∧ (I j).toInt ≤ 9999)) 0 n (by omega) (by omega) rfl (by obtain ⟨j, h1, h2⟩ := hb; exact ⟨j, by omega, h1, h2⟩) ?_ ?_
    · rintro k _ hk ⟨j, h1, h2, h3⟩
      rw [if_neg (by rw [x_le (by omega) (by omega)]; omega), x_a, q_item hs e hz (by omega), ob_s, hI k hk]
      by_cases g1 : I k < -9999
      · rw [if_pos g1]
        exact ok_s (Or.inr ⟨_, rfl, ok_s rfl⟩)
      · rw [if_neg g1]
        by_cases g2 : I k ≤ 9999
        · rw [if_pos g2, ob_s, n1]
          refine ok_s (Or.inl ⟨rfl, j, ?_, h2, h3⟩)
          by_cases hkj : k = j
          · subst hkj
            rw [fa_lt, show (-9999 : Int32).toInt = -9999 from rfl] at g1
            rw [fa_le, show (9999 : Int32).toInt = 9999 from rfl] at g2
            exact absurd ⟨by omega, g2⟩ h3
          · omega
        · rw [if_neg g2]
          exact ok_s (Or.inr ⟨_, rfl, ok_s rfl⟩)
    · rintro ⟨j, h1, h2, h3⟩
      omega
  · rw [if_neg hb]
    apply ok_eq
    refine ok_c (fun k => True) 0 n (by omega) (by omega) rfl trivial ?_ ?_
    · rintro k _ hk _
      have hk2 : -9999 ≤ (I k).toInt ∧ (I k).toInt ≤ 9999 := Classical.byContradiction fun hq => hb ⟨k, hk, hq⟩
      rw [if_neg (by rw [x_le (by omega) (by omega)]; omega), x_a, q_item hs e hz (by omega), ob_s, hI k hk]
      rw [if_neg (show ¬ I k < -9999 by rw [fa_lt, show (-9999 : Int32).toInt = -9999 from rfl]; omega), if_pos (show I k ≤ 9999 by rw [fa_le, show (9999 : Int32).toInt = 9999 from rfl]; omega), ob_s, n1]
      exact ok_s (Or.inl ⟨rfl, trivial⟩)
    · rintro _
      rw [if_pos (by rw [x_le (by omega) (by omega)]; omega)]
      exact ok_s ⟨_, rfl, ok_s rfl⟩
theorem p_steel {μ : MT} {p s z i nc k : Nat} {I : Nat → Int32} {x : RS} (hp : isPl p) (e11 : μ 0 11 = nI p) (e0 : μ p 0 = nI nc) (hnc : nc ≤ 12) (hs : s < 8) (e : μ 3 s = nI z) (hz : z ≤ 40) (hI : ∀ k, k ≤ nc → μ (5 + s) (i + k) = I k) (hi : i + nc + 1 ≤ z) (hx : PIs μ 19 nc x) : m_X8_isSteel Zc 127 0 (nI s) (nI i) (nI k) μ = some (bI (stB I x.1 k nc = true)) := by
  unfold m_X8_isSteel
  simp only [zA, e11, mrd_p hp, ob_s, e0]
  apply ok_eq
  refine ok_c (fun c => stB I x.1 k c = true) 0 nc (by omega) (by omega) rfl rfl ?_ ?_
  · intro c _ hc hJ
    rw [if_neg (by rw [x_le (by omega) (by omega)]; omega), p_wb hs e hz (fun q hq => hI q (by omega)) (by omega), ob_s, zp_3 pn19, al_P pn19 (by omega) (by omega) (by omega), ob_s, (hx.2.2.2 c hc).2.1, x_d4, ob_s]
    by_cases hq : wbF I c = nI k * x.1 (24 + c) / 4
    · rw [if_pos hq, n1]
      exact ok_s (Or.inl ⟨rfl, by rw [stB_s, hJ]; simp [hq]⟩)
    · rw [if_neg hq]
      refine ok_s (Or.inr ⟨_, rfl, ok_s ?_⟩)
      have h1 : stB I x.1 k (c + 1) = false := by rw [stB_s]; simp [hq]
      have h2 := stB_f (nc - (c + 1)) h1
      rw [show c + 1 + (nc - (c + 1)) = nc by omega] at h2
      rw [h2]
      exact (bI_f (by decide)).symm
  · intro hJ
    rw [if_pos (by rw [x_le (by omega) (by omega)]; omega)]
    exact ok_s ⟨_, rfl, ok_s (bI_t hJ).symm⟩
theorem p_stl {μ : MT} {p s z i nc : Nat} {I : Nat → Int32} {x : RS} (hp : isPl p) (e11 : μ 0 11 = nI p) (e0 : μ p 0 = nI nc) (hnc : nc ≤ 12) (hs : s < 8) (e : μ 3 s = nI z) (hz : z ≤ 40) (hI : ∀ k, k ≤ nc → μ (5 + s) (i + k) = I k) (hi : i + nc + 1 ≤ z) (hx : PIs μ 19 nc x) : m_X8_steelOf Zc 127 0 (nI s) (nI i) μ = some (slF I x.1 nc 9 1) := by
  unfold m_X8_steelOf
  apply ok_eq
  refine ok_c (fun k => slF I x.1 nc (10 - k) k = slF I x.1 nc 9 1) 1 10 (by omega) (by omega) rfl rfl ?_ ?_
  · intro k hk1 hk hJ
    rw [if_neg (by rw [x_llt (by omega) (by omega)]; omega), p_steel hp e11 e0 hnc hs e hz hI hi hx, ob_s]
    rw [show 10 - k = (10 - (k + 1)) + 1 by omega, slF] at hJ
    by_cases hq : stB I x.1 k nc = true
    · rw [bI_t hq, if_neg (by decide)]
      rw [if_pos hq] at hJ
      exact ok_s (Or.inr ⟨_, rfl, ok_s hJ⟩)
    · rw [bI_f hq, if_pos rfl, ob_s, n1]
      rw [if_neg hq] at hJ
      exact ok_s (Or.inl ⟨rfl, hJ⟩)
  · intro hJ
    rw [if_pos (by decide)]
    exact ok_s ⟨_, rfl, ok_s hJ⟩
end
section
theorem op_wire {ν : MT} (h : Inv ν) (a0 a1 a2 : Int32) : OkI Inv (m_X8_wire Zc 127 0 a0 a1 a2 ν) (fun μ => m_X9_wire Zc 106 a0 a1 a2 μ) := by
  obtain ⟨p, d, nc, ns, na, nb, h⟩ := h
  obtain ⟨c1, c2, c3, ⟨hp, hd, hpd, e11, e12⟩, c5, c6, c7, c8, c9, c10, c11, c12, c13⟩ := id h
  obtain ⟨hnc, hns, hna, hnb⟩ := pl_bd c5
  obtain ⟨x, x1, x2, x3⟩ := la_ex c9
  have hpl2 := isPl_le hp
  have e0 := c5.1.1
  have hz4 := c5.2.1
  by_cases hs : 0 ≤ a0.toInt ∧ a0.toInt < 8
  case neg =>
    refine okI_of (a := -1000001) (P := fun μ => μ = ν) ?_ ?_
    · unfold m_X8_wire
      simp only [zA]
      rw [q_hasN, ob_s, bI_f hs, if_pos rfl]
      exact ok_s ⟨rfl, rfl⟩
    · rintro μ rfl
      unfold m_X9_wire
      rw [ob_s, q_isSh, ob_s, bI_f hs, if_pos rfl]
      exact ok_s ⟨rfl, p, d, nc, ns, na, nb, c_x h (FrX.refl μ).w0⟩
  obtain ⟨s, hs1, rfl⟩ := nI_ex (n := 8) hs.1 hs.2
  by_cases hz : nc = 0
  · refine okI_of (a := -1000002) (P := fun μ => μ = ν) ?_ ?_
    · unfold m_X8_wire
      simp only [zA]
      rw [q_hasN, ob_s, bI_t hs, if_neg (by decide), e11, mrd_p hp, ob_s, q_none e0 (by omega), ob_s, bI_t hz, if_neg (by decide)]
      exact ok_s ⟨rfl, rfl⟩
    · rintro μ rfl
      have m5 : u2 μ 106 0 0 106 5 = nI nc := c6.1
      unfold m_X9_wire
      rw [ob_s, q_isSh, ob_s, bI_t hs, if_neg (by decide), m5, if_pos (by rw [hz]; rfl)]
      exact ok_s ⟨rfl, p, d, nc, ns, na, nb, c_x h (FrX.refl μ).w0⟩
  have hz' : ¬ nI nc = 0 := by rw [x_eql (by omega) (by omega)]; exact hz
  have gin : ∀ μ : MT, m_X9_in Zc a2.toInt64 (-1) (nI nc - 1).toInt64 μ = some (bI (-1 ≤ a2.toInt ∧ a2.toInt < nc)) := fun μ => by
    rw [q_in, Int32.toInt_toInt64, Int32.toInt_toInt64, ti_n1 (by omega), show (-1 : Int64).toInt = -1 from rfl]
    unfold bI
    by_cases hc : -1 ≤ a2.toInt ∧ a2.toInt < nc
    · rw [if_pos hc, if_pos (by omega)]
    · rw [if_neg hc, if_neg (by omega)]
  by_cases hw : -1 ≤ a2.toInt ∧ a2.toInt < nc
  case neg =>
    refine okI_of (a := -1000001) (P := fun μ => μ = ν) ?_ ?_
    · unfold m_X8_wire
      simp only [zA]
      rw [q_hasN, ob_s, bI_t hs, if_neg (by decide), e11, mrd_p hp, ob_s, q_none e0 (by omega), ob_s, bI_f hz, if_pos rfl]
      by_cases h1 : a2 < -1
      · rw [if_pos h1]
        exact ok_s ⟨rfl, rfl⟩
      · rw [if_neg h1, ob_s, e0, if_neg (show ¬ a2 < nI nc by rw [fa_lt, ti_n (by omega)]; rw [fa_lt, show (-1 : Int32).toInt = -1 from rfl] at h1; omega)]
        exact ok_s ⟨rfl, rfl⟩
    · rintro μ rfl
      have m5 : u2 μ 106 0 0 106 5 = nI nc := c6.1
      unfold m_X9_wire
      rw [ob_s, q_isSh, ob_s, bI_t hs, if_neg (by decide), m5, if_neg hz', gin, ob_s, bI_f hw, if_pos rfl]
      exact ok_s ⟨rfl, p, d, nc, ns, na, nb, c_x h (FrX.refl μ).w0⟩
  have w1 : ¬ a2 < -1 := by rw [fa_lt, show (-1 : Int32).toInt = -1 from rfl]; omega
  have w2 : a2 < nI nc := by rw [fa_lt, ti_n (by omega)]; omega
  rcases c1.1 s hs1 with ⟨q1, q2⟩ | ⟨z, l, hzl, hl, q1, q2, q3, q4⟩
  · refine okI_of (a := -1000010 - 1) (P := fun μ => μ = u2 ν 0 15 1) ?_ ?_
    · unfold m_X8_wire m_X8_found
      simp only [zA]
      rw [q_hasN, ob_s, bI_t hs, if_neg (by decide), e11, mrd_p hp, ob_s, q_none e0 (by omega), ob_s, bI_f hz, if_pos rfl, if_neg w1, ob_s, e0, if_pos w2, ob_s, q_find1 hs1 q1, ob_s, if_neg (by decide), ob_s, ob_s]
      exact ok_s ⟨rfl, rfl⟩
    · rintro μ rfl
      have m5 : u2 (u2 ν 0 15 1) 106 0 0 106 5 = nI nc := c6.1
      have m107 : u2 (u2 ν 0 15 1) 106 0 0 107 = ν 107 := rfl
      unfold m_X9_wire m_X9_finding
      rw [ob_s, q_isSh, ob_s, bI_t hs, if_neg (by decide), m5, if_neg hz', gin, ob_s, bI_t hw, if_neg (by decide)]
      simp only [zA]
      rw [al_107 hs1, ob_s, m107, q2, if_neg (by decide), ob_s, ob_s]
      exact ok_s ⟨rfl, p, d, nc, ns, na, nb, c_s2 h 1⟩
  have fnd : m_X6_findingAt Zc 1 (nI s) a1 (nI nc + 1) ν = some (if 0 ≤ a1.toInt ∧ a1.toInt + (nc + 1) ≤ z then 0 else 2) := by
    rw [q_find hs1 q1 hzl, n1, ti_n (by omega)]
    by_cases hc : 0 ≤ a1.toInt ∧ a1.toInt + (nc + 1) ≤ z
    · rw [if_pos hc, if_pos (by omega)]
    · rw [if_neg hc, if_neg (by omega)]
  have lgc : ∀ b : Int32, (lg_cmp ((b.toInt64 + (nI nc).toInt64) + 1) (nI z).toInt64 ≤ 0) ↔ b.toInt + (nc + 1) ≤ z := fun b => by
    have t1 := ti_lo b
    have t2 := ti_hi b
    rw [lg_cmp_le, fa_le64, Int32.toInt_toInt64, ti_n (by omega), Int64.toInt_add, lg_i2l_add, ti_n (by omega), show (1 : Int64).toInt = 1 from rfl]
    rw [Int.bmod_eq_of_le (by omega) (by omega)]
    omega
  by_cases hpc : 0 ≤ a1.toInt ∧ a1.toInt + (nc + 1) ≤ z
  case neg =>
    refine okI_of (a := -1000010 - 2) (P := fun μ => μ = u2 ν 0 15 2) ?_ ?_
    · unfold m_X8_wire m_X8_found
      simp only [zA]
      rw [q_hasN, ob_s, bI_t hs, if_neg (by decide), e11, mrd_p hp, ob_s, q_none e0 (by omega), ob_s, bI_f hz, if_pos rfl, if_neg w1, ob_s, e0, if_pos w2, ob_s, e0, fnd, ob_s, if_neg hpc, if_neg (by decide), ob_s, ob_s]
      exact ok_s ⟨rfl, rfl⟩
    · rintro μ rfl
      have m5 : u2 (u2 ν 0 15 2) 106 0 0 106 5 = nI nc := c6.1
      have m107 : u2 (u2 ν 0 15 2) 106 0 0 107 = ν 107 := rfl
      have m108 : u2 (u2 ν 0 15 2) 106 0 0 108 = ν 108 := rfl
      unfold m_X9_wire m_X9_finding
      rw [ob_s, q_isSh, ob_s, bI_t hs, if_neg (by decide), m5, if_neg hz', gin, ob_s, bI_t hw, if_neg (by decide)]
      simp only [zA]
      rw [al_107 hs1, ob_s, m107, q4, if_pos (by rw [x_lle (by omega) (by omega)]; omega)]
      refine ok_b (R1 := fun q => q = Sum.inr (u2 (u2 ν 0 15 2) 106 0 0)) ?_ ?_
      · by_cases h1 : a1 < 0
        · rw [if_pos h1]
          exact ok_s rfl
        · rw [if_neg h1, al_108 hs1, ob_s, m108, q2]
          rw [fa_lt, show (0 : Int32).toInt = 0 from rfl] at h1
          rw [if_neg (by rw [lgc]; omega)]
          exact ok_s rfl
      · rintro q rfl
        exact ok_s ⟨rfl, p, d, nc, ns, na, nb, c_s2 h 2⟩
  obtain ⟨i, hi, rfl⟩ := nI_ex (n := 41) hpc.1 (by omega)
  have ri := hpc
  rw [ti_n (by omega)] at hpc
  obtain ⟨I, hIe⟩ : ∃ I : Nat → Int32, I = fun k => ν (5 + s) (i + k) := ⟨_, rfl⟩
  have hI3 : ∀ k, ν (5 + s) (i + k) = I k := fun k => by rw [hIe]
  have hI2 : ∀ k, k ≤ nc → ν 109 (40 * s + i + k) = I k := fun k hk => by rw [hIe, Nat.add_assoc]; exact (c1.2 s (i + k) hs1 (by omega)).symm
  have hall := q_all (μ := ν) (i := i) (n := nc + 1) (I := I) hs1 q1 hzl (fun k _ => hI3 k) (by omega)
  have g9 : ∀ (μ : MT) (v : Int32), m_X9_in Zc v.toInt64 (-9999) 9999 μ = some (bI (-9999 ≤ v.toInt ∧ v.toInt ≤ 9999)) := fun μ v => by
    rw [q_in, Int32.toInt_toInt64, show (-9999 : Int64).toInt = -9999 from rfl, show (9999 : Int64).toInt = 9999 from rfl]
  by_cases hb : ∃ j, j < nc + 1 ∧ ¬ (-9999 ≤ (I j).toInt ∧ (I j).toInt ≤ 9999)
  · rw [if_pos hb] at hall
    refine okI_of (a := -1000001) (P := fun μ => μ = ν) ?_ ?_
    · unfold m_X8_wire
      simp only [zA]
      rw [q_hasN, ob_s, bI_t hs, if_neg (by decide), e11, mrd_p hp, ob_s, q_none e0 (by omega), ob_s, bI_f hz, if_pos rfl, if_neg w1, ob_s, e0, if_pos w2, ob_s, e0, fnd, ob_s, if_pos ri, if_pos rfl, ob_s, e0, n1, hall, ob_s, if_pos rfl]
      exact ok_s ⟨rfl, rfl⟩
    · rintro μ rfl
      have m5 : u2 μ 106 0 0 106 5 = nI nc := c6.1
      have m107 : u2 μ 106 0 0 107 = μ 107 := rfl
      have m108 : u2 μ 106 0 0 108 = μ 108 := rfl
      have m109 : u2 μ 106 0 0 109 = μ 109 := rfl
      unfold m_X9_wire
      rw [ob_s, q_isSh, ob_s, bI_t hs, if_neg (by decide), m5, if_neg hz', gin, ob_s, bI_t hw, if_neg (by decide)]
      simp only [zA]
      rw [al_107 hs1, ob_s, m107, q4, if_pos (by rw [x_lle (by omega) (by omega)]; omega), if_neg (by rw [x_ltl (by omega) (by omega)]; omega), al_108 hs1, ob_s, m108, q2, if_pos (by rw [lgc, ti_n (by omega)]; omega), ob_s, x_lm, x_a]
      refine ok_b (R1 := fun q => q = Sum.inl (-1000001, u2 μ 106 0 0)) ?_ ?_
      · refine ok_c (fun k => ∃ j, k ≤ j ∧ j < nc + 1 ∧ ¬ (-9999 ≤ (I j).toInt ∧ (I j).toInt ≤ 9999)) 0 (nc + 1) (by omega) (by omega) rfl (by obtain ⟨j, h1, h2⟩ := hb; exact ⟨j, by omega, h1, h2⟩) ?_ ?_
        · rintro k _ hk ⟨j, h1, h2, h3⟩
          rw [if_neg (by rw [x_lt (by omega) (by omega)]; omega), x_a, al_109 (by omega), ob_s, m109, hI2 k (by omega), g9, ob_s]
          by_cases g1 : -9999 ≤ (I k).toInt ∧ (I k).toInt ≤ 9999
          · rw [bI_t g1, if_neg (by decide), ob_s, n1]
            refine ok_s (Or.inl ⟨rfl, j, ?_, h2, h3⟩)
            by_cases hkj : k = j
            · subst hkj; exact absurd g1 h3
            · omega
          · rw [bI_f g1, if_pos rfl]
            exact ok_s (Or.inr ⟨_, rfl, ok_s rfl⟩)
        · rintro ⟨j, h1, h2, h3⟩
          omega
      · rintro q rfl
        exact ok_s ⟨rfl, p, d, nc, ns, na, nb, c_x h (FrX.refl μ).w0⟩
  rw [if_neg hb] at hall
  have hgood : ∀ k, k < nc + 1 → -9999 ≤ (I k).toInt ∧ (I k).toInt ≤ 9999 := fun k hk => Classical.byContradiction fun hq => hb ⟨k, hk, hq⟩
  refine okI_of (a := if a2 = -1 then slF I x.1 nc 9 1 else wbF I a2.toNatClampNeg) (P := fun μ => μ = u2 ν 0 15 0) ?_ ?_
  · unfold m_X8_wire m_X8_fine
    simp only [zA]
    rw [q_hasN, ob_s, bI_t hs, if_neg (by decide), e11, mrd_p hp, ob_s, q_none e0 (by omega), ob_s, bI_f hz, if_pos rfl, if_neg w1, ob_s, e0, if_pos w2, ob_s, e0, fnd, ob_s, if_pos ri, if_pos rfl, ob_s, e0, n1, hall, ob_s, if_neg (by decide)]
    by_cases hm : a2 = -1
    · rw [if_pos hm, if_pos hm, p_stl hp e11 e0 hnc hs1 q1 hzl (fun k _ => hI3 k) (by omega) x1, ob_s, ob_s]
      exact ok_s ⟨rfl, rfl⟩
    · rw [if_neg hm, if_neg hm]
      have hm2 : ¬ a2.toInt = -1 := fun hq => hm (by rw [fa_eq, hq]; rfl)
      obtain ⟨c, hcc, rfl⟩ := nI_ex (n := nc) (a := a2) (by omega) hw.2
      rw [p_wb hs1 q1 hzl (fun k _ => hI3 k) (by omega), ob_s, ob_s, x_cl (by omega)]
      exact ok_s ⟨rfl, rfl⟩
  · rintro μ rfl
    have m5 : u2 (u2 ν 0 15 0) 106 0 0 106 5 = nI nc := c6.1
    have m107 : u2 (u2 ν 0 15 0) 106 0 0 107 = ν 107 := rfl
    have m108 : u2 (u2 ν 0 15 0) 106 0 0 108 = ν 108 := rfl
    have m109 : u2 (u2 ν 0 15 0) 106 0 0 109 = ν 109 := rfl
    unfold m_X9_wire
    rw [ob_s, q_isSh, ob_s, bI_t hs, if_neg (by decide), m5, if_neg hz', gin, ob_s, bI_t hw, if_neg (by decide)]
    simp only [zA]
    rw [al_107 hs1, ob_s, m107, q4, if_pos (by rw [x_lle (by omega) (by omega)]; omega), if_neg (by rw [x_ltl (by omega) (by omega)]; omega), al_108 hs1, ob_s, m108, q2, if_pos (by rw [lgc, ti_n (by omega)]; omega), ob_s, x_lm, x_a]
    refine ok_b (R1 := fun q => ∃ ν', q = Sum.inl ((if a2 = -1 then slF I x.1 nc 9 1 else wbF I a2.toNatClampNeg), ν') ∧ Inv ν') ?_ ?_
    · refine ok_c (fun k => True) 0 (nc + 1) (by omega) (by omega) rfl trivial ?_ ?_
      · rintro k _ hk _
        rw [if_neg (by rw [x_lt (by omega) (by omega)]; omega), x_a, al_109 (by omega), ob_s, m109, hI2 k (by omega), g9, ob_s, bI_t (hgood k hk), if_neg (by decide), ob_s, n1]
        exact ok_s (Or.inl ⟨rfl, trivial⟩)
      · rintro _
        rw [if_pos (by rw [x_lt (by omega) (by omega)]; omega)]
        refine ok_s ⟨_, rfl, ?_⟩
        simp only [jn, ob_s]
        have hC := c_s2 h 0
        have e16 : u2 (u2 (u2 ν 0 15 0) 106 0 0) 106 1 0 109 = ν 109 := rfl
        have e5 : u2 (u2 (u2 ν 0 15 0) 106 0 0) 106 1 0 106 5 = nI nc := c6.1
        have x4 : StIs (u2 (u2 (u2 ν 0 15 0) 106 0 0) 106 1 0) x := x3
        generalize u2 (u2 (u2 ν 0 15 0) 106 0 0) 106 1 0 = ω at hC e16 e5 x4 ⊢
        by_cases hm : a2 = -1
        · rw [if_pos (show a2 < 0 by rw [hm]; decide), if_pos hm]
          refine ok_b (q_layS x4) ?_
          rintro ω2 ⟨g1, g2, g3⟩
          have w5 : ω2 106 5 = nI nc := by rw [g3]; exact e5
          have w109 : ω2 109 = ν 109 := by rw [g2.1 109 (by omega) (by omega)]; exact e16
          refine ok_c (fun k => slF I x.1 nc (10 - k) k = slF I x.1 nc 9 1) 1 10 (by omega) (by omega) rfl rfl ?_ ?_
          · intro k hk1 hk hJ
            rw [if_neg (by rw [x_lle (by omega) (by omega)]; omega)]
            rw [show 10 - k = (10 - (k + 1)) + 1 by omega, slF] at hJ
            refine ok_l (fun m q => ∃ c, c + m = nc ∧ q = (bI (stB I x.1 k c = true), nI c)) nc (by omega) ⟨0, by omega, rfl⟩ ?_
            rintro m q ⟨c, hc, rfl⟩
            by_cases hm0 : m = 0
            · subst hm0
              have : c = nc := by omega
              subst this
              simp only [w5]
              rw [if_pos (by rw [x_le (by omega) (by omega)]; omega)]
              refine ok_s (Or.inl ⟨_, rfl, ?_⟩)
              by_cases hq : stB I x.1 k c = true
              · rw [bI_t hq, if_neg (by decide)]
                rw [if_pos hq] at hJ
                exact ok_s (Or.inr ⟨_, rfl, ok_s ⟨_, by rw [hJ], p, d, c, ns, na, nb, c_x hC g2⟩⟩)
              · rw [bI_f hq, if_pos rfl, n1]
                rw [if_neg hq] at hJ
                exact ok_s (Or.inl ⟨rfl, hJ⟩)
            · simp only [w5]
              rw [if_neg (by rw [x_le (by omega) (by omega)]; omega), r_bb (I := I) (fun q hq => by rw [w109]; exact hI2 q (by omega)) (by omega), x_la, al_119 (by omega), g1 _ (by omega)]
              simp only [ob_s, x_d4]
              refine ok_b (R1 := fun v => v = bI (stB I x.1 k (c + 1) = true)) ?_ ?_
              · rw [stB_s]
                by_cases hq : stB I x.1 k c = true
                · rw [bI_t hq, if_neg (by decide)]
                  by_cases hq2 : wbF I c = nI k * x.1 (24 + c) / 4
                  · rw [if_pos hq2, hq]
                    exact ok_s (bI_t (by simp [hq2])).symm
                  · rw [if_neg hq2, hq]
                    exact ok_s (bI_f (by simp [hq2])).symm
                · rw [bI_f hq, if_pos rfl]
                  exact ok_s (bI_f (by simp [hq])).symm
              · rintro v rfl
                rw [n1]
                exact ok_s (Or.inr ⟨_, m - 1, rfl, by omega, c + 1, by omega, rfl⟩)
          · intro hJ
            rw [if_pos (by decide)]
            exact ok_s ⟨_, rfl, ok_s ⟨_, by rw [← hJ]; rfl, p, d, nc, ns, na, nb, c_x hC g2⟩⟩
        · rw [if_neg hm]
          have hm2 : ¬ a2.toInt = -1 := fun hq => hm (by rw [fa_eq, hq]; rfl)
          obtain ⟨c, hcc, rfl⟩ := nI_ex (n := nc) (a := a2) (by omega) hw.2
          rw [if_neg (by rw [x_ltl (by omega) (by omega)]; omega), r_bb (I := I) (fun q hq => by rw [e16]; exact hI2 q (by omega)) (by omega), x_cl (by omega)]
          exact ok_s ⟨_, rfl, p, d, nc, ns, na, nb, hC⟩
    · rintro q ⟨ν', rfl, hν⟩
      exact ok_s ⟨rfl, hν⟩
end
section
/-! ===== spots ===== -/
theorem okI_of2 {c : Option (Int32 × MT)} {r : MT → Option (Int32 × MT)} {Q : Int32 → Prop} {P : MT → Prop} (hu : ∀ a b, Q a → Q b → a = b) (h1 : Ok c (fun q => Q q.1 ∧ P q.2)) (h2 : ∀ μ, P μ → Ok (r μ) (fun q => Q q.1 ∧ Inv q.2)) : OkI Inv c r := by
  obtain ⟨⟨a, μ⟩, e, e1, e2⟩ := h1
  simp only at e1 e2
  obtain ⟨⟨b, μ'⟩, g, g1, g2⟩ := h2 μ e2
  simp only at g1 g2
  have := hu a b e1 g1
  subst this
  exact ⟨_, _, _, e, g, g2⟩
def alB (f : Nat → Bool) (n : Nat) : Bool := (List.range n).all f
theorem alB_s {f : Nat → Bool} {c : Nat} : alB f (c + 1) = (alB f c && f c) := by
  unfold alB
  rw [List.range_succ, List.all_append]
  simp
theorem alB_f {f : Nat → Bool} {c : Nat} : ∀ n, alB f c = false → alB f (c + n) = false
  | 0, h => h
  | n + 1, h => by
    rw [show c + (n + 1) = (c + n) + 1 by omega, alB_s, alB_f n h]
    rfl
def spV (b p : Int32) : Int32 := if p < b then b - p else if b < -p then b + p else 0
def sp1 (p : Int32) (c : Nat) (R : Nat → Int32) : Nat → Int32 := upd R c (spV (R c) p)
def sp2 (c : Nat) (R : Nat → Int32) : Nat → Int32 := if c = 0 then R else upd R (c - 1) (R (c - 1) + 1)
def sp3 (nc c : Nat) (R : Nat → Int32) : Nat → Int32 := if nc ≤ c + 1 then R else upd R (c + 1) (R (c + 1) + 1)
def spF (p : Int32) (nc c : Nat) (R : Nat → Int32) : Nat → Int32 := sp3 nc c (sp2 c (sp1 p c R))
def ddF (p : Int32) (nc set : Nat) (R : Nat → Int32) : Nat → Nat → Int32
  | 0 => R
  | n + 1 => if bt (nI set) n = true then spF p nc n (ddF p nc set R n) else ddF p nc set R n
def pcN (set : Nat) : Nat → Nat
  | 0 => 0
  | n + 1 => pcN set n + (if bt (nI set) n = true then 1 else 0)
def RwIs (μ : MT) (k o : Nat) (R : Nat → Int32) : Prop := ∀ q, q < 12 → μ k (o + q) = R q
theorem RwIs.w {μ : MT} {k o c : Nat} {R : Nat → Int32} {v : Int32} (h : RwIs μ k o R) : RwIs (u2 μ k (o + c) v) k o (upd R c v) := fun q hq => by
  rw [u2_r]
  unfold upd
  by_cases hqc : q = c
  · rw [if_pos ⟨rfl, by rw [hqc]⟩, if_pos hqc]
  · rw [if_neg (by omega), if_neg hqc]
    exact h q hq
theorem spV_c {b : Int32} {pv : Nat} (h1 : 1 ≤ pv) (h2 : pv ≤ 20) : (b ≤ 0 → imin 0 (b + nI pv) = spV b (nI pv)) ∧ (¬ b ≤ 0 → imax 0 (b - nI pv) = spV b (nI pv)) := by
  have l1 := ti_lo b
  have l2 := ti_hi b
  have e : (nI pv).toInt = pv := ti_n (by omega)
  have en : (-nI pv).toInt = -pv := by rw [ti_neg (by omega), e]
  have z0 : (0 : Int32).toInt = 0 := rfl
  refine ⟨fun h => ?_, fun h => ?_⟩
  · rw [fa_le, z0] at h
    have ea : (b + nI pv).toInt = b.toInt + pv := by rw [ti_add (by omega) (by omega), e]
    unfold imin spV
    rw [if_neg (show ¬ nI pv < b by rw [fa_lt]; omega)]
    by_cases hb : b < -nI pv
    · rw [if_pos hb, if_pos (show b + nI pv < 0 by rw [fa_lt, ea, z0]; rw [fa_lt, en] at hb; omega)]
    · rw [if_neg hb, if_neg (show ¬ b + nI pv < 0 by rw [fa_lt, ea, z0]; rw [fa_lt, en] at hb; omega)]
  · rw [fa_le, z0] at h
    have ea : (b - nI pv).toInt = b.toInt - pv := by rw [ti_sub (by omega) (by omega), e]
    unfold imax spV
    by_cases hb : nI pv < b
    · rw [if_pos hb, if_pos (show 0 < b - nI pv by rw [fa_lt, ea, z0]; rw [fa_lt, e] at hb; omega)]
    · rw [if_neg hb, if_neg (show ¬ b < -nI pv by rw [fa_lt, en]; omega), if_neg (show ¬ 0 < b - nI pv by rw [fa_lt, ea, z0]; rw [fa_lt, e] at hb; omega)]
theorem p_spot {μ : MT} {p nc c pv : Nat} {R : Nat → Int32} (hp : isPl p) (e11 : μ 0 11 = nI p) (e0 : μ p 0 = nI nc) (hnc : nc ≤ 12) (hcc : c < nc) (h1 : 1 ≤ pv) (h2 : pv ≤ 20) (hR : RwIs μ 18 0 R) : Ok (m_X8_spotAt Zc 127 0 (nI c) (nI pv) μ) (fun ν => RwIs ν 18 0 (spF (nI pv) nc c R) ∧ ∀ k, k ≠ 18 → ν k = μ k) := by
  have hpl := isPl_le hp
  have hr : ∀ {ν : MT} {R : Nat → Int32} {q : Nat}, RwIs ν 18 0 R → q < 12 → ν 18 q = R q := fun {ν R q} h hq => by
    have := h q hq
    rw [Nat.zero_add] at this
    exact this
  have hwr : ∀ {ν : MT} {R : Nat → Int32} {q : Nat} {v : Int32}, RwIs ν 18 0 R → RwIs (u2 ν 18 q v) 18 0 (upd R q v) := fun {ν R q v} h => by
    have := h.w (c := q) (v := v)
    rw [Nat.zero_add] at this
    exact this
  unfold m_X8_spotAt spF
  simp only [zA]
  rw [al_18 (by omega), hr hR (by omega), ob_s]
  refine ok_b (R1 := fun ν => RwIs ν 18 0 (sp1 (nI pv) c R) ∧ ∀ k, k ≠ 18 → ν k = μ k) ?_ ?_
  · by_cases hb : R c ≤ 0
    · rw [if_pos hb, ob_s, as_18 (by omega), ob_s, (spV_c h1 h2).1 hb]
      exact ok_s ⟨hwr hR, fun k hk => by rw [u2_w, if_neg hk]⟩
    · rw [if_neg hb, ob_s, as_18 (by omega), ob_s, (spV_c h1 h2).2 hb]
      exact ok_s ⟨hwr hR, fun k hk => by rw [u2_w, if_neg hk]⟩
  · rintro ν1 ⟨g1, g2⟩
    generalize sp1 (nI pv) c R = R1 at g1
    refine ok_b (R1 := fun ν => RwIs ν 18 0 (sp2 c R1) ∧ ∀ k, k ≠ 18 → ν k = μ k) ?_ ?_
    · unfold sp2
      by_cases h0 : c = 0
      · rw [if_pos h0, if_pos (by rw [h0]; decide)]
        exact ok_s ⟨g1, g2⟩
      · rw [if_neg h0, if_neg (by rw [x_lel (by omega) (by omega)]; omega), x_sl (by omega), al_18 (by omega), ob_s, as_18 (by omega), ob_s, hr g1 (by omega)]
        exact ok_s ⟨hwr g1, fun k hk => by rw [u2_w, if_neg hk]; exact g2 k hk⟩
    · rintro ν2 ⟨g3, g4⟩
      generalize sp2 c R1 = R2 at g3
      rw [g4 0 (by omega), e11, mrd_p hp, ob_s, g4 p (by omega), e0, n1]
      unfold sp3
      by_cases h0 : nc ≤ c + 1
      · rw [if_pos h0, if_pos (by rw [x_le (by omega) (by omega)]; exact h0)]
        exact ok_s ⟨g3, g4⟩
      · rw [if_neg h0, if_neg (by rw [x_le (by omega) (by omega)]; exact h0), al_18 (by omega), ob_s, as_18 (by omega), ob_s, hr g3 (by omega)]
        exact ok_s ⟨hwr g3, fun k hk => by rw [u2_w, if_neg hk]; exact g4 k hk⟩
theorem r_flame {μ : MT} {nc c : Nat} {pv : Int32} {R : Nat → Int32} (e5 : μ 106 5 = nI nc) (hnc : nc ≤ 12) (hcc : c < nc) (hR : RwIs μ 119 24 R) : Ok (m_X9_flame Zc 106 (nI c) pv μ) (fun ν => RwIs ν 119 24 (spF pv nc c R) ∧ ∀ k, k ≠ 119 → ν k = μ k) := by
  unfold m_X9_flame spF
  simp only [zA, x_la]
  rw [al_119 (by omega), hR c (by omega), ob_s]
  have hv : (if R c ≤ pv then (if -pv ≤ R c then some 0 else some (R c + pv)) else some (R c - pv)) = some (spV (R c) pv) := by
    unfold spV
    by_cases h1 : R c ≤ pv
    · rw [if_pos h1, if_neg (fun q => (nle.mpr q) h1)]
      by_cases h2 : -pv ≤ R c
      · rw [if_pos h2, if_neg (fun q => (nle.mpr q) h2)]
      · rw [if_neg h2, if_pos (nle.mp h2)]
    · rw [if_neg h1, if_pos (nle.mp h1)]
  rw [hv, ob_s, as_119 (by omega), ob_s]
  have g1 : RwIs (u2 μ 119 (24 + c) (spV (R c) pv)) 119 24 (sp1 pv c R) := hR.w
  have g2 : ∀ k, k ≠ 119 → u2 μ 119 (24 + c) (spV (R c) pv) k = μ k := fun k hk => by rw [u2_w, if_neg hk]
  generalize u2 μ 119 (24 + c) (spV (R c) pv) = ν1 at g1 g2 ⊢
  generalize sp1 pv c R = R1 at g1 ⊢
  refine ok_b (R1 := fun ν => RwIs ν 119 24 (sp2 c R1) ∧ ∀ k, k ≠ 119 → ν k = μ k) ?_ ?_
  · unfold sp2
    by_cases h0 : c = 0
    · rw [if_pos h0, if_pos (by rw [h0]; decide)]
      exact ok_s ⟨g1, g2⟩
    · rw [if_neg h0, if_neg (by rw [x_lel (by omega) (by omega)]; omega), x_sl (by omega), show 24 + c - 1 = 24 + (c - 1) by omega, al_119 (by omega), ob_s, as_119 (by omega), ob_s, g1 _ (by omega)]
      exact ok_s ⟨g1.w, fun k hk => by rw [u2_w, if_neg hk]; exact g2 k hk⟩
  · rintro ν2 ⟨g3, g4⟩
    generalize sp2 c R1 = R2 at g3
    rw [g4 106 (by omega), e5, x_sl (by omega)]
    unfold sp3
    by_cases h0 : nc ≤ c + 1
    · rw [if_pos h0, if_pos (by rw [x_le (by omega) (by omega)]; omega)]
      exact ok_s ⟨g3, g4⟩
    · rw [if_neg h0, if_neg (by rw [x_le (by omega) (by omega)]; omega), n1, show 24 + c + 1 = 24 + (c + 1) by omega, al_119 (by omega), ob_s, as_119 (by omega), ob_s, g3 _ (by omega)]
      exact ok_s ⟨g3.w, fun k hk => by rw [u2_w, if_neg hk]; exact g4 k hk⟩
theorem sp_bd {p : Int32} {pv nc c B : Nat} {R : Nat → Int32} (hp : p = nI pv) (h1 : 1 ≤ pv) (h2 : pv ≤ 20) (hB : B < 100000) (h : ∀ q, q < nc → (R q).toInt.natAbs ≤ B) (hc : c < nc) : ∀ q, q < nc → (spF p nc c R q).toInt.natAbs ≤ B + 1 := by
  subst hp
  have e : (nI pv).toInt = pv := ti_n (by omega)
  have en : (-nI pv).toInt = -pv := by rw [ti_neg (by omega), e]
  have z0 : (0 : Int32).toInt = 0 := rfl
  have b1 : ∀ q, q < nc → (sp1 (nI pv) c R q).toInt.natAbs ≤ B := fun q hq => by
    unfold sp1 upd
    by_cases hqc : q = c
    · rw [if_pos hqc]
      have := h c hc
      unfold spV
      by_cases g1 : nI pv < R c
      · rw [if_pos g1]
        rw [fa_lt, e] at g1
        rw [ti_sub (by omega) (by omega), e]
        omega
      · rw [if_neg g1]
        by_cases g2 : R c < -nI pv
        · rw [if_pos g2]
          rw [fa_lt, en] at g2
          rw [ti_add (by omega) (by omega), e]
          omega
        · rw [if_neg g2, z0]; omega
    · rw [if_neg hqc]; exact h q hq
  have inc : ∀ v : Int32, v.toInt.natAbs ≤ B → (v + 1).toInt.natAbs ≤ B + 1 := fun v hv => ab_add hv (by decide) (by omega)
  intro q hq
  unfold spF
  generalize sp1 (nI pv) c R = R1 at b1 ⊢
  have b2 : ∀ q, q < nc → (sp2 c R1 q).toInt.natAbs ≤ if q + 1 = c then B + 1 else B := fun q hq => by
    unfold sp2
    by_cases h0 : c = 0
    · rw [if_pos h0, if_neg (by omega)]; exact b1 q hq
    · rw [if_neg h0]
      unfold upd
      by_cases hqc : q = c - 1
      · rw [if_pos hqc, if_pos (by omega)]
        exact inc _ (b1 _ (by omega))
      · rw [if_neg hqc, if_neg (by omega)]; exact b1 q hq
  generalize sp2 c R1 = R2 at b2 ⊢
  unfold sp3
  by_cases h0 : nc ≤ c + 1
  · rw [if_pos h0]
    have := b2 q hq
    split at this <;> omega
  · rw [if_neg h0]
    unfold upd
    by_cases hqc : q = c + 1
    · rw [if_pos hqc]
      have := b2 (c + 1) (by omega)
      rw [if_neg (by omega)] at this
      exact inc _ this
    · rw [if_neg hqc]
      have := b2 q hq
      split at this <;> omega
theorem dd_bd {p : Int32} {pv nc set B : Nat} {R : Nat → Int32} (hp : p = nI pv) (h1 : 1 ≤ pv) (h2 : pv ≤ 20) (h : ∀ q, q < nc → (R q).toInt.natAbs ≤ B) : ∀ n, n ≤ nc → B + n < 100000 → ∀ q, q < nc → (ddF p nc set R n q).toInt.natAbs ≤ B + n
  | 0, _, _ => h
  | n + 1, hn, hB => fun q hq => by
    have ih := dd_bd (set := set) hp h1 h2 h n (by omega) (by omega)
    rw [ddF]
    by_cases hb : bt (nI set) n = true
    · rw [if_pos hb]
      exact sp_bd hp h1 h2 (by omega) ih (by omega) q hq
    · rw [if_neg hb]
      have := ih q hq
      omega
/-- all bends are t or less in size -/
def ckB (t : Nat) (R : Nat → Int32) (c : Nat) : Bool := decide (-(t : Int) ≤ (R c).toInt ∧ (R c).toInt ≤ t)
def okS (p : Int32) (t nc : Nat) (R : Nat → Int32) (set : Nat) : Bool := alB (ckB t (ddF p nc set R nc)) nc
theorem p_draw {μ : MT} {p nc set pv t : Nat} {x : RS} (hp : isPl p) (e11 : μ 0 11 = nI p) (e0 : μ p 0 = nI nc) (hnc : nc ≤ 12) (h1 : 1 ≤ pv) (h2 : pv ≤ 20) (ht : t ≤ 40) (hx : PIs μ 19 nc x) (hb : Bd nc 240 x) : Ok (m_X8_drawDown Zc 127 0 (nI set) (nI pv) (nI t) μ) (fun q => q.1 = bI (okS (nI pv) t nc (fun c => μ 23 c) set = true) ∧ ∀ k, k ≠ 18 → q.2 k = μ k) := by
  have hpl := isPl_le hp
  unfold m_X8_drawDown
  simp only [zA]
  rw [zp_3 pn19, acp0 (m := 12) (v := 12) (n := 12) (n1 := 12) (zpl pn19).2.2.2.1 (by simp only [zA]) (by omega) (by omega) (by omega) rfl, ob_s]
  have hR0 : RwIs (u1 μ 18 (fun j => if j < 12 then μ (19 + 4) j else μ 18 j)) 18 0 (fun c => μ 23 c) := fun q hq => by
    rw [u1_r, if_pos rfl, Nat.zero_add, if_pos hq]
  have hF0 : ∀ k, k ≠ 18 → u1 μ 18 (fun j => if j < 12 then μ (19 + 4) j else μ 18 j) k = μ k := fun k hk => by rw [u1_w, if_neg hk]
  generalize u1 μ 18 (fun j => if j < 12 then μ (19 + 4) j else μ 18 j) = μ0 at hR0 hF0 ⊢
  refine ok_for (fun c ν => RwIs ν 18 0 (ddF (nI pv) nc set (fun c => μ 23 c) c) ∧ ∀ k, k ≠ 18 → ν k = μ k) 0 nc (by omega) (by omega) rfl ⟨hR0, hF0⟩ ?_ ?_
  · rintro c ν _ hc ⟨g1, g2⟩
    have f11 : ν 0 11 = nI p := by rw [g2 0 (by omega)]; exact e11
    have f0 : ν p 0 = nI nc := by rw [g2 p (by omega)]; exact e0
    simp only [f11, mrd_p hp, ob_s, f0]
    rw [if_neg (by rw [x_le (by omega) (by omega)]; omega)]
    refine ok_b (R1 := fun ν' => RwIs ν' 18 0 (ddF (nI pv) nc set (fun c => μ 23 c) (c + 1)) ∧ ∀ k, k ≠ 18 → ν' k = μ k) ?_ ?_
    · rw [ddF]
      by_cases hbt : bt (nI set) c = true
      · rw [if_pos hbt, if_pos ((bitC (nI set) (by omega)).1.mpr hbt)]
        refine ok_b (p_spot hp f11 f0 hnc hc h1 h2 g1) ?_
        rintro ν' ⟨k1, k2⟩
        exact ok_s ⟨k1, fun k hk => by rw [k2 k hk]; exact g2 k hk⟩
      · rw [if_neg hbt, if_neg (fun hq => hbt ((bitC (nI set) (by omega)).1.mp hq))]
        exact ok_s ⟨g1, g2⟩
    · rintro ν' hν
      rw [n1]
      exact ok_s (Or.inl ⟨_, rfl, hν⟩)
  · rintro ν ⟨g1, g2⟩
    have f11 : ν 0 11 = nI p := by rw [g2 0 (by omega)]; exact e11
    have f0 : ν p 0 = nI nc := by rw [g2 p (by omega)]; exact e0
    simp only [f11, mrd_p hp, ob_s, f0]
    rw [if_pos (by rw [x_le (by omega) (by omega)]; omega)]
    refine ok_s ⟨_, rfl, ?_⟩
    have hR : ∀ q, q < nc → (μ 23 q).toInt.natAbs ≤ 4840 := fun q hq => by
      have h3 := (hb.2 q hq).2.2.1
      have h4 : μ 23 q = x.1 (24 + q) := (hx.2.2.2 q hq).2.1
      rw [h4]
      omega
    have hbd := dd_bd (p := nI pv) (set := set) (B := 4840) rfl h1 h2 hR nc (Nat.le_refl _) (by omega)
    unfold okS
    simp only [f11, mrd_p hp, ob_s, f0]
    generalize ddF (nI pv) nc set (fun c => μ 23 c) nc = R at g1 hbd ⊢
    refine ok_c (fun c => alB (ckB t R) c = true) 0 nc (by omega) (by omega) rfl rfl ?_ ?_
    · intro c _ hc hJ
      have hrc := g1 c (by omega)
      rw [Nat.zero_add] at hrc
      have hb1 := hbd c hc
      rw [if_neg (by rw [x_le (by omega) (by omega)]; omega), al_18 (by omega), ob_s, hrc]
      have hck : (iabs (R c) ≤ nI t) ↔ ckB t R c = true := by
        have z0 : (0 : Int32).toInt = 0 := rfl
        rw [fa_le, ti_n (by omega)]
        unfold ckB iabs
        by_cases g : 0 ≤ R c
        · rw [if_pos g]
          rw [fa_le, z0] at g
          simp
          omega
        · rw [if_neg g]
          rw [fa_le, z0] at g
          rw [ti_sub (by rw [z0]; omega) (by rw [z0]; omega), z0]
          simp
          omega
      by_cases hq : iabs (R c) ≤ nI t
      · rw [if_pos hq, n1]
        exact ok_s (Or.inl ⟨rfl, by rw [alB_s, hJ, hck.mp hq]; rfl⟩)
      · rw [if_neg hq]
        refine ok_s (Or.inr ⟨_, rfl, ok_s ⟨?_, g2⟩⟩)
        have h5 : alB (ckB t R) (c + 1) = false := by
          rw [alB_s]
          have : ckB t R c = false := by
            cases hq2 : ckB t R c
            · rfl
            · exact absurd (hck.mpr hq2) hq
          rw [this]
          simp
        have h6 := alB_f (nc - (c + 1)) h5
        rw [show c + 1 + (nc - (c + 1)) = nc by omega] at h6
        rw [h6]
        exact (bI_f (by decide)).symm
    · intro hJ
      rw [if_pos (by rw [x_le (by omega) (by omega)]; omega)]
      exact ok_s ⟨_, rfl, ok_s ⟨(bI_t hJ).symm, g2⟩⟩
/-! ===== how many bits ===== -/
def bcF (a0 : Int32) : Int32 :=
  ((fun x1 : Int32 => (fun x2 : Int32 => (fun x3 : Int32 => (fun x4 : Int32 => (fun x5 : Int32 => x5 &&& 63) (x4 + ((x4.toUInt32 >>> ((16 : Int32).toUInt32 &&& Int32.toUInt32 31)).toInt32))) (x3 + ((x3.toUInt32 >>> ((8 : Int32).toUInt32 &&& Int32.toUInt32 31)).toInt32))) ((x2 + ((x2.toUInt32 >>> ((4 : Int32).toUInt32 &&& Int32.toUInt32 31)).toInt32)) &&& 252645135)) ((x1 &&& 858993459) + (((x1.toUInt32 >>> ((2 : Int32).toUInt32 &&& Int32.toUInt32 31)).toInt32) &&& 858993459))) (a0 - (((a0.toUInt32 >>> ((1 : Int32).toUInt32 &&& Int32.toUInt32 31)).toInt32) &&& 1431655765)))
theorem bc_eq (a : Int32) (μ : MT) : m_J6_bitCount_0f7a4 Zc a μ = some (bcF a) := rfl
theorem bc_n : ∀ h, h < 64 → ∀ l, l < 64 → bcF (nI (64 * h + l)) = nI (pcN (64 * h + l) 12) := by decide +kernel
theorem bt_n {set c : Nat} (hc : c < 32) : bt (nI set) c = set.testBit c := by
  unfold bt
  show (BitVec.ofNat 32 set).getLsbD c = _
  rw [BitVec.getLsbD_ofNat]
  simp [hc]
theorem pc_hi {set nc : Nat} (h : set < 2 ^ nc) : ∀ n, nc + n ≤ 12 → pcN set (nc + n) = pcN set nc
  | 0, _ => rfl
  | n + 1, hn => by
    rw [show nc + (n + 1) = (nc + n) + 1 by omega, pcN, pc_hi h n (by omega), bt_n (by omega), Nat.testBit_lt_two_pow (Nat.lt_of_lt_of_le h (Nat.pow_le_pow_right (by decide) (by omega)))]
    simp
theorem bc_set {set nc : Nat} (hnc : nc ≤ 12) (h : set < 2 ^ nc) (μ : MT) : m_J6_bitCount_0f7a4 Zc (nI set) μ = some (nI (pcN set nc)) := by
  have h12 : set < 4096 := Nat.lt_of_lt_of_le h (show 2 ^ nc ≤ 2 ^ 12 from Nat.pow_le_pow_right (by decide) hnc)
  have := bc_n (set / 64) (by omega) (set % 64) (by omega)
  rw [show 64 * (set / 64) + set % 64 = set by omega] at this
  rw [bc_eq, this]
  have h2 := pc_hi h (12 - nc) (by omega)
  rw [show nc + (12 - nc) = 12 by omega] at h2
  rw [h2]
theorem one_sh {n : Nat} (hn : n ≤ 12) : (1 : Int32) <<< (nI n &&& 31) = nI (2 ^ n) := by
  have h : 2 ^ n ≤ 2 ^ 12 := Nat.pow_le_pow_right (by decide) hn
  have := pk_shlN (n := 1) (nI n &&& 31) n (s_l n (by omega)) (by omega)
  rw [Nat.one_mul] at this
  exact this
/-- the answer of spots -/
def SpR (p : Int32) (t nc : Nat) (R : Nat → Int32) (a : Int32) : Prop :=
  (a = -1000000 ∧ ∀ b, b < 2 ^ nc → okS p t nc R b = true → 4 ≤ pcN b nc) ∨
  (∃ b0, b0 < 2 ^ nc ∧ a = nI b0 ∧ okS p t nc R b0 = true ∧ pcN b0 nc < 4 ∧ (∀ b, b < 2 ^ nc → okS p t nc R b = true → pcN b0 nc ≤ pcN b nc) ∧ (∀ b, b < b0 → okS p t nc R b = true → pcN b0 nc < pcN b nc))
theorem SpR_u {p : Int32} {t nc : Nat} {R : Nat → Int32} (a b : Int32) (h1 : SpR p t nc R a) (h2 : SpR p t nc R b) : a = b := by
  rcases h1 with ⟨e1, f1⟩ | ⟨x, hx, e1, o1, l1, m1, n1⟩
  · rcases h2 with ⟨e2, f2⟩ | ⟨y, hy, e2, o2, l2, m2, n2⟩
    · rw [e1, e2]
    · have := f1 y hy o2
      omega
  · rcases h2 with ⟨e2, f2⟩ | ⟨y, hy, e2, o2, l2, m2, n2⟩
    · have := f2 x hx o1
      omega
    · have a1 := m1 y hy o2
      have a2 := m2 x hx o1
      rcases Nat.lt_trichotomy x y with hxy | hxy | hxy
      · have := n2 x hxy o1
        omega
      · rw [e1, e2, hxy]
      · have := n1 y hxy o2
        omega
end
section
/-! ===== spots, kept ===== -/
theorem alB_c {f g : Nat → Bool} : ∀ {n : Nat}, (∀ c, c < n → f c = g c) → alB f n = alB g n
  | 0, _ => rfl
  | n + 1, h => by rw [alB_s, alB_s, alB_c (fun c hc => h c (by omega)), h n (by omega)]
theorem spF_c {p : Int32} {nc c : Nat} {R R' : Nat → Int32} (hc : c < nc) (h : ∀ q, q < nc → R q = R' q) : ∀ q, q < nc → spF p nc c R q = spF p nc c R' q := by
  have h1 : ∀ q, q < nc → sp1 p c R q = sp1 p c R' q := fun q hq => by
    unfold sp1 upd
    rw [h c hc, h q hq]
  have h2 : ∀ q, q < nc → sp2 c (sp1 p c R) q = sp2 c (sp1 p c R') q := fun q hq => by
    unfold sp2
    by_cases h0 : c = 0
    · rw [if_pos h0, if_pos h0]; exact h1 q hq
    · rw [if_neg h0, if_neg h0]
      unfold upd
      rw [h1 (c - 1) (by omega), h1 q hq]
  intro q hq
  unfold spF
  unfold sp3
  by_cases h0 : nc ≤ c + 1
  · rw [if_pos h0, if_pos h0]; exact h2 q hq
  · rw [if_neg h0, if_neg h0]
    unfold upd
    rw [h2 (c + 1) (by omega), h2 q hq]
theorem ddF_c {p : Int32} {nc set : Nat} {R R' : Nat → Int32} (h : ∀ q, q < nc → R q = R' q) : ∀ n, n ≤ nc → ∀ q, q < nc → ddF p nc set R n q = ddF p nc set R' n q
  | 0, _ => h
  | n + 1, hn => by
    have ih := ddF_c (p := p) (set := set) h n (by omega)
    intro q hq
    rw [ddF, ddF]
    by_cases hb : bt (nI set) n = true
    · rw [if_pos hb, if_pos hb]
      exact spF_c (by omega) ih q hq
    · rw [if_neg hb, if_neg hb]
      exact ih q hq
theorem okS_c {p : Int32} {t nc set : Nat} {R R' : Nat → Int32} (h : ∀ q, q < nc → R q = R' q) : okS p t nc R set = okS p t nc R' set := by
  unfold okS
  refine alB_c (fun c hc => ?_)
  unfold ckB
  rw [ddF_c h nc (Nat.le_refl _) c hc]
theorem pcN_le (set : Nat) : ∀ n, pcN set n ≤ n
  | 0 => Nat.le_refl _
  | n + 1 => by
    rw [pcN]
    have := pcN_le set n
    by_cases hb : bt (nI set) n = true
    · rw [if_pos hb]; omega
    · rw [if_neg hb]; omega
/-- the program's finds so far -/
def SpI (p : Int32) (t nc : Nat) (R : Nat → Int32) (b : Nat) (a f : Int32) : Prop :=
  ∃ fv, f = nI fv ∧ fv ≤ 4 ∧ (∀ c, c < b → okS p t nc R c = true → fv ≤ pcN c nc) ∧ ((a = -1000000 ∧ fv = 4) ∨ (∃ b0, b0 < b ∧ a = nI b0 ∧ okS p t nc R b0 = true ∧ pcN b0 nc = fv ∧ fv < 4 ∧ ∀ c, c < b0 → okS p t nc R c = true → fv < pcN c nc))
theorem two_le {nc : Nat} (h : nc ≤ 12) : 2 ^ nc ≤ 4096 := Nat.pow_le_pow_right (n := 2) (by decide) h
theorem p_spots {μ : MT} {p nc pv t : Nat} {x : RS} (hp : isPl p) (e11 : μ 0 11 = nI p) (e0 : μ p 0 = nI nc) (hz : nc ≠ 0) (hnc : nc ≤ 12) (h1 : 1 ≤ pv) (h2 : pv ≤ 20) (ht : t ≤ 40) (hx : PIs μ 19 nc x) (hb : Bd nc 240 x) : Ok (m_X8_spots Zc 127 0 (nI pv) (nI t) μ) (fun q => SpR (nI pv) t nc (fun c => μ 23 c) q.1 ∧ ∀ k, k ≠ 18 → q.2 k = μ k) := by
  have hpl := isPl_le hp
  have hN := two_le hnc
  unfold m_X8_spots
  rw [if_neg (by rw [x_ltl (by omega) (by omega)]; omega), if_neg (by rw [x_llt (by omega) (by omega)]; omega), if_neg (by rw [x_ltl (by omega) (by omega)]; omega), if_pos (by rw [x_lel (by omega) (by omega)]; omega), e11, mrd_p hp, ob_s, q_none e0 (by omega), ob_s, bI_f hz, if_pos rfl]
  refine ok_l (fun m s => ∃ b, b + m = 2 ^ nc ∧ s.2.2.1 = nI b ∧ (∀ k, k ≠ 18 → s.2.2.2 k = μ k) ∧ SpI (nI pv) t nc (fun c => μ 23 c) b s.1 s.2.1) (2 ^ nc) (by omega) ⟨0, by omega, rfl, fun _ _ => rfl, 4, rfl, by omega, fun c hc => by omega, Or.inl ⟨rfl, rfl⟩⟩ ?_
  rintro m ⟨y4, y5, y6, ν7⟩ ⟨b, hbm, g1, g2, fv, g3, g4, g5, g6⟩
  simp only at g1 g2 g3 g6
  subst g1
  subst g3
  have f11 : ν7 0 11 = nI p := by rw [g2 0 (by omega)]; exact e11
  have f0 : ν7 p 0 = nI nc := by rw [g2 p (by omega)]; exact e0
  simp only [f11, mrd_p hp, ob_s, f0, one_sh hnc]
  by_cases hm : m = 0
  · rw [if_pos (by rw [x_le (by omega) (by omega)]; omega)]
    refine ok_s (Or.inl ⟨_, rfl, ok_s ⟨?_, g2⟩⟩)
    have hbe : b = 2 ^ nc := by omega
    rw [hbe] at g5 g6
    rcases g6 with ⟨a1, a2⟩ | ⟨b0, a1, a2, a3, a4, a5, a6⟩
    · exact Or.inl ⟨a1, fun c hc ho => by have := g5 c hc ho; omega⟩
    · exact Or.inr ⟨b0, a1, a2, a3, by omega, fun c hc ho => by have := g5 c hc ho; omega, fun c hc ho => by have := a6 c hc ho; omega⟩
  · have hpc := pcN_le b nc
    rw [if_neg (by rw [x_le (by omega) (by omega)]; omega), bc_set hnc (by omega), ob_s]
    refine ok_b (R1 := fun q => (∀ k, k ≠ 18 → q.2.2 k = μ k) ∧ SpI (nI pv) t nc (fun c => μ 23 c) (b + 1) q.1 q.2.1) ?_ ?_
    · by_cases hle : fv ≤ pcN b nc
      · rw [if_pos (by rw [x_le (by omega) (by omega)]; omega)]
        refine ok_s ⟨g2, fv, rfl, g4, fun c hc ho => ?_, ?_⟩
        · by_cases hcb : c = b
          · rw [hcb]; exact hle
          · exact g5 c (by omega) ho
        · rcases g6 with ⟨a1, a2⟩ | ⟨b0, a1, a2⟩
          · exact Or.inl ⟨a1, a2⟩
          · exact Or.inr ⟨b0, by omega, a2⟩
      · rw [if_neg (by rw [x_le (by omega) (by omega)]; omega)]
        have hx7 : PIs ν7 19 nc x := by
          unfold PIs
          rw [g2 19 (by omega), g2 (19 + 1) (by omega), g2 (19 + 2) (by omega), g2 (19 + 3) (by omega), g2 (19 + 4) (by omega), g2 (19 + 5) (by omega), g2 (19 + 6) (by omega)]
          exact hx
        refine ok_b (p_draw (set := b) hp f11 f0 hnc h1 h2 ht hx7 hb) ?_
        rintro ⟨r, ν8⟩ ⟨k1, k2⟩
        simp only at k1 k2
        rw [g2 23 (by omega)] at k1
        have k3 : ∀ k, k ≠ 18 → ν8 k = μ k := fun k hk => by rw [k2 k hk]; exact g2 k hk
        subst k1
        by_cases ho : okS (nI pv) t nc (fun c => μ 23 c) b = true
        · simp only [bI_t ho, one0, if_false]
          refine ok_s ⟨k3, pcN b nc, rfl, by omega, fun c hc hoc => ?_, Or.inr ⟨b, by omega, rfl, ho, rfl, by omega, fun c hc hoc => ?_⟩⟩
          · by_cases hcb : c = b
            · rw [hcb]; exact Nat.le_refl _
            · have := g5 c (by omega) hoc
              omega
          · have := g5 c (by omega) hoc
            omega
        · simp only [bI_f ho, if_true]
          refine ok_s ⟨k3, fv, rfl, g4, fun c hc hoc => ?_, ?_⟩
          · by_cases hcb : c = b
            · rw [hcb] at hoc; exact absurd hoc ho
            · exact g5 c (by omega) hoc
          · rcases g6 with ⟨a1, a2⟩ | ⟨b0, a1, a2⟩
            · exact Or.inl ⟨a1, a2⟩
            · exact Or.inr ⟨b0, by omega, a2⟩
    · rintro ⟨z1, z2, ν8⟩ ⟨k1, k2⟩
      simp only [ob_s, n1]
      exact ok_s (Or.inr ⟨_, m - 1, rfl, by omega, b + 1, by omega, rfl, k1, k2⟩)
theorem r_pop {set nc : Nat} (hnc : nc ≤ 12) {γ : Type} {F : Int32 → Option γ} {R : γ → Prop} (hF : Ok (F (nI (pcN set nc))) R) :
    Ok ((loop (σ := Int32 × Int32) (τ := Int32) (fun (y21, y22) => ((if nI nc ≤ y22 then some (Sum.inr y21) else (some (y21 + ((nI set >>> (y22 &&& 31)) &&& 1))).bind fun x63 => (some (y22 + 1)).bind fun x64 => some (Sum.inl (x63, x64))) : Option ((Int32 × Int32) ⊕ (Int32)))) LN (0, 0)).bind F) R := by
  refine ok_l (fun m q => ∃ i, i + m = nc ∧ q = (nI (pcN set i), nI i)) nc (by omega) ⟨0, by omega, rfl⟩ ?_
  rintro m q ⟨i, hi, rfl⟩
  by_cases hm : m = 0
  · have : i = nc := by omega
    subst this
    simp only []
    rw [if_pos (by rw [x_le (by omega) (by omega)]; omega)]
    exact ok_s (Or.inl ⟨_, rfl, hF⟩)
  · simp only []
    rw [if_neg (by rw [x_le (by omega) (by omega)]; omega), ob_s, ob_s, n1]
    refine ok_s (Or.inr ⟨_, m - 1, rfl, by omega, i + 1, by omega, ?_⟩)
    rw [pcN]
    by_cases hb : bt (nI set) i = true
    · rw [if_pos hb, (bitC (nI set) (by omega)).1.mpr hb, n1]
    · rw [if_neg hb, (bitC (nI set) (by omega)).2.mpr (by simpa using hb), Int32.add_zero]
      rfl
theorem r_try {μ : MT} {nc pv t set : Nat} {x : RS} (h : StIs μ x) (e5 : μ 106 5 = nI nc) (hnc : nc ≤ 12) (ht : t ≤ 40) {γ : Type} {F : Int32 → MT → Option γ} {R : γ → Prop}
    (hF : ∀ ν, FrX μ ν → Ok (F (bI (okS (nI pv) t nc (fun c => x.1 (24 + c)) set = true)) ν) R) :
    Ok ((m_X9_layStanding Zc 106 μ).bind fun ν33 => (loop (σ := Int32 × MT) (τ := MT) (fun (y34, ν35) => ((if (ν35 106 5) ≤ y34 then some (Sum.inr ν35) else (((if ((nI set >>> (y34 &&& 31)) &&& 1) = 1 then (m_X9_flame Zc 106 y34 (nI pv) ν35).bind fun ν62 => some ν62 else some ν35) : Option (MT))).bind (fun ν58 => (some (y34 + 1)).bind fun x61 => some (Sum.inl (x61, ν58)))) : Option ((Int32 × MT) ⊕ (MT)))) LN (0, ν33)).bind (fun ν36 => (loop (σ := Int32 × Int32) (τ := Int32) (fun (y41, y42) => ((if (ν36 106 5) ≤ y42 then some (Sum.inr y41) else (((((if y41 = 0 then some (Sum.inr ()) else (ald Zc ν36 119 (24 + y42)).bind fun x56 => (m_X9_in Zc ((x56 : Int32).toInt64) ((-nI t : Int32).toInt64) ((nI t : Int32).toInt64) ν36).bind fun r57 => (if r57 = 0 then some (Sum.inr ()) else some (Sum.inl 1))) : Option ((Int32) ⊕ (Unit)))).bind (jn (fun (_ : Unit) => some 0)) : Option (Int32))).bind (fun z48 => (some (y42 + 1)).bind fun x51 => some (Sum.inl (z48, x51)))) : Option ((Int32 × Int32) ⊕ (Int32)))) LN (1, 0)).bind (fun y43 => F y43 ν36))) R := by
  refine ok_b (q_layS h) ?_
  rintro ν3 ⟨g1, g2, g3⟩
  have hR0 : RwIs ν3 119 24 (fun c => x.1 (24 + c)) := fun q hq => g1 _ (by omega)
  refine ok_for (fun c ν => RwIs ν 119 24 (ddF (nI pv) nc set (fun c => x.1 (24 + c)) c) ∧ ∀ k, k ≠ 119 → ν k = ν3 k) 0 nc (by omega) (by omega) rfl ⟨hR0, fun _ _ => rfl⟩ ?_ ?_
  · rintro c ν _ hc ⟨k1, k2⟩
    have f5 : ν 106 5 = nI nc := by rw [k2 106 (by omega), g3]; exact e5
    simp only [f5]
    rw [if_neg (by rw [x_le (by omega) (by omega)]; omega)]
    refine ok_b (R1 := fun ν' => RwIs ν' 119 24 (ddF (nI pv) nc set (fun c => x.1 (24 + c)) (c + 1)) ∧ ∀ k, k ≠ 119 → ν' k = ν3 k) ?_ ?_
    · rw [ddF]
      by_cases hbt : bt (nI set) c = true
      · rw [if_pos hbt, if_pos ((bitC (nI set) (by omega)).1.mpr hbt)]
        refine ok_b (r_flame f5 hnc hc k1) ?_
        rintro ν' ⟨l1, l2⟩
        exact ok_s ⟨l1, fun k hk => by rw [l2 k hk]; exact k2 k hk⟩
      · rw [if_neg hbt, if_neg (fun hq => hbt ((bitC (nI set) (by omega)).1.mp hq))]
        exact ok_s ⟨k1, k2⟩
    · rintro ν' hν
      rw [ob_s, n1]
      exact ok_s (Or.inl ⟨_, rfl, hν⟩)
  · rintro ν ⟨k1, k2⟩
    have f5 : ν 106 5 = nI nc := by rw [k2 106 (by omega), g3]; exact e5
    simp only [f5]
    rw [if_pos (by rw [x_le (by omega) (by omega)]; omega)]
    refine ok_s ⟨_, rfl, ?_⟩
    simp only [f5]
    have hfr : FrX μ ν := g2.trans ⟨fun k a b => k2 k (by omega), fun j _ _ => by rw [k2 106 (by omega)]⟩
    have hFν := hF ν hfr
    unfold okS at hFν
    generalize ddF (nI pv) nc set (fun c => x.1 (24 + c)) nc = W at k1 hFν
    refine ok_l (fun m q => ∃ i, i + m = nc ∧ q = (bI (alB (ckB t W) i = true), nI i)) nc (by omega) ⟨0, by omega, rfl⟩ ?_
    rintro m q ⟨i, hi, rfl⟩
    by_cases hm : m = 0
    · have : i = nc := by omega
      subst this
      simp only []
      rw [if_pos (by rw [x_le (by omega) (by omega)]; omega)]
      exact ok_s (Or.inl ⟨_, rfl, hFν⟩)
    · simp only []
      rw [if_neg (by rw [x_le (by omega) (by omega)]; omega)]
      have hbody : (((if bI (alB (ckB t W) i = true) = 0 then some (Sum.inr ()) else (ald Zc ν 119 (24 + nI i)).bind fun x56 => (m_X9_in Zc ((x56 : Int32).toInt64) ((-nI t : Int32).toInt64) ((nI t : Int32).toInt64) ν).bind fun r57 => (if r57 = 0 then some (Sum.inr ()) else some (Sum.inl 1))) : Option ((Int32) ⊕ (Unit)))).bind (jn (fun (_ : Unit) => some 0)) = some (bI (alB (ckB t W) (i + 1) = true)) := by
        rw [alB_s]
        by_cases ha : alB (ckB t W) i = true
        · rw [bI_t ha, if_neg (by decide), x_la, al_119 (by omega), ob_s, k1 i (by omega), q_in, Int32.toInt_toInt64, Int32.toInt_toInt64, Int32.toInt_toInt64, ti_neg (by rw [ti_n (by omega)]; omega), ti_n (by omega), ob_s, ha]
          unfold ckB
          by_cases hc : -(t : Int) ≤ (W i).toInt ∧ (W i).toInt ≤ t
          · rw [bI_t hc, if_neg (by decide), ob_s, bI_t (by simpa using hc)]
            rfl
          · rw [bI_f hc, if_pos rfl, ob_s, bI_f (by simpa using hc)]
            rfl
        · rw [bI_f ha, if_pos rfl, ob_s, bI_f (by simp [ha])]
          rfl
      rw [hbody, ob_s, ob_s, n1]
      exact ok_s (Or.inr ⟨_, m - 1, rfl, by omega, i + 1, by omega, rfl⟩)
theorem op_spots {ν : MT} (h : Inv ν) (a0 a1 : Int32) : OkI Inv (m_X8_spots Zc 127 0 a0 a1 ν) (fun μ => m_X9_spots Zc 106 a0 a1 μ) := by
  obtain ⟨p, d, nc, ns, na, nb, h⟩ := h
  obtain ⟨c1, c2, c3, ⟨hp, hd, hpd, e11, e12⟩, c5, c6, c7, c8, c9, c10, c11, c12, c13⟩ := id h
  obtain ⟨hnc, hns, hna, hnb⟩ := pl_bd c5
  obtain ⟨x, x1, x2, x3⟩ := la_ex c9
  have e0 := c5.1.1
  have hN := two_le hnc
  have gi1 : ∀ μ : MT, m_X9_in Zc a0.toInt64 1 20 μ = some (bI (1 ≤ a0.toInt ∧ a0.toInt ≤ 20)) := fun μ => by
    rw [q_in, Int32.toInt_toInt64, show (1 : Int64).toInt = 1 from rfl, show (20 : Int64).toInt = 20 from rfl]
  have gi2 : ∀ μ : MT, m_X9_in Zc a1.toInt64 0 40 μ = some (bI (0 ≤ a1.toInt ∧ a1.toInt ≤ 40)) := fun μ => by
    rw [q_in, Int32.toInt_toInt64, show (0 : Int64).toInt = 0 from rfl, show (40 : Int64).toInt = 40 from rfl]
  have t1 : (a0 < 1) ↔ a0.toInt < 1 := by rw [fa_lt]; rfl
  have t20 : (20 < a0) ↔ 20 < a0.toInt := by rw [fa_lt]; rfl
  have t0 : (a1 < 0) ↔ a1.toInt < 0 := by rw [fa_lt]; rfl
  have t40 : (a1 ≤ 40) ↔ a1.toInt ≤ 40 := by rw [fa_le]; rfl
  by_cases ha : (1 ≤ a0.toInt ∧ a0.toInt ≤ 20) ∧ (0 ≤ a1.toInt ∧ a1.toInt ≤ 40)
  case neg =>
    refine okI_of (a := -1000001) (P := fun μ => μ = ν) ?_ ?_
    · unfold m_X8_spots
      simp only [t1, t20, t0, t40]
      by_cases q1 : a0.toInt < 1
      · rw [if_pos q1]; exact ok_s ⟨rfl, rfl⟩
      · rw [if_neg q1]
        by_cases q2 : 20 < a0.toInt
        · rw [if_pos q2]; exact ok_s ⟨rfl, rfl⟩
        · rw [if_neg q2]
          by_cases q3 : a1.toInt < 0
          · rw [if_pos q3]; exact ok_s ⟨rfl, rfl⟩
          · rw [if_neg q3, if_neg (by omega)]; exact ok_s ⟨rfl, rfl⟩
    · rintro μ rfl
      unfold m_X9_spots
      rw [ob_s, gi1, ob_s]
      by_cases q1 : 1 ≤ a0.toInt ∧ a0.toInt ≤ 20
      · rw [bI_t q1, if_neg (by decide), gi2, ob_s, bI_f (fun q => ha ⟨q1, q⟩), if_pos rfl]
        exact ok_s ⟨rfl, p, d, nc, ns, na, nb, c_x h (FrX.refl μ).w0⟩
      · rw [bI_f q1, if_pos rfl]
        exact ok_s ⟨rfl, p, d, nc, ns, na, nb, c_x h (FrX.refl μ).w0⟩
  obtain ⟨ha0, ha1⟩ := ha
  by_cases hz : nc = 0
  · refine okI_of (a := -1000002) (P := fun μ => μ = ν) ?_ ?_
    · unfold m_X8_spots
      simp only [t1, t20, t0, t40]
      rw [if_neg (by omega), if_neg (by omega), if_neg (by omega), if_pos (by omega), e11, mrd_p hp, ob_s, q_none e0 (by omega), ob_s, bI_t hz, if_neg (by decide)]
      exact ok_s ⟨rfl, rfl⟩
    · rintro μ rfl
      have m5 : u2 μ 106 0 0 106 5 = nI nc := c6.1
      unfold m_X9_spots
      rw [ob_s, gi1, ob_s, bI_t ha0, if_neg (by decide), gi2, ob_s, bI_t ha1, if_neg (by decide), m5, if_pos (by rw [hz]; rfl)]
      exact ok_s ⟨rfl, p, d, nc, ns, na, nb, c_x h (FrX.refl μ).w0⟩
  · have hz' : ¬ nI nc = 0 := by rw [x_eql (by omega) (by omega)]; exact hz
    obtain ⟨pv, hpv, rfl⟩ := nI_ex (n := 21) (a := a0) (by omega) (by omega)
    obtain ⟨t, ht, rfl⟩ := nI_ex (n := 41) (a := a1) (by omega) (by omega)
    have hpv1 : 1 ≤ pv := by rw [ti_n (by omega)] at ha0; omega
    refine okI_of2 (Q := SpR (nI pv) t nc (fun c => ν 23 c)) (P := fun μ => ∀ k, k ≠ 18 → μ k = ν k) SpR_u (p_spots hp e11 e0 hz hnc hpv1 (by omega) (by omega) x1 x2) ?_
    rintro μ f
    have hcore : Core μ p d nc ns na nb := by
      refine c_gen h ?_ ?_ ?_ ?_ (Or.inl ⟨?_, ?_⟩) (Or.inl ⟨?_, ?_, ?_, ?_, ?_⟩) (Or.inl ⟨?_, ?_⟩) (Or.inl ⟨?_, ?_⟩)
      · rw [f 0 (by omega), f 106 (by omega)]; exact c2.1
      · intro j _; rw [f 0 (by omega)]
      · intro j _; rw [f 106 (by omega)]
      · intro k hk; exact f k (by omega)
      · exact f 17 (by omega)
      · exact f 118 (by omega)
      · rw [f 0 (by omega)]
      · rw [f 106 (by omega)]
      · rw [f 106 (by omega)]
      · exact f 122 (by omega)
      · intro k a b; exact f k (by omega)
      · intro j _ _; rw [f 33 (by omega)]
      · exact f 36 (by omega)
      · rw [f 87 (by omega)]
      · exact f 88 (by omega)
    have m5 : μ 106 5 = nI nc := by rw [f 106 (by omega)]; exact c6.1
    have m5' : u2 μ 106 0 0 106 5 = nI nc := m5
    have hst : StIs μ x := by
      unfold StIs
      rw [f 106 (by omega), f 122 (by omega), f 117 (by omega)]
      exact x3
    have hRc : ∀ set, okS (nI pv) t nc (fun c => x.1 (24 + c)) set = okS (nI pv) t nc (fun c => ν 23 c) set := fun set => okS_c (fun c hc => ((x1.2.2.2 c hc).2.1).symm)
    unfold m_X9_spots
    simp only [zA]
    rw [ob_s, gi1, ob_s, bI_t ha0, if_neg (by decide), gi2, ob_s, bI_t ha1, if_neg (by decide), m5', if_neg hz']
    refine ok_for (fun sz ξ => FrX μ ξ ∧ ∀ b, b < 2 ^ nc → okS (nI pv) t nc (fun c => ν 23 c) b = true → sz ≤ pcN b nc) 0 4 (by omega) (by omega) rfl ⟨(FrX.refl μ).w0, fun b _ _ => by omega⟩ ?_ ?_
    · rintro sz ξ _ hsz ⟨k1, k2⟩
      simp only []
      rw [if_neg (by rw [x_lle (by omega) (by omega)]; omega)]
      refine ok_for (fun b ω => FrX μ ω ∧ ∀ b', b' < b → okS (nI pv) t nc (fun c => ν 23 c) b' = true → sz + 1 ≤ pcN b' nc) 0 (2 ^ nc) (Nat.zero_le _) (by omega) rfl ⟨k1, fun b hb => by omega⟩ ?_ ?_
      · rintro b ω _ hb ⟨l1, l2⟩
        have o5 : ω 106 5 = nI nc := by rw [l1.2 5 (by omega) (by omega)]; exact m5
        have hpc := pcN_le b nc
        simp only [o5, one_sh hnc]
        rw [if_neg (by rw [x_le (by omega) (by omega)]; omega)]
        refine r_pop hnc ?_
        by_cases hq : pcN b nc = sz
        · rw [if_pos (by rw [hq])]
          refine ok_b (R1 := fun q => (okS (nI pv) t nc (fun c => ν 23 c) b = true ∧ ∃ ω', FrX μ ω' ∧ q = Sum.inl (Sum.inr (Sum.inl (Sum.inr (Sum.inl (nI b, ω')))))) ∨ (¬ okS (nI pv) t nc (fun c => ν 23 c) b = true ∧ ∃ ω', FrX μ ω' ∧ q = Sum.inr ω')) ?_ ?_
          · refine r_try (st_fr hst l1) o5 hnc (by omega) (F := fun y ν36 => if y = 0 then some (Sum.inr ν36) else some (Sum.inl (Sum.inr (Sum.inl (Sum.inr (Sum.inl (nI b, ν36))))))) ?_
            intro ω' w1
            rw [hRc]
            by_cases ho : okS (nI pv) t nc (fun c => ν 23 c) b = true
            · simp only [bI_t ho, one0, if_false]
              exact ok_s (Or.inl ⟨ho, ω', l1.trans w1, rfl⟩)
            · simp only [bI_f ho, if_true]
              exact ok_s (Or.inr ⟨ho, ω', l1.trans w1, rfl⟩)
          · rintro q (⟨ho, ω', w1, rfl⟩ | ⟨ho, ω', w1, rfl⟩)
            · refine ok_s (Or.inr ⟨_, rfl, ok_s (Or.inr ⟨_, rfl, ok_s ⟨Or.inr ⟨b, hb, rfl, ho, by omega, fun b' hb' ho' => ?_, fun b' hb' ho' => ?_⟩, p, d, nc, ns, na, nb, c_x hcore w1⟩⟩)⟩)
              · have := k2 b' hb' ho'
                omega
              · have := l2 b' hb' ho'
                omega
            · simp only [jn, ob_s, n1]
              refine ok_s (Or.inl ⟨_, rfl, w1, fun b' hb' ho' => ?_⟩)
              by_cases hbb : b' = b
              · rw [hbb] at ho'; exact absurd ho' ho
              · exact l2 b' (by omega) ho'
        · rw [if_neg (by rw [x_eq (by omega) (by omega)]; exact hq)]
          simp only [ob_s, jn, n1]
          refine ok_s (Or.inl ⟨_, rfl, l1, fun b' hb' ho' => ?_⟩)
          by_cases hbb : b' = b
          · have := k2 b hb (by rw [← hbb]; exact ho')
            rw [hbb]
            omega
          · exact l2 b' (by omega) ho'
      · rintro ω ⟨l1, l2⟩
        have o5 : ω 106 5 = nI nc := by rw [l1.2 5 (by omega) (by omega)]; exact m5
        simp only [o5, one_sh hnc]
        rw [if_pos (by rw [x_le (by omega) (by omega)]; omega)]
        refine ok_s ⟨_, rfl, ?_⟩
        simp only [jn, ob_s, n1]
        exact ok_s (Or.inl ⟨_, rfl, l1, l2⟩)
    · rintro ξ ⟨k1, k2⟩
      simp only []
      rw [if_pos (by decide)]
      exact ok_s ⟨_, rfl, ok_s ⟨Or.inl ⟨rfl, k2⟩, p, d, nc, ns, na, nb, c_x hcore k1⟩⟩
end
section
/-! ===== orders: the next one, all of them ===== -/
def nkF (O : Nat → Nat) : Nat → Option Nat
  | 0 => none
  | k + 1 => if O k ≤ O (k + 1) then some k else nkF O k
def nqF (O : Nat → Nat) (v : Nat) : Nat → Nat
  | 0 => 0
  | q + 1 => if v ≤ O (q + 1) then q + 1 else nqF O v q
def swF (O : Nat → Nat) (k q : Nat) : Nat → Nat := fun j => if j = q then O k else if j = k then O q else O j
def rvF (O : Nat → Nat) (lo hi : Nat) : Nat → Nat := fun j => if lo ≤ j ∧ j ≤ hi then O (lo + hi - j) else O j
def nxF (ns : Nat) (O : Nat → Nat) : Option (Nat → Nat) :=
  match nkF O (ns - 1) with
  | none => none
  | some k => some (rvF (swF O k (nqF O (O k) (ns - 1))) (k + 1) (ns - 1))
def nxL (ns : Nat) (l : List Nat) : Option (List Nat) := (nxF ns (fun j => l.getD j 0)).map (fun O => (List.range ns).map O)
def chkL (ns : Nat) : List (List Nat) → Bool
  | [] => true
  | l :: r => decide (nxL ns l = r.head?) && chkL ns r
theorem pl_chain : ∀ ns, ns < 7 → chkL ns (pmA ns ns []) = true := by decide +kernel
theorem pl_head : ∀ ns, ns < 7 → (pmA ns ns []).head? = some (List.range ns) := by decide +kernel
theorem pl_all : ∀ ns, ns < 7 → (pmA ns ns []).all (fun l => decide (l.length = ns) && l.all (fun s => decide (s < ns))) = true := by decide +kernel
theorem pl_len : ∀ ns, ns < 7 → (pmA ns ns []).length < 1000 := by decide +kernel
theorem chk_suf {ns : Nat} {l : List Nat} {r : List (List Nat)} : ∀ {pre : List (List Nat)}, chkL ns (pre ++ l :: r) = true → nxL ns l = r.head?
  | [], h => by
    simp only [List.nil_append, chkL, Bool.and_eq_true, decide_eq_true_eq] at h
    exact h.1
  | q :: pre, h => by
    simp only [List.cons_append, chkL, Bool.and_eq_true] at h
    exact chk_suf h.2
def OrI (ν : MT) (ns : Nat) (O : Nat → Nat) : Prop := ∀ k, k < ns → ν 124 k = nI (O k)
theorem nkF_lt {O : Nat → Nat} : ∀ {n k : Nat}, nkF O n = some k → k < n
  | 0, k, h => by simp [nkF] at h
  | n + 1, k, h => by
    rw [nkF] at h
    by_cases hc : O n ≤ O (n + 1)
    · rw [if_pos hc] at h
      have := Option.some.inj h
      omega
    · rw [if_neg hc] at h
      have := nkF_lt h
      omega
theorem r_nk {μ : MT} {ns : Nat} {O : Nat → Nat} (hO : OrI μ ns O) (hb : ∀ k, k < ns → O k < 1000) (hns : ns ≤ 6) {γ : Type} {F : Int32 → Option γ} {R : γ → Prop} {y : Int32} (hy : y = nI ns - 2)
    (hF : (nkF O (ns - 1) = none → ∀ v : Int32, ¬ 0 ≤ v → Ok (F v) R) ∧ (∀ k, nkF O (ns - 1) = some k → Ok (F (nI k)) R)) :
    Ok ((loop (σ := Int32) (τ := Int32) (fun y2 => ((if y2 < 0 then some (Sum.inr y2) else (ald Zc μ 124 y2).bind fun x49 => (ald Zc μ 124 (y2 + 1)).bind fun x51 => (if x49 ≤ x51 then some (Sum.inr y2) else (some (y2 + (-1))).bind fun x52 => some (Sum.inl x52))) : Option ((Int32) ⊕ (Int32)))) LN y).bind F) R := by
  by_cases h0 : ns = 0
  · subst h0
    refine ok_l (fun m s => s = nI 0 - 2) 0 (by omega) hy ?_
    rintro m s rfl
    rw [if_pos (by decide)]
    exact ok_s (Or.inl ⟨_, rfl, hF.1 rfl _ (by decide)⟩)
  · have hy2 : y = nI (ns - 1) + -1 := by
      rw [hy]
      obtain ⟨n, rfl⟩ : ∃ n, ns = n + 1 := ⟨ns - 1, by omega⟩
      rw [← n1, show n + 1 - 1 = n by omega]
      grind
    refine ok_l (fun m s => s = nI m + -1 ∧ m ≤ ns - 1 ∧ nkF O m = nkF O (ns - 1)) (ns - 1) (by omega) ⟨hy2, Nat.le_refl _, rfl⟩ ?_
    rintro m s ⟨rfl, hm, he⟩
    cases m with
    | zero =>
      rw [if_pos (by decide)]
      exact ok_s (Or.inl ⟨_, rfl, hF.1 he.symm _ (by decide)⟩)
    | succ k =>
      rw [nm_1, if_neg (by rw [x_ltl (by omega) (by omega)]; omega), al_124 (by omega), ob_s, n1, al_124 (by omega), ob_s, hO k (by omega), hO (k + 1) (by omega)]
      have b1 := hb k (by omega)
      have b2 := hb (k + 1) (by omega)
      rw [nkF] at he
      by_cases hc : O k ≤ O (k + 1)
      · rw [if_pos (by rw [x_le (by omega) (by omega)]; exact hc)]
        rw [if_pos hc] at he
        exact ok_s (Or.inl ⟨_, rfl, hF.2 k he.symm⟩)
      · rw [if_neg (by rw [x_le (by omega) (by omega)]; exact hc), ob_s]
        rw [if_neg hc] at he
        exact ok_s (Or.inr ⟨_, k, rfl, by omega, rfl, by omega, he⟩)
theorem r_nq {μ : MT} {ns k : Nat} {O : Nat → Nat} (hO : OrI μ ns O) (hb : ∀ k, k < ns → O k < 1000) (hns : ns ≤ 6) (hk : k < ns - 1) {γ : Type} {F : Int32 → Option γ} {R : γ → Prop} {y : Int32} (hy : y = nI ns - 1)
    (hF : Ok (F (nI (nqF O (O k) (ns - 1)))) R) :
    Ok ((loop (σ := Int32) (τ := Int32) (fun y9 => ((ald Zc μ 124 y9).bind fun x44 => (ald Zc μ 124 (nI k)).bind fun x46 => (if x46 ≤ x44 then some (Sum.inr y9) else (some (y9 + (-1))).bind fun x47 => some (Sum.inl x47)) : Option ((Int32) ⊕ (Int32)))) LN y).bind F) R := by
  have hy2 : y = nI (ns - 1) := by rw [hy, x_sl (by omega)]
  refine ok_l (fun m s => s = nI m ∧ k ≤ m ∧ m ≤ ns - 1 ∧ nqF O (O k) m = nqF O (O k) (ns - 1)) (ns - 1) (by omega) ⟨hy2, by omega, Nat.le_refl _, rfl⟩ ?_
  rintro m s ⟨rfl, hkm, hm, he⟩
  rw [al_124 (by omega), ob_s, al_124 (by omega), ob_s, hO m (by omega), hO k (by omega)]
  have b1 := hb k (by omega)
  have b2 := hb m (by omega)
  by_cases hc : O k ≤ O m
  · rw [if_pos (by rw [x_le (by omega) (by omega)]; exact hc)]
    have : nqF O (O k) m = m := by
      cases m with
      | zero => rfl
      | succ q => rw [nqF, if_pos hc]
    rw [this] at he
    rw [he]
    exact ok_s (Or.inl ⟨_, rfl, hF⟩)
  · rw [if_neg (by rw [x_le (by omega) (by omega)]; exact hc), ob_s]
    cases m with
    | zero =>
      have : k = 0 := by omega
      subst this
      exact absurd (Nat.le_refl _) hc
    | succ q =>
      rw [nqF, if_neg hc] at he
      rw [nm_1]
      refine ok_s (Or.inr ⟨_, q, rfl, by omega, rfl, ?_, by omega, he⟩)
      by_cases hq : k = q + 1
      · rw [hq] at hc; exact absurd (Nat.le_refl _) hc
      · omega
theorem nqF_le {O : Nat → Nat} {v : Nat} : ∀ n, nqF O v n ≤ n
  | 0 => Nat.le_refl _
  | n + 1 => by
    rw [nqF]
    by_cases hc : v ≤ O (n + 1)
    · rw [if_pos hc]; exact Nat.le_refl _
    · rw [if_neg hc]
      have := nqF_le (O := O) (v := v) n
      omega
theorem r_rv {μ : MT} {ns lo : Nat} {O : Nat → Nat} (hO : OrI μ ns O) (hns : ns ≤ 6) (hlo : 1 ≤ lo) (hk : lo ≤ ns - 1) {γ : Type} {F : MT → Option γ} {R : γ → Prop} {y z : Int32} (hy : y = nI lo) (hz : z = nI ns - 1)
    (hF : ∀ ν, (∀ k, k ≠ 124 → ν k = μ k) → OrI ν ns (rvF O lo (ns - 1)) → Ok (F ν) R) :
    Ok ((loop (σ := Int32 × Int32 × MT) (τ := MT) (fun (y25, y26, ν27) => ((if y26 ≤ y25 then some (Sum.inr ν27) else (ald Zc ν27 124 y25).bind fun x34 => (ald Zc ν27 124 y26).bind fun x37 => (ast Zc ν27 124 y25 x37).bind fun ν38 => (ast Zc ν38 124 y26 x34).bind fun ν40 => (some (y25 + 1)).bind fun x41 => (some (y26 + (-1))).bind fun x42 => some (Sum.inl (x41, x42, ν40))) : Option ((Int32 × Int32 × MT) ⊕ (MT)))) LN (y, z, μ)).bind F) R := by
  have hz2 : z = nI (ns - 1) := by rw [hz, x_sl (by omega)]
  subst hy hz2
  refine ok_l (fun m s => ∃ a b, a + b = lo + (ns - 1) ∧ lo ≤ a ∧ a ≤ b + 1 ∧ b = m ∧ b ≤ ns - 1 ∧ s.1 = nI a ∧ s.2.1 = nI b ∧ (∀ k, k ≠ 124 → s.2.2 k = μ k) ∧ ∀ j, j < ns → s.2.2 124 j = nI (if (lo ≤ j ∧ j < a) ∨ (b < j ∧ j ≤ ns - 1) then O (lo + (ns - 1) - j) else O j)) (ns - 1) (by omega) ⟨lo, ns - 1, rfl, Nat.le_refl _, by omega, rfl, Nat.le_refl _, rfl, rfl, fun _ _ => rfl, fun j hj => by rw [if_neg (by omega)]; exact hO j hj⟩ ?_
  rintro m ⟨y, z, ν⟩ ⟨a, b, h1, h2, h3, h4, h5, h6, h7, h8, h9⟩
  simp only at h6 h7 h8 h9
  subst h6 h7
  simp only []
  by_cases hc : b ≤ a
  · rw [if_pos (by rw [x_le (by omega) (by omega)]; exact hc)]
    refine ok_s (Or.inl ⟨_, rfl, hF ν h8 (fun j hj => ?_)⟩)
    rw [h9 j hj]
    unfold rvF
    by_cases hj1 : (lo ≤ j ∧ j < a) ∨ (b < j ∧ j ≤ ns - 1)
    · rw [if_pos hj1, if_pos (by omega)]
    · rw [if_neg hj1]
      by_cases hj2 : lo ≤ j ∧ j ≤ ns - 1
      · rw [if_pos hj2, show lo + (ns - 1) - j = j by omega]
      · rw [if_neg hj2]
  · rw [if_neg (by rw [x_le (by omega) (by omega)]; exact hc), al_124 (by omega), ob_s, al_124 (by omega), ob_s, as_124 (by omega), ob_s, as_124 (by omega), ob_s, n1, ob_s]
    obtain ⟨b', rfl⟩ : ∃ b', b = b' + 1 := ⟨b - 1, by omega⟩
    rw [nm_1, ob_s]
    refine ok_s (Or.inr ⟨_, b', rfl, by omega, a + 1, b', by omega, by omega, by omega, rfl, by omega, rfl, rfl, fun k hk => ?_, fun j hj => ?_⟩)
    · simp only [u2_w]
      rw [if_neg hk, if_neg hk]; exact h8 k hk
    · have ea := h9 a (by omega)
      have eb := h9 (b' + 1) (by omega)
      rw [if_neg (by omega)] at ea eb
      simp only [u2_r]
      by_cases hjb : j = b' + 1
      · subst hjb
        rw [if_pos ⟨trivial, rfl⟩, ea, if_pos (by omega), show lo + (ns - 1) - (b' + 1) = a by omega]
      · rw [if_neg (by omega)]
        by_cases hja : j = a
        · subst hja
          rw [if_pos ⟨trivial, rfl⟩, eb, if_pos (by omega), show lo + (ns - 1) - j = b' + 1 by omega]
        · rw [if_neg (by omega), h9 j hj]
          by_cases hj1 : (lo ≤ j ∧ j < a) ∨ (b' + 1 < j ∧ j ≤ ns - 1)
          · rw [if_pos hj1, if_pos (by omega)]
          · rw [if_neg hj1, if_neg (by omega)]
theorem r_next {μ : MT} {ns : Nat} {l : List Nat} (e6 : μ 106 6 = nI ns) (hO : OrI μ ns (fun j => l.getD j 0)) (hb : ∀ k, k < ns → l.getD k 0 < 1000) (hns : ns ≤ 6) :
    Ok (m_X9_nextOrder Zc 106 μ) (fun q => (∀ k, k ≠ 124 → q.2 k = μ k) ∧ ((nxL ns l = none ∧ q.1 = 0) ∨ (∃ l', nxL ns l = some l' ∧ q.1 = 1 ∧ OrI q.2 ns (fun j => l'.getD j 0)))) := by
  unfold m_X9_nextOrder
  simp only [zA, e6, ob_s]
  refine r_nk hO hb hns rfl ⟨?_, ?_⟩
  · intro hn v hv
    rw [if_neg hv]
    refine ok_s ⟨fun _ _ => rfl, Or.inl ⟨?_, rfl⟩⟩
    unfold nxL nxF
    rw [hn]
    rfl
  · intro k hk
    have hkl := nkF_lt hk
    rw [if_pos (by rw [x_lle (by omega) (by omega)]; omega)]
    refine r_nq hO hb hns (by omega) rfl ?_
    have hq := nqF_le (O := fun j => l.getD j 0) (v := l.getD k 0) (ns - 1)
    have hx : nxL ns l = some ((List.range ns).map (rvF (swF (fun j => l.getD j 0) k (nqF (fun j => l.getD j 0) (l.getD k 0) (ns - 1))) (k + 1) (ns - 1))) := by
      unfold nxL nxF
      rw [hk]
      rfl
    generalize nqF (fun j => l.getD j 0) (l.getD k 0) (ns - 1) = q at hq hx ⊢
    rw [al_124 (by omega), ob_s, al_124 (by omega), ob_s, as_124 (by omega), ob_s, as_124 (by omega), ob_s, n1, hO k (by omega), hO q (by omega)]
    have g : ∀ j, j ≠ 124 → u2 (u2 μ 124 k (nI (l.getD q 0))) 124 q (nI (l.getD k 0)) j = μ j := fun j hj => by rw [u2_w, if_neg hj, u2_w, if_neg hj]
    have g1 : OrI (u2 (u2 μ 124 k (nI (l.getD q 0))) 124 q (nI (l.getD k 0))) ns (swF (fun j => l.getD j 0) k q) := fun j hj => by
      unfold swF
      rw [u2_r]
      by_cases hjq : j = q
      · rw [if_pos ⟨rfl, hjq⟩, if_pos hjq]
      · rw [if_neg (by omega), if_neg hjq, u2_r]
        by_cases hjk : j = k
        · rw [if_pos ⟨rfl, hjk⟩, if_pos hjk]
        · rw [if_neg (by omega), if_neg hjk]
          exact hO j hj
    generalize u2 (u2 μ 124 k (nI (l.getD q 0))) 124 q (nI (l.getD k 0)) = ω at g g1 ⊢
    rw [g 106 (by omega), e6]
    refine r_rv g1 hns (by omega) (by omega) rfl rfl ?_
    intro ν n1' n2
    refine ok_s ⟨fun j hj => by show ν j = _; rw [n1' j hj]; exact g j hj, Or.inr ⟨_, hx, rfl, fun j hj => ?_⟩⟩
    show ν 124 j = _
    rw [n2 j hj]
    simp [List.getD, hj]
/-! ===== which orders fit ===== -/
theorem r_fits {μ : MT} {ns nb : Nat} (e6 : μ 106 6 = nI ns) (e8 : μ 106 8 = nI nb) (hns : ns ≤ 6) (hnb : nb ≤ 10) : m_X9_fits Zc 106 μ = some (bI (ftA ns nb (μ 111) (μ 112) (μ 124) = true)) := by
  unfold m_X9_fits
  simp only [zA, e6, e8]
  have hall : ∀ b, ftA ns (b + 1) (μ 111) (μ 112) (μ 124) = (ftA ns b (μ 111) (μ 112) (μ 124) && decide (psA (μ 124) (μ 111 b) ns < psA (μ 124) (μ 112 b) ns)) := fun b => by
    unfold ftA
    rw [List.range_succ, List.all_append]
    simp
  have hps : ∀ v n, psA (μ 124) v n ≤ n := fun v n => by
    induction n with
    | zero => exact Nat.le_refl _
    | succ n ih =>
      rw [psA]
      by_cases hc : μ 124 n = v
      · rw [if_pos hc]; omega
      · rw [if_neg hc]; omega
  apply ok_eq
  refine ok_l (fun m q => ∃ b, b + m = nb ∧ q = (bI (ftA ns b (μ 111) (μ 112) (μ 124) = true), nI b)) nb (by omega) ⟨0, by omega, rfl⟩ ?_
  rintro m q ⟨b, hb, rfl⟩
  simp only []
  by_cases hm : m = 0
  · have : b = nb := by omega
    subst this
    rw [if_pos (by rw [x_le (by omega) (by omega)]; omega)]
    refine ok_s (Or.inl ⟨_, rfl, ?_⟩)
    rw [bz_b, ob_s]
    exact ok_s rfl
  · rw [if_neg (by rw [x_le (by omega) (by omega)]; omega)]
    refine ok_l (fun m q => ∃ k, k + m = ns ∧ q = (nI (psA (μ 124) (μ 111 b) k), nI (psA (μ 124) (μ 112 b) k), nI k)) ns (by omega) ⟨0, by omega, rfl⟩ ?_
    rintro m2 q ⟨k, hk, rfl⟩
    simp only []
    by_cases hm2 : m2 = 0
    · have : k = ns := by omega
      subst this
      rw [if_pos (by rw [x_le (by omega) (by omega)]; omega)]
      refine ok_s (Or.inl ⟨_, rfl, ?_⟩)
      have p1 := hps (μ 111 b) k
      have p2 := hps (μ 112 b) k
      simp only []
      have hbody : ((((if bI (ftA k b (μ 111) (μ 112) (μ 124) = true) = 0 then some (Sum.inr ()) else (if nI (psA (μ 124) (μ 112 b) k) ≤ nI (psA (μ 124) (μ 111 b) k) then some (Sum.inr ()) else some (Sum.inl 1))) : Option ((Int32) ⊕ (Unit)))).bind (jn (fun (_ : Unit) => some 0)) : Option (Int32)) = some (bI (ftA k (b + 1) (μ 111) (μ 112) (μ 124) = true)) := by
        rw [hall]
        by_cases h1 : ftA k b (μ 111) (μ 112) (μ 124) = true
        · rw [bI_t h1, if_neg (by decide), h1]
          by_cases h2 : psA (μ 124) (μ 112 b) k ≤ psA (μ 124) (μ 111 b) k
          · rw [if_pos (by rw [x_le (by omega) (by omega)]; exact h2), ob_s, bI_f (by simp; omega)]
            rfl
          · rw [if_neg (by rw [x_le (by omega) (by omega)]; exact h2), ob_s, bI_t (by simp; omega)]
            rfl
        · rw [bI_f h1, if_pos rfl, ob_s, bI_f (by simp [h1])]
          rfl
      rw [hbody, ob_s, ob_s, n1]
      exact ok_s (Or.inr ⟨_, m - 1, rfl, by omega, b + 1, by omega, rfl⟩)
    · rw [if_neg (by rw [x_le (by omega) (by omega)]; omega), al_124 (by omega), ob_s, al_111 (by omega), ob_s]
      have hif : ∀ (p : Prop) [Decidable p] (x y : Int32), (if p then some x else some y) = some (if p then x else y) := fun p _ x y => by
        by_cases hp : p
        · rw [if_pos hp, if_pos hp]
        · rw [if_neg hp, if_neg hp]
      have hif2 : ∀ (p : Prop) [Decidable p] (x y : Nat), (if p then nI x else nI y) = nI (if p then x else y) := fun p _ x y => by
        by_cases hp : p
        · rw [if_pos hp, if_pos hp]
        · rw [if_neg hp, if_neg hp]
      rw [hif, ob_s, al_112 (by omega), ob_s, ob_s, hif, ob_s, n1, ob_s, hif2, hif2]
      exact ok_s (Or.inr ⟨_, m2 - 1, rfl, by omega, k + 1, by omega, rfl⟩)
end
section
/-! ===== which orders fit, by prefixes ===== -/
def sumN (f : Nat → Nat) : Nat → Nat
  | 0 => 0
  | n + 1 => sumN f n + f n
theorem sumN_c {f g : Nat → Nat} : ∀ {n : Nat}, (∀ i, i < n → f i = g i) → sumN f n = sumN g n
  | 0, _ => rfl
  | n + 1, h => by rw [sumN, sumN, sumN_c (fun i hi => h i (by omega)), h n (by omega)]
theorem sumN_u {f g : Nat → Nat} {c : Nat} : ∀ {n : Nat}, c < n → (∀ i, i ≠ c → f i = g i) → sumN f n + g c = sumN g n + f c
  | 0, h, _ => by omega
  | n + 1, h, hg => by
    rw [sumN, sumN]
    by_cases hc : c = n
    · subst hc
      rw [sumN_c (g := g) (fun i hi => hg i (by omega))]
      omega
    · have := sumN_u (n := n) (by omega) hg
      rw [hg n (by omega)]
      omega
theorem flat_cg {α β : Type} {f g : α → List β} : ∀ {L : List α}, (∀ a, a ∈ L → f a = g a) → L.flatMap f = L.flatMap g
  | [], _ => rfl
  | a :: L, h => by
    rw [List.flatMap_cons, List.flatMap_cons, h a List.mem_cons_self, flat_cg (fun b hb => h b (List.mem_cons_of_mem _ hb))]
theorem flat_len {α : Type} {f : Nat → List α} : ∀ n, ((List.range n).flatMap f).length = sumN (fun s => (f s).length) n
  | 0 => rfl
  | n + 1 => by
    rw [List.range_succ, List.flatMap_append, List.length_append, flat_len n, sumN]
    simp
def mfB (w : Nat → Nat) (s b : Nat) : Bool := !(b.testBit s) && (List.range 6).all (fun f => !((w s).testBit f) || b.testBit f)
def blL (l : List Nat) : Nat := l.foldl (fun b s => b ||| 2 ^ s) 0
theorem bl_t : ∀ (l : List Nat) (b f : Nat), (l.foldl (fun b s => b ||| 2 ^ s) b).testBit f = (b.testBit f || decide (f ∈ l))
  | [], b, f => by simp
  | s :: l, b, f => by
    rw [List.foldl_cons, bl_t l]
    rw [Nat.testBit_or, Nat.testBit_two_pow]
    by_cases h1 : s = f
    · subst h1; simp
    · have h2 : ¬ f = s := fun h => h1 h.symm
      simp [h1, h2]
theorem blL_t (l : List Nat) (f : Nat) : (blL l).testBit f = decide (f ∈ l) := by
  unfold blL
  rw [bl_t]
  simp
theorem blL_s (l : List Nat) (s : Nat) : blL (l ++ [s]) = blL l ||| 2 ^ s := by
  unfold blL
  rw [List.foldl_append]
  rfl
def pvA (ns : Nat) (w : Nat → Nat) : Nat → List Nat → List (List Nat)
  | 0, l => [l]
  | n + 1, l => (List.range ns).flatMap (fun s => if mfB w s (blL l) = true then pvA ns w n (l ++ [s]) else [])
def dnA (ns : Nat) (w : Nat → Nat) : Nat → Nat → Nat
  | 0, _ => 1
  | n + 1, b => sumN (fun s => if mfB w s b = true then dnA ns w n (b ||| 2 ^ s) else 0) ns
theorem pv_len {ns : Nat} {w : Nat → Nat} : ∀ n l, (pvA ns w n l).length = dnA ns w n (blL l)
  | 0, l => rfl
  | n + 1, l => by
    rw [pvA, dnA, flat_len]
    refine sumN_c (fun s hs => ?_)
    by_cases h : mfB w s (blL l) = true
    · rw [if_pos h, if_pos h, pv_len n, blL_s]
    · rw [if_neg h, if_neg h]; rfl
/-- every seam of the list has what must be in before it -/
def CpA (nb : Nat) (AH BH : Nat → Int32) (l : List Nat) : Prop := ∀ b, b < nb → ∀ j, j < l.length → BH b = nI (l.getD j 0) → ∃ i, i < j ∧ AH b = nI (l.getD i 0)
theorem CpA_s {nb : Nat} {AH BH : Nat → Int32} {l : List Nat} {s : Nat} : CpA nb AH BH (l ++ [s]) ↔ (CpA nb AH BH l ∧ ∀ b, b < nb → BH b = nI s → ∃ i, i < l.length ∧ AH b = nI (l.getD i 0)) := by
  have g1 : ∀ j, j < l.length → (l ++ [s]).getD j 0 = l.getD j 0 := fun j hj => by simp [List.getD, List.getElem?_append_left hj]
  have g2 : (l ++ [s]).getD l.length 0 = s := by simp [List.getD]
  have g3 : (l ++ [s]).length = l.length + 1 := by simp
  constructor
  · intro h
    refine ⟨fun b hb j hj he => ?_, fun b hb he => ?_⟩
    · obtain ⟨i, h1, h2⟩ := h b hb j (by omega) (by rw [g1 j hj]; exact he)
      exact ⟨i, h1, by rw [g1 i (by omega)] at h2; exact h2⟩
    · obtain ⟨i, h1, h2⟩ := h b hb l.length (by omega) (by rw [g2]; exact he)
      exact ⟨i, h1, by rw [g1 i (by omega)] at h2; exact h2⟩
  · rintro ⟨h1, h2⟩ b hb j hj he
    by_cases hjl : j = l.length
    · subst hjl
      rw [g2] at he
      obtain ⟨i, h3, h4⟩ := h2 b hb he
      exact ⟨i, h3, by rw [g1 i h3]; exact h4⟩
    · rw [g1 j (by omega)] at he
      obtain ⟨i, h3, h4⟩ := h1 b hb j (by omega) he
      exact ⟨i, h3, by rw [g1 i (by omega)]; exact h4⟩
/-- what the masks of needs say -/
def NdA (ns nb : Nat) (AH BH : Nat → Int32) (w : Nat → Nat) : Prop := (∀ b, b < nb → ∃ f l, f < ns ∧ l < ns ∧ f ≠ l ∧ AH b = nI f ∧ BH b = nI l) ∧ (∀ s, s < ns → w s < 64 ∧ ∀ f, f < 6 → ((w s).testBit f = true ↔ ∃ b, b < nb ∧ AH b = nI f ∧ BH b = nI s))
theorem mf_iff {ns nb s : Nat} {AH BH : Nat → Int32} {w : Nat → Nat} {l : List Nat} (hw : NdA ns nb AH BH w) (hns : ns ≤ 6) (hs : s < ns) (hl : ∀ q ∈ l, q < ns) : mfB w s (blL l) = true ↔ (s ∉ l ∧ ∀ b, b < nb → BH b = nI s → ∃ i, i < l.length ∧ AH b = nI (l.getD i 0)) := by
  unfold mfB
  simp only [blL_t, Bool.and_eq_true, List.all_eq_true, List.mem_range, Bool.or_eq_true, Bool.not_eq_true', decide_eq_true_eq, decide_eq_false_iff_not]
  constructor
  · rintro ⟨h1, h2⟩
    refine ⟨h1, fun b hb he => ?_⟩
    obtain ⟨f, q, hf, hq, hfq, e1, e2⟩ := hw.1 b hb
    have ht : (w s).testBit f = true := ((hw.2 s hs).2 f (by omega)).mpr ⟨b, hb, e1, he⟩
    have hm : f ∈ l := by
      rcases h2 f (by omega) with h3 | h3
      · rw [ht] at h3; exact absurd h3 (by decide)
      · exact h3
    obtain ⟨i, hi, hii⟩ := List.getElem_of_mem hm
    refine ⟨i, hi, ?_⟩
    rw [e1]
    simp [List.getD, hi, hii]
  · rintro ⟨h1, h2⟩
    refine ⟨h1, fun f hf => ?_⟩
    by_cases ht : (w s).testBit f = true
    · right
      obtain ⟨b, hb, e1, e2⟩ := ((hw.2 s hs).2 f hf).mp ht
      obtain ⟨i, hi, e3⟩ := h2 b hb e2
      rw [e1] at e3
      have hm : l.getD i 0 ∈ l := by
        simp [List.getD, hi]
      have := hl _ hm
      have e4 := (nI_inj (by omega) (by omega)).mp e3
      rw [e4]
      exact hm
    · left
      simpa using ht
theorem pm_filter {ns nb : Nat} {AH BH : Nat → Int32} {w : Nat → Nat} {P : List Nat → Bool} (hw : NdA ns nb AH BH w) (hns : ns ≤ 6) (hP : ∀ l, P l = true ↔ CpA nb AH BH l) : ∀ n l, (∀ q ∈ l, q < ns) → (pmA ns n l).filter P = if P l = true then pvA ns w n l else []
  | 0, l, hl => by
    rw [pmA, pvA]
    by_cases h : P l = true
    · rw [if_pos h]; simp [h]
    · rw [if_neg h]; simp [h]
  | n + 1, l, hl => by
    rw [pmA, pvA, List.filter_flatMap]
    have hl2 : ∀ s, s < ns → ∀ q ∈ l ++ [s], q < ns := fun s hs q hq => by
      rcases List.mem_append.mp hq with h | h
      · exact hl q h
      · simp at h; omega
    by_cases h : P l = true
    · rw [if_pos h]
      have hc := (hP l).mp h
      have : ∀ s, s ∈ List.range ns → (if s ∈ l then [] else pmA ns n (l ++ [s])).filter P = if mfB w s (blL l) = true then pvA ns w n (l ++ [s]) else [] := fun s hs => by
        have hs' := List.mem_range.mp hs
        by_cases hm : s ∈ l
        · rw [if_pos hm, if_neg (fun hq => ((mf_iff hw hns hs' hl).mp hq).1 hm)]
          rfl
        · rw [if_neg hm, pm_filter hw hns hP n (l ++ [s]) (hl2 s hs')]
          by_cases hq : mfB w s (blL l) = true
          · rw [if_pos hq, if_pos]
            rw [hP, CpA_s]
            exact ⟨hc, ((mf_iff hw hns hs' hl).mp hq).2⟩
          · rw [if_neg hq, if_neg]
            intro hp
            rw [hP, CpA_s] at hp
            exact hq ((mf_iff hw hns hs' hl).mpr ⟨hm, hp.2⟩)
      exact flat_cg this
    · rw [if_neg h]
      have : ∀ s, s ∈ List.range ns → (if s ∈ l then [] else pmA ns n (l ++ [s])).filter P = [] := fun s hs => by
        have hs' := List.mem_range.mp hs
        by_cases hm : s ∈ l
        · rw [if_pos hm]; rfl
        · rw [if_neg hm, pm_filter hw hns hP n (l ++ [s]) (hl2 s hs'), if_neg]
          intro hp
          rw [hP, CpA_s] at hp
          exact h ((hP l).mpr hp.1)
      rw [flat_cg this]
      simp
theorem pl_inj : ∀ ns, ns < 7 → (pmA ns ns []).all (fun l => (List.range ns).all (fun i => (List.range ns).all (fun j => decide (l.getD i 0 = l.getD j 0 → i = j)) && (List.range ns).any (fun j => decide (l.getD j 0 = i)))) = true := by decide +kernel
theorem ps_at {O : Nat → Int32} {v : Int32} {j : Nat} : ∀ {n : Nat}, j < n → O j = v → (∀ i, i < n → O i = v → i = j) → psA O v n = j
  | 0, h, _, _ => by omega
  | n + 1, h, e, hu => by
    rw [psA]
    by_cases hn : O n = v
    · rw [if_pos hn]; exact hu n (by omega) hn
    · rw [if_neg hn]
      have : j ≠ n := fun hq => hn (by rw [← hq]; exact e)
      exact ps_at (by omega) e (fun i hi he => hu i (by omega) he)
theorem pl_facts {ns : Nat} (hns : ns ≤ 6) {l : List Nat} (hl : l ∈ pmA ns ns []) : l.length = ns ∧ (∀ q ∈ l, q < ns) ∧ (∀ i j, i < ns → j < ns → l.getD i 0 = l.getD j 0 → i = j) ∧ (∀ f, f < ns → ∃ j, j < ns ∧ l.getD j 0 = f) := by
  have h1 := List.all_eq_true.mp (pl_all ns (by omega)) l hl
  have h2 := List.all_eq_true.mp (pl_inj ns (by omega)) l hl
  simp only [Bool.and_eq_true, decide_eq_true_eq, List.all_eq_true, List.mem_range, List.any_eq_true] at h1 h2
  exact ⟨h1.1, h1.2, fun i j hi hj => (h2 i hi).1 j hj, fun f hf => (h2 f hf).2⟩
theorem getD_lt {ns : Nat} {l : List Nat} (h : ∀ q ∈ l, q < ns) {k : Nat} (hk : k < l.length) : l.getD k 0 < ns := h _ (by simp [List.getD, hk])
theorem ft_iff {ns nb : Nat} {AH BH : Nat → Int32} (hw : ∀ b, b < nb → ∃ f l, f < ns ∧ l < ns ∧ f ≠ l ∧ AH b = nI f ∧ BH b = nI l) (hns : ns ≤ 6) {l : List Nat} (hl : l ∈ pmA ns ns []) : ftA ns nb AH BH (orA l) = true ↔ CpA nb AH BH l := by
  obtain ⟨h1, h2, h3, h4⟩ := pl_facts hns hl
  have hin : ∀ i j, i < ns → j < ns → nI (l.getD i 0) = nI (l.getD j 0) → i = j := fun i j hi hj he => by
    have b1 := getD_lt h2 (k := i) (by omega)
    have b2 := getD_lt h2 (k := j) (by omega)
    exact h3 i j hi hj ((nI_inj (by omega) (by omega)).mp he)
  unfold ftA CpA
  simp only [List.all_eq_true, List.mem_range, decide_eq_true_eq]
  constructor
  · intro h b hb j hj he
    obtain ⟨f, q, hf, hq, hfq, e1, e2⟩ := hw b hb
    obtain ⟨i, hi, ei⟩ := h4 f hf
    have := h b hb
    rw [ps_at (O := orA l) (v := AH b) (j := i) hi (by rw [e1, ← ei]; rfl) (fun i' hi' he' => hin i' i hi' hi (by rw [ei, ← e1]; exact he')), ps_at (O := orA l) (v := BH b) (j := j) (by omega) he.symm (fun i' hi' he' => hin i' j hi' (by omega) (by rw [← he]; exact he'))] at this
    exact ⟨i, this, by rw [e1, ei]⟩
  · intro h b hb
    obtain ⟨f, q, hf, hq, hfq, e1, e2⟩ := hw b hb
    obtain ⟨i, hi, ei⟩ := h4 f hf
    obtain ⟨j, hj, ej⟩ := h4 q hq
    obtain ⟨i2, hi2, e3⟩ := h b hb j (by omega) (by rw [e2, ej])
    have : i2 = i := hin i2 i (by omega) hi (by rw [← e3, e1, ei])
    rw [ps_at (O := orA l) (v := AH b) (j := i) hi (by rw [e1, ← ei]; rfl) (fun i' hi' he' => hin i' i hi' hi (by rw [ei, ← e1]; exact he')), ps_at (O := orA l) (v := BH b) (j := j) hj (by rw [e2, ← ej]; rfl) (fun i' hi' he' => hin i' j hi' hj (by rw [ej, ← e2]; exact he'))]
    omega
theorem pl_fit {ns nb : Nat} {AH BH : Nat → Int32} {w : Nat → Nat} (hw : NdA ns nb AH BH w) (hns : ns ≤ 6) : (pmA ns ns []).filter (fun l => ftA ns nb AH BH (orA l)) = pvA ns w ns [] := by
  have hx : ∃ P : List Nat → Bool, ∀ l, P l = true ↔ CpA nb AH BH l := by
    refine ⟨fun l => @decide (CpA nb AH BH l) (Classical.propDecidable _), fun l => ?_⟩
    simp
  obtain ⟨P, hP⟩ := hx
  have h1 : (pmA ns ns []).filter (fun l => ftA ns nb AH BH (orA l)) = (pmA ns ns []).filter P := by
    refine List.filter_congr (fun l hl => ?_)
    have a := ft_iff hw.1 hns hl
    have b := hP l
    cases hq : P l
    · cases hq2 : ftA ns nb AH BH (orA l)
      · rfl
      · exact absurd (b.mpr (a.mp hq2)) (by rw [hq]; decide)
    · exact a.mpr (b.mp hq)
  rw [h1, pm_filter hw hns hP ns [] (fun q hq => by simp at hq), if_pos]
  rw [hP]
  intro b hb j hj
  simp at hj
/-- the masks, out of the plan -/
theorem nd_ex {nc ns na nb : Nat} {r kd pc st sm se nd A AH BH : Nat → Int32} (h : IPl nc ns na nb r kd pc st sm se nd A AH BH) : ∃ w : Nat → Nat, NdA ns nb AH BH w ∧ ∀ s, s < ns → nd s = nI (w s) := by
  obtain ⟨-, -, -, -, h5, h6⟩ := h
  have hx : ∀ s, ∃ w : Nat, s < ns → w < 64 ∧ nd s = nI w ∧ ∀ f, f < 6 → (w.testBit f = true ↔ ∃ b, b < nb ∧ AH b = nI f ∧ BH b = nI s) := fun s => by
    by_cases hs : s < ns
    · obtain ⟨w, hw⟩ := h6 s hs
      exact ⟨w, fun _ => hw⟩
    · exact ⟨0, fun hq => absurd hq hs⟩
  refine ⟨fun s => Classical.choose (hx s), ⟨h5, fun s hs => ?_⟩, fun s hs => ?_⟩
  · have := Classical.choose_spec (hx s) hs
    exact ⟨this.1, this.2.2⟩
  · exact (Classical.choose_spec (hx s) hs).2.1
end
section
/-! ===== how many orders fit ===== -/
def pkN (b : Nat) : Nat := ((List.range 6).filter (fun i => b.testBit i)).length
theorem pk_s : ∀ b, b < 64 → ∀ s, s < 6 → b.testBit s = false → pkN (b ||| 2 ^ s) = pkN b + 1 ∧ b < b ||| 2 ^ s := by decide +kernel
theorem pkN_lt : ∀ ns, ns < 7 → ∀ b, b < 2 ^ ns - 1 → pkN b < ns := by decide +kernel
theorem pk_all : ∀ ns, ns < 7 → pkN (2 ^ ns - 1) = ns ∧ 1 ≤ 2 ^ ns ∧ 2 ^ ns ≤ 64 := by decide +kernel
theorem or_n {b s : Nat} (hs : s < 31) : nI b ||| (1 <<< (nI s &&& 31)) = nI (b ||| 2 ^ s) := by
  apply b_ext
  intro i hi
  rw [b_set _ (by omega) hi, bt_n hi, bt_n hi, Nat.testBit_or, Nat.testBit_two_pow]
  congr 1
  by_cases h : s = i
  · simp [h]
  · have h2 : ¬ i = s := fun hq => h hq.symm
    simp [h, h2]
theorem p_mayF {μ : MT} {p ns s b : Nat} {w : Nat → Nat} (hp : isPl p) (e1 : μ p 1 = nI ns) (hns : ns ≤ 6) (hs : s < ns) (hw : μ (p + 6) s = nI (w s)) (hw2 : w s < 64) : m_X3_mayFollow Zc p (nI s) (nI b) μ = some (bI (mfB w s b = true)) := by
  unfold m_X3_mayFollow
  rw [q_hasSeam e1 (by omega), ob_s, bI_t (by rw [ti_n (by omega)]; omega), if_neg (by decide), zq_9 hp, al_p5 hp (by omega) (by omega) (by omega), ob_s, hw]
  have hb := bitC (nI b) (c := s) (by omega)
  have hz : (nI (w s) &&& (nI b ^^^ (-1)) = 0) ↔ ((List.range 6).all (fun f => !((w s).testBit f) || b.testBit f) = true) := by
    simp only [List.all_eq_true, List.mem_range, Bool.or_eq_true, Bool.not_eq_true']
    constructor
    · intro h f hf
      have h2 : bt (nI (w s) &&& (nI b ^^^ (-1))) f = false := by rw [h]; exact b_0 f
      rw [b_and, b_xor, b_m1 f (by omega), bt_n (by omega), bt_n (by omega)] at h2
      cases h3 : (w s).testBit f
      · left; rfl
      · right
        rw [h3] at h2
        simpa using h2
    · intro h
      apply b_ext
      intro i hi
      rw [b_and, b_xor, b_m1 i hi, b_0, bt_n hi, bt_n hi]
      by_cases h6 : i < 6
      · rcases h i h6 with h1 | h1
        · rw [h1]; rfl
        · rw [h1]; simp
      · rw [Nat.testBit_lt_two_pow (Nat.lt_of_lt_of_le hw2 (show 2 ^ 6 ≤ 2 ^ i from Nat.pow_le_pow_right (by decide) (by omega)))]
        rfl
  unfold mfB
  cases h1 : b.testBit s
  · rw [if_pos (hb.2.mpr (by rw [bt_n (by omega)]; exact h1))]
    by_cases h2 : nI (w s) &&& (nI b ^^^ (-1)) = 0
    · rw [if_pos h2, bI_t]
      rw [hz.mp h2]; rfl
    · rw [if_neg h2, bI_f]
      intro hq
      exact h2 (hz.mpr (by simpa using hq))
  · rw [if_neg (fun hq => by have := hb.2.mp hq; rw [bt_n (by omega), h1] at this; exact absurd this (by decide)), bI_f]
    simp
theorem sumN_0 : ∀ n, sumN (fun _ => 0) n = 0
  | 0 => rfl
  | n + 1 => by rw [sumN, sumN_0 n]
theorem p_hmf {μ : MT} {p ns : Nat} {w : Nat → Nat} (hp : isPl p) (e1 : μ p 1 = nI ns) (hns : ns ≤ 6) (hw : ∀ s, s < ns → μ (p + 6) s = nI (w s) ∧ w s < 64) : Ok (m_X5_howManyFit Zc 33 p μ) (fun q => q.1 = nI (dnA ns w ns 0) ∧ ∀ k, k ≠ 37 → q.2 k = μ k) := by
  have hpl := isPl_le hp
  obtain ⟨pa, pb, pc⟩ := pk_all ns (by omega)
  unfold m_X5_howManyFit
  rw [e1, one_sh (by omega), x_sl (by omega), ob_s]
  simp only [zA]
  rw [q_fill (n := 64) (by simp only [zA]) (by omega), ob_s]
  have h0 : ∀ X : MT, ast Zc X 37 0 1 = some (u2 X 37 0 1) := fun X => as_37 (i := 0) (by omega)
  rw [h0, ob_s]
  have g1 : ∀ k, k ≠ 37 → u2 (u1 μ 37 (fun j => if j < 64 then 0 else μ 37 j)) 37 0 1 k = μ k := fun k hk => by rw [u2_w, if_neg hk, u1_w, if_neg hk]
  have g2 : ∀ c, c < 64 → u2 (u1 μ 37 (fun j => if j < 64 then 0 else μ 37 j)) 37 0 1 37 c = nI (if c = 0 then 1 else 0) := fun c hc => by
    rw [u2_r]
    by_cases h : c = 0
    · rw [if_pos ⟨rfl, h⟩, if_pos h]; rfl
    · rw [if_neg (by omega), if_neg h, u1_r, if_pos rfl, if_pos hc]; rfl
  generalize u2 (u1 μ 37 (fun j => if j < 64 then 0 else μ 37 j)) 37 0 1 = μ1 at g1 g2 ⊢
  have hdP : ∃ dP : Nat → Nat, ∀ c, dP c = dnA ns w (ns - pkN c) c := ⟨_, fun _ => rfl⟩
  obtain ⟨dP, hdP⟩ := hdP
  have dP0 : dP 0 = dnA ns w ns 0 := by rw [hdP, show pkN 0 = 0 from rfl, Nat.sub_zero]
  have dPa : dP (2 ^ ns - 1) = 1 := by rw [hdP, pa, Nat.sub_self]; rfl
  have dPs : ∀ b, b < 2 ^ ns - 1 → dP b = sumN (fun s => if mfB w s b = true then dP (b ||| 2 ^ s) else 0) ns := fun b hb => by
    have hk := pkN_lt ns (by omega) b hb
    rw [hdP, show ns - pkN b = (ns - pkN b - 1) + 1 by omega, dnA]
    refine sumN_c (fun s hs => ?_)
    by_cases hm : mfB w s b = true
    · rw [if_pos hm, if_pos hm, hdP]
      have ht : b.testBit s = false := by
        unfold mfB at hm
        simp only [Bool.and_eq_true, Bool.not_eq_true'] at hm
        exact hm.1
      rw [(pk_s b (by omega) s (by omega) ht).1, show ns - pkN b - 1 = ns - (pkN b + 1) by omega]
    · rw [if_neg hm, if_neg hm]
  rw [← dP0]
  generalize dP 0 = tot at dP0 ⊢
  refine ok_for (fun B ν => (∀ k, k ≠ 37 → ν k = μ k) ∧ ∃ W : Nat → Nat, (∀ c, c < 64 → ν 37 c = nI (W c)) ∧ sumN (fun c => if B ≤ c then W c * dP c else 0) (2 ^ ns) = tot) 0 (2 ^ ns - 1) (Nat.zero_le _) (by omega) rfl ⟨g1, fun c => if c = 0 then 1 else 0, g2, ?_⟩ ?_ ?_
  · have := sumN_u (f := fun c => if 0 ≤ c then (if c = 0 then 1 else 0) * dP c else 0) (g := fun _ => 0) (c := 0) (n := 2 ^ ns) (by omega) (fun i hi => by simp [hi])
    rw [sumN_0] at this
    simp at this
    simp
    rw [this, hdP 0, dP0]
    rfl
  · rintro B ν _ hB ⟨f, W, hW, hS⟩
    simp only []
    rw [if_neg (by rw [x_le (by omega) (by omega)]; omega)]
    refine ok_for (fun t ω => (∀ k, k ≠ 37 → ω k = μ k) ∧ ∃ W : Nat → Nat, (∀ c, c < 64 → ω 37 c = nI (W c)) ∧ sumN (fun c => if B < c then W c * dP c else 0) (2 ^ ns) + W B * dP B = tot + W B * sumN (fun s => if mfB w s B = true then dP (B ||| 2 ^ s) else 0) t) 0 ns (by omega) (by omega) rfl ⟨f, W, hW, ?_⟩ ?_ ?_
    · have := sumN_u (f := fun c => if B ≤ c then W c * dP c else 0) (g := fun c => if B < c then W c * dP c else 0) (c := B) (n := 2 ^ ns) (by omega) (fun i hi => by
        by_cases h1 : B ≤ i
        · rw [if_pos h1, if_pos (by omega)]
        · rw [if_neg h1, if_neg (by omega)])
      simp only [Nat.lt_irrefl, if_false, Nat.le_refl, if_true] at this
      rw [sumN]
      omega
    · rintro t ω _ ht ⟨f2, W, hW, hS⟩
      have o1 : ω p 1 = nI ns := by rw [f2 p (by omega)]; exact e1
      simp only [o1]
      rw [if_neg (by rw [x_le (by omega) (by omega)]; omega), p_mayF (w := w) hp o1 hns ht (by rw [f2 (p + 6) (by omega)]; exact (hw t ht).1) (hw t ht).2, ob_s]
      rw [sumN]
      by_cases hm : mfB w t B = true
      · rw [bI_t hm, if_neg (by decide), if_pos hm]
        have htb : B.testBit t = false := by
          unfold mfB at hm
          simp only [Bool.and_eq_true, Bool.not_eq_true'] at hm
          exact hm.1
        have hlt := (pk_s B (by omega) t (by omega) htb).2
        have hc2 : B ||| 2 ^ t < 2 ^ ns := Nat.or_lt_two_pow (by omega) (Nat.pow_lt_pow_right (by decide) ht)
        rw [or_n (by omega)]
        generalize B ||| 2 ^ t = C at hlt hc2 ⊢
        rw [al_37 (by omega), ob_s, al_37 (by omega), ob_s, as_37 (by omega), ob_s, ob_s, n1, ob_s, hW C (by omega), hW B (by omega), x_a]
        refine ok_s (Or.inl ⟨_, rfl, fun k hk => by rw [u2_w, if_neg hk]; exact f2 k hk, fun c => if c = C then W C + W B else W c, fun c hc => ?_, ?_⟩)
        · rw [u2_r]
          simp only []
          by_cases h : c = C
          · rw [if_pos ⟨trivial, h⟩, if_pos h]
          · rw [if_neg (by omega), if_neg h]; exact hW c hc
        · have := sumN_u (f := fun c => if B < c then (if c = C then W C + W B else W c) * dP c else 0) (g := fun c => if B < c then W c * dP c else 0) (c := C) (n := 2 ^ ns) hc2 (fun i hi => by simp only [if_neg hi])
          simp only [if_pos hlt, if_true, Nat.add_mul] at this
          simp only [if_neg (show ¬ B = C by omega), Nat.mul_add]
          omega
      · rw [bI_f hm, if_pos rfl, if_neg hm]
        simp only [ob_s, n1]
        exact ok_s (Or.inl ⟨_, rfl, f2, W, hW, hS⟩)
    · rintro ω ⟨f2, W, hW, hS⟩
      have o1 : ω p 1 = nI ns := by rw [f2 p (by omega)]; exact e1
      simp only [o1]
      rw [if_pos (by rw [x_le (by omega) (by omega)]; omega)]
      refine ok_s ⟨_, rfl, ?_⟩
      rw [ob_s, n1]
      refine ok_s (Or.inl ⟨_, rfl, f2, W, hW, ?_⟩)
      rw [← dPs B hB] at hS
      rw [sumN_c (g := fun c => if B < c then W c * dP c else 0) (fun i hi => by
        by_cases h1 : B < i
        · rw [if_pos h1, if_pos (by omega)]
        · rw [if_neg h1, if_neg (by omega)])]
      omega
  · rintro ν ⟨f, W, hW, hS⟩
    simp only []
    rw [if_pos (by rw [x_le (by omega) (by omega)]; omega)]
    refine ok_s ⟨_, rfl, ?_⟩
    rw [al_37 (by omega), ob_s]
    refine ok_s ⟨?_, f⟩
    simp only []
    rw [hW _ (by omega)]
    have hS' : sumN (fun c => if 2 ^ ns - 1 ≤ c then W c * dP c else 0) (2 ^ ns - 1 + 1) = tot := by
      rw [show 2 ^ ns - 1 + 1 = 2 ^ ns by omega]; exact hS
    rw [sumN, sumN_c (g := fun _ => 0) (fun i hi => if_neg (by omega)), sumN_0, if_pos (Nat.le_refl _), dPa] at hS'
    rw [← hS', Nat.mul_one, Nat.zero_add]
theorem psA_c {O O' : Nat → Int32} {v : Int32} : ∀ {n : Nat}, (∀ k, k < n → O k = O' k) → psA O v n = psA O' v n
  | 0, _ => rfl
  | n + 1, h => by rw [psA, psA, h n (by omega), psA_c (fun k hk => h k (by omega))]
theorem ftA_c {ns nb : Nat} {AH BH O O' : Nat → Int32} (h : ∀ k, k < ns → O k = O' k) : ftA ns nb AH BH O = ftA ns nb AH BH O' := by
  unfold ftA
  congr 1
  funext b
  rw [psA_c h, psA_c h]
theorem op_orders {ν : MT} (h : Inv ν) : OkI Inv (m_X8_orders Zc 127 0 ν) (fun μ => m_X9_orders Zc 106 μ) := by
  obtain ⟨p, d, nc, ns, na, nb, h⟩ := h
  obtain ⟨c1, c2, c3, ⟨hp, hd, hpd, e11, e12⟩, c5, c6, c7, c8, c9, c10, c11, c12, c13⟩ := id h
  obtain ⟨hnc, hns, hna, hnb⟩ := pl_bd c5
  have e0 := c5.1.1
  have e1 := c5.1.2.1
  by_cases hz : nc = 0
  · refine okI_of (a := -1000002) (P := fun μ => μ = ν) ?_ ?_
    · unfold m_X8_orders
      rw [e11, mrd_p hp, ob_s, q_none e0 (by omega), ob_s, bI_t hz, if_neg (by decide)]
      exact ok_s ⟨rfl, rfl⟩
    · rintro μ rfl
      have m5 : u2 μ 106 0 0 106 5 = nI nc := c6.1
      unfold m_X9_orders
      rw [ob_s, m5, if_pos (by rw [hz]; rfl)]
      exact ok_s ⟨rfl, p, d, nc, ns, na, nb, c_x h (FrX.refl μ).w0⟩
  have hz' : ¬ nI nc = 0 := by rw [x_eql (by omega) (by omega)]; exact hz
  obtain ⟨w, hw, hw2⟩ := nd_ex c5
  refine okI_of (a := nI (dnA ns w ns 0)) (P := fun μ => ∀ k, k ≠ 37 → μ k = ν k) ?_ ?_
  · unfold m_X8_orders
    rw [e11, mrd_p hp, ob_s, q_none e0 (by omega), ob_s, bI_f hz, if_pos rfl, ob_s]
    simp only [zA]
    refine ok_b (p_hmf (w := w) hp e1 hns (fun s hs => ⟨hw2 s hs, (hw.2 s hs).1⟩)) ?_
    rintro ⟨r, μ1⟩ ⟨g1, g2⟩
    exact ok_s ⟨g1, g2⟩
  · rintro μ f
    have hcore : Core μ p d nc ns na nb := by
      refine c_gen h ?_ ?_ ?_ ?_ (Or.inl ⟨?_, ?_⟩) (Or.inl ⟨?_, ?_, ?_, ?_, ?_⟩) (Or.inl ⟨?_, ?_⟩) (Or.inl ⟨?_, ?_⟩)
      · rw [f 0 (by omega), f 106 (by omega)]; exact c2.1
      · intro j _; rw [f 0 (by omega)]
      · intro j _; rw [f 106 (by omega)]
      · intro k hk; exact f k (by omega)
      · exact f 17 (by omega)
      · exact f 118 (by omega)
      · rw [f 0 (by omega)]
      · rw [f 106 (by omega)]
      · rw [f 106 (by omega)]
      · exact f 122 (by omega)
      · intro k a b; exact f k (by omega)
      · intro j _ _; rw [f 33 (by omega)]
      · exact f 36 (by omega)
      · rw [f 87 (by omega)]
      · exact f 88 (by omega)
    have hcnt : dnA ns w ns 0 = ((pmA ns ns []).filter (fun l => ftA ns nb (ν 111) (ν 112) (orA l))).length := by
      rw [pl_fit hw hns, pv_len]; rfl
    rw [hcnt]
    have m106 : μ 106 = ν 106 := f 106 (by omega)
    have m5 : u2 μ 106 0 0 106 5 = nI nc := by rw [u2_r, if_neg (by omega), m106]; exact c6.1
    have hch := pl_chain ns (by omega)
    have hhd := pl_head ns (by omega)
    have hln := pl_len ns (by omega)
    have hmem : ∀ l, l ∈ pmA ns ns [] → ∀ k, k < ns → l.getD k 0 < 1000 := fun l hl k hk => by
      obtain ⟨a1, a2, _⟩ := pl_facts hns hl
      have := getD_lt a2 (k := k) (by omega)
      omega
    generalize pmA ns ns [] = PL at hch hhd hln hmem ⊢
    unfold m_X9_orders
    rw [ob_s, m5, if_neg hz', r_layN, ob_s]
    have fx : FrX μ (u1 (u2 μ 106 0 0) 124 (fun c => if c < 6 then nI c else u2 μ 106 0 0 124 c)) := (FrX.refl μ).w0.w1 (by omega)
    have o0 : OrI (u1 (u2 μ 106 0 0) 124 (fun c => if c < 6 then nI c else u2 μ 106 0 0 124 c)) ns (fun j => (List.range ns).getD j 0) := fun k hk => by
      rw [u1_r, if_pos rfl, if_pos (by omega)]
      simp [List.getD, hk]
    generalize u1 (u2 μ 106 0 0) 124 (fun c => if c < 6 then nI c else u2 μ 106 0 0 124 c) = μ1 at fx o0 ⊢
    obtain ⟨r0, hr0⟩ : ∃ r0, PL = List.range ns :: r0 := by
      cases PL with
      | nil => simp at hhd
      | cons a b => simp at hhd; exact ⟨b, by rw [hhd]⟩
    refine ok_l (fun m s => FrX μ s.2.2 ∧ ((s.2.1 = 0 ∧ s.1 = nI (PL.filter (fun l => ftA ns nb (ν 111) (ν 112) (orA l))).length) ∨ (s.2.1 = 1 ∧ ∃ pre l r, PL = pre ++ l :: r ∧ m = r.length + 1 ∧ s.1 = nI (pre.filter (fun l => ftA ns nb (ν 111) (ν 112) (orA l))).length ∧ OrI s.2.2 ns (fun j => l.getD j 0)))) (r0.length + 1) (by rw [hr0] at hln; simp at hln; omega) ⟨fx, Or.inr ⟨rfl, [], _, r0, by rw [hr0]; rfl, rfl, rfl, o0⟩⟩ ?_
    rintro m ⟨y3, y4, ξ⟩ ⟨g1, g2⟩
    simp only at g1 g2 ⊢
    rcases g2 with ⟨k1, k2⟩ | ⟨k1, pre, l, r, k2, k3, k4, k5⟩
    · subst k1
      rw [if_pos rfl]
      exact ok_s (Or.inl ⟨_, rfl, ok_s ⟨k2, p, d, nc, ns, na, nb, c_x hcore g1⟩⟩)
    · subst k1
      have x6 : ξ 106 6 = nI ns := by rw [g1.2 6 (by omega) (by omega), m106]; exact c6.2.1
      have x8 : ξ 106 8 = nI nb := by rw [g1.2 8 (by omega) (by omega), m106]; exact c6.2.2.2
      have x111 : ξ 111 = ν 111 := by rw [g1.1 111 (by omega) (by omega), f 111 (by omega)]
      have x112 : ξ 112 = ν 112 := by rw [g1.1 112 (by omega) (by omega), f 112 (by omega)]
      rw [if_neg (by decide), r_fits x6 x8 hns hnb, ob_s, x111, x112, ftA_c (O' := orA l) k5]
      have hl : l ∈ PL := by rw [k2]; simp
      have hnx := r_next x6 k5 (hmem l hl) hns
      rw [chk_suf (pre := pre) (by rw [← k2]; exact hch)] at hnx
      have hcn : (if bI (ftA ns nb (ν 111) (ν 112) (orA l) = true) = 0 then some (0 : Int32) else some 1) = some (if ftA ns nb (ν 111) (ν 112) (orA l) = true then 1 else 0) := by
        by_cases hq : ftA ns nb (ν 111) (ν 112) (orA l) = true
        · rw [bI_t hq, if_neg (by decide), if_pos hq]
        · rw [bI_f hq, if_pos rfl, if_neg hq]
      have hcs : y3 + (if ftA ns nb (ν 111) (ν 112) (orA l) = true then 1 else 0) = nI ((pre ++ [l]).filter (fun l => ftA ns nb (ν 111) (ν 112) (orA l))).length := by
        rw [k4]
        by_cases hq : ftA ns nb (ν 111) (ν 112) (orA l) = true
        · rw [if_pos hq, n1]; simp [hq]
        · rw [if_neg hq, Int32.add_zero]; simp [hq]
      rw [hcn, ob_s, hcs, ob_s]
      refine ok_b hnx ?_
      rintro ⟨v, ξ2⟩ ⟨n1', n2⟩
      simp only at n1' n2
      have fx2 : FrX μ ξ2 := g1.trans ⟨fun k a b => n1' k (by omega), fun j _ _ => by show ξ2 106 j = _; rw [n1' 106 (by omega)]⟩
      rcases n2 with ⟨q1, q2⟩ | ⟨l', q1, q2, q3⟩
      · subst q2
        cases r with
        | nil => exact ok_s (Or.inr ⟨_, 0, rfl, by omega, fx2, Or.inl ⟨rfl, by rw [k2]⟩⟩)
        | cons a b => simp at q1
      · subst q2
        cases r with
        | nil => simp at q1
        | cons a b =>
          simp at q1
          subst q1
          exact ok_s (Or.inr ⟨_, b.length + 1, rfl, by simp at k3; omega, fx2, Or.inr ⟨rfl, pre ++ [l], a, b, by rw [k2]; simp, rfl, rfl, q3⟩⟩)
end
section
/-! ===== the nearest order: the program's search ===== -/
theorem p_become {μ : MT} {b b2 nc : Nat} {x : RS} (hb : isPn b) (hb2 : isPn b2) (hbb : b2 + 6 < b ∨ b + 6 < b2) (h : PIs μ b2 nc x) (hc : nc ≤ 12) : Ok (m_X2_becomeAs Zc b b2 μ) (fun ν => PIs ν b nc x ∧ FrP b μ ν) := by
  obtain ⟨l1, l2, l3, l4, l5, l6⟩ := zpl hb
  obtain ⟨k1, k2, k3, k4, k5, k6⟩ := zpl hb2
  unfold m_X2_becomeAs
  rw [zp_0 hb, zp_1 hb, zp_2 hb, zp_3 hb, zp_4 hb, zp_5 hb, zp_0 hb2, zp_1 hb2, zp_2 hb2, zp_3 hb2, zp_4 hb2, zp_5 hb2]
  simp only [ob_s]
  rw [acp0 (m := 12) (v := 12) k1 l1 (by omega) (by omega) (by omega) rfl, ob_s, acp0 (m := 12) (v := 12) k2 l2 (by omega) (by omega) (by omega) rfl, ob_s, acp0 (m := 12) (v := 12) k3 l3 (by omega) (by omega) (by omega) rfl, ob_s, acp0 (m := 12) (v := 12) k4 l4 (by omega) (by omega) (by omega) rfl, ob_s, acp0 (m := 12) (v := 12) k5 l5 (by omega) (by omega) (by omega) rfl, ob_s, acp0 (m := 12) (v := 12) k6 l6 (by omega) (by omega) (by omega) rfl, ob_s]
  have n0 : ¬ b2 = b := by omega
  have n1 : ∀ j, j ≤ 6 → ¬ b2 + j = b := fun j hj => by omega
  have n2 : ∀ i j, i ≤ 6 → j ≤ 6 → ¬ b2 + i = b + j := fun i j hi hj => by omega
  have n3 : ∀ j, j ≤ 6 → ¬ b2 = b + j := fun j hj => by omega
  have m1 := n1 1 (by omega)
  have m2 := n1 2 (by omega)
  have m3 := n1 3 (by omega)
  have m4 := n1 4 (by omega)
  have m5 := n1 5 (by omega)
  have m6 := n1 6 (by omega)
  obtain ⟨h7, h8, ⟨w, hw, hwl, hh⟩, h9⟩ := h
  refine ok_s ⟨⟨?_, ?_, ⟨w, hw, hwl, fun c hcc => ?_⟩, fun c hcc => ?_⟩, ((((((((((FrP.refl b μ).w (by omega)).w (by omega)).w (by omega)).w (by omega)).w1 (by omega)).w1 (by omega)).w1 (by omega)).w1 (by omega)).w1 (by omega)).w1 (by omega)⟩
  · simp [u1_r, u2_r, h7, n0]
  · simp [u1_r, u2_r, h8, n0]
  · have hcl : c < 12 := by omega
    obtain ⟨hv, t, a1, a2, a3, a4, a5⟩ := hh c hcc
    refine ⟨hv, t, ?_, a2, ?_, a4, a5⟩
    · simp [u1_r, u2_r, hcl, m1, a1]
    · simp [u1_r, u2_r, hcl, m2, n2 2 1 (by omega) (by omega), a3]
  · have hcl : c < 12 := by omega
    obtain ⟨a1, a2, a3, a4, a5, a6⟩ := h9 c hcc
    refine ⟨?_, ?_, ?_, ?_, ?_, a6⟩
    · simp [u1_r, u2_r, hcl, m3, n2 3 1 (by omega) (by omega), n2 3 2 (by omega) (by omega), a1]
    · simp [u1_r, u2_r, hcl, m4, n2 4 1 (by omega) (by omega), n2 4 2 (by omega) (by omega), n2 4 3 (by omega) (by omega), a2]
    · simp [u1_r, u2_r, hcl, m5, n2 5 1 (by omega) (by omega), n2 5 2 (by omega) (by omega), n2 5 3 (by omega) (by omega), n2 5 4 (by omega) (by omega), a3]
    · simp [u1_r, u2_r, hcl, n0, m6, n2 6 1 (by omega) (by omega), n2 6 2 (by omega) (by omega), n2 6 3 (by omega) (by omega), n2 6 4 (by omega) (by omega), n2 6 5 (by omega) (by omega), a4]
    · simp [u1_r, u2_r, hcl, n0, a5]
/-- one fitting order more -/
def offL (nc ns na : Nat) (A B : Nat → Int32) (l : List Nat) : Int32 := offA nc (goA nc ns na A B (orA l) (-1)).1
def bs1 (f : List Nat → Int32) (acc : Option (Int32 × List Nat)) (l : List Nat) : Option (Int32 × List Nat) :=
  match acc with
  | none => some (f l, l)
  | some q => if f l < q.1 then some (f l, l) else some q
theorem best_pv {nc ns na nb : Nat} {A AH BH B : Nat → Int32} {w : Nat → Nat} (hw : NdA ns nb AH BH w) (hns : ns ≤ 6) : bestA nc ns na nb A AH BH B = (pvA ns w ns []).foldl (bs1 (offL nc ns na A B)) none := by
  unfold bestA
  rw [← pl_fit hw hns, List.foldl_filter]
  rfl
def SeI (ns : Nat) (fi lo : Int32) (nr : Nat → Int32) (acc : Option (Int32 × List Nat)) : Prop :=
  match acc with
  | none => fi = 0
  | some q => fi = 1 ∧ lo = q.1 ∧ ∀ k, k < ns → nr k = orA q.2 k
def selA (nc na : Nat) (A B : Nat → Int32) (l : List Nat) : RS := l.foldl (fun x s => seA nc na A (nI s) x) (bgA B)
theorem fold_take {α : Type} {f : α → Nat → α} {x : α} {l : List Nat} : ∀ n, n ≤ l.length → (List.range n).foldl (fun x k => f x (l.getD k 0)) x = (l.take n).foldl f x
  | 0, _ => by simp
  | n + 1, h => by
    rw [List.range_succ, List.foldl_append, fold_take n (by omega), List.take_succ, List.foldl_append]
    have : l[n]?.toList = [l.getD n 0] := by
      have hn : n < l.length := by omega
      simp [List.getD, hn]
    rw [this]
    rfl
theorem sel_go {nc ns na : Nat} {A B : Nat → Int32} {l : List Nat} (hl : l.length = ns) (hb : ∀ q ∈ l, q < 100) : goA nc ns na A B (orA l) (-1) = frsA nc (selA nc na A B l) := by
  unfold goA sesA selA
  have := fold_cg (f := fun x k => if orA l k = -1 then x else seA nc na A (orA l k) x) (g := fun x k => seA nc na A (nI (l.getD k 0)) x) ns (bgA B) (fun a y ha => by
    have := getD_lt hb (k := a) (by omega)
    rw [if_neg (show ¬ orA l a = -1 from m1n (by omega))]
    rfl)
  rw [this, fold_take (f := fun x s => seA nc na A (nI s) x) ns (by omega), ← hl, List.take_length]
/-- rows that the search leaves: those below the panel of its depth, and above the panels -/
def FrS (m : Nat) (μ ν : MT) : Prop := (∀ k, k ≠ 33 → k ≠ 35 → k ≠ 36 → k < m ∨ 86 < k → ν k = μ k) ∧ (∀ j, j ≠ 5 → j ≠ 6 → ν 33 j = μ 33 j)
theorem FrS.refl (m : Nat) (μ : MT) : FrS m μ μ := ⟨fun _ _ _ _ _ => rfl, fun _ _ _ => rfl⟩
theorem FrS.trans {m : Nat} {μ ν ω : MT} (h : FrS m μ ν) (h2 : FrS m ν ω) : FrS m μ ω := ⟨fun k a b c d => (h2.1 k a b c d).trans (h.1 k a b c d), fun j a b => (h2.2 j a b).trans (h.2 j a b)⟩
theorem FrS.mono {m m' : Nat} {μ ν : MT} (h : FrS m μ ν) (hm : m' ≤ m) : FrS m' μ ν := ⟨fun k a b c d => h.1 k a b c (by omega), h.2⟩
theorem pl_frS {μ ν : MT} {m p nc ns na nb : Nat} (hp : isPl p) (f : FrS m μ ν) (h : PlIs μ p nc ns na nb) : PlIs ν p nc ns na nb := by
  have hpl2 := isPl_le hp
  have g : ∀ k, 86 < k → ν k = μ k := fun k hk => f.1 k (by omega) (by omega) (by omega) (by omega)
  unfold PlIs
  rw [g p (by omega), g (p + 1) (by omega), g (p + 2) (by omega), g (p + 3) (by omega), g (p + 4) (by omega), g (p + 5) (by omega), g (p + 6) (by omega), g 110 (by omega), g 111 (by omega), g 112 (by omega)]
  exact h
theorem p_weigh {μ : MT} {nc ns na dp : Nat} {A B : Nat → Int32} {l : List Nat} {acc : Option (Int32 × List Nat)} (hdp : dp = ns) (hc4 : 4 ≤ nc) (hnc : nc ≤ 12) (hns : ns ≤ 6) (hl : l.length = ns) (hlb : ∀ q ∈ l, q < ns) (hx : PIs μ (38 + 7 * dp) nc (selA nc na A B l)) (ht : ∀ k, k < ns → μ 35 k = nI (l.getD k 0)) (hs : SeI ns (μ 33 5) (μ 33 6) (μ 36) acc) :
    Ok (m_X5_weigh Zc 33 (38 + 7 * dp) (nI dp) μ) (fun ν => SeI ns (ν 33 5) (ν 33 6) (ν 36) (bs1 (offL nc ns na A B) acc l) ∧ FrS (38 + 7 * dp) μ ν ∧ ν 35 = μ 35) := by
  subst hdp
  have hb := isPn_d (d := dp) (by omega)
  unfold m_X5_weigh
  refine ok_b (p_freeAll hb hx hnc) ?_
  rintro ν1 ⟨g1, g2⟩
  have hoff : offA nc (frsA nc (selA nc na A B l)).1 = offL nc dp na A B l := by
    unfold offL
    rw [sel_go hl (fun q hq => by have := hlb q hq; omega)]
  rw [p_off hb g1.1 (fun c hc => (g1.2.2.2 c hc).2.1) hc4 hnc, ob_s, hoff]
  have e33 : ν1 33 = μ 33 := g2 33 (by omega)
  have e35 : ν1 35 = μ 35 := g2 35 (by omega)
  have e36 : ν1 36 = μ 36 := g2 36 (by omega)
  have fS : FrS (38 + 7 * dp) μ ν1 := ⟨fun k a b c d => g2 k (by omega), fun j _ _ => by rw [e33]⟩
  simp only [zA]
  have htake : Ok ((acp Zc (u2 (u2 ν1 33 5 1) 33 6 (offL nc dp na A B l)) 35 0 36 0 (nI dp)).bind fun ν10 => some ν10) (fun ν => SeI dp (ν 33 5) (ν 33 6) (ν 36) (some (offL nc dp na A B l, l)) ∧ FrS (38 + 7 * dp) μ ν ∧ ν 35 = μ 35) := by
    rw [acp0 (n := 6) (n1 := 6) (m := dp) (by simp only [zA]) (by simp only [zA]) (by omega) (by omega) (by omega) rfl, ob_s]
    refine ok_s ⟨⟨?_, ?_, fun k hk => ?_⟩, ⟨fun k a b c d => ?_, fun j a b => ?_⟩, ?_⟩
    · simp [u1_r, u2_r]
    · simp [u1_r, u2_r]
    · rw [u1_r, if_pos rfl, if_pos hk, u2_r, if_neg (by omega), u2_r, if_neg (by omega), e35, ht k hk]
      rfl
    · rw [u1_w, if_neg c, u2_w, if_neg a, u2_w, if_neg a]
      exact fS.1 k a b c d
    · rw [u1_r, if_neg (by omega), u2_r, if_neg (by omega), u2_r, if_neg (by omega), e33]
    · rw [u1_w, if_neg (by omega), u2_w, if_neg (by omega), u2_w, if_neg (by omega), e35]
  rw [e33]
  cases acc with
  | none =>
    have h0 : μ 33 5 = 0 := hs
    rw [if_pos h0, ob_s]
    exact htake
  | some q =>
    obtain ⟨h1, h2, h3⟩ : μ 33 5 = 1 ∧ μ 33 6 = q.1 ∧ ∀ k, k < dp → μ 36 k = orA q.2 k := hs
    rw [h1, if_neg (by decide), h2]
    unfold bs1
    by_cases hlt : offL nc dp na A B l < q.1
    · rw [if_neg (fun hq => (nle.mpr hlt) hq), ob_s]
      simp only [if_pos hlt]
      exact htake
    · have hle : q.1 ≤ offL nc dp na A B l := Classical.byContradiction fun hq => hlt (nle.mp hq)
      rw [if_pos hle, ob_s]
      simp only [if_neg hlt]
      refine ok_s ⟨?_, fS, e35⟩
      rw [e33, e36]
      exact ⟨h1, h2, h3⟩
theorem p_tryFrom {p nc ns na nb : Nat} {A B : Nat → Int32} {w : Nat → Nat} (hp : isPl p) (hc4 : 4 ≤ nc) (hns : ns ≤ 6) (hB : ∀ c, c < 12 → -40 ≤ (B c).toInt ∧ (B c).toInt ≤ 40) (hw : ∀ s, s < ns → w s < 64) :
    ∀ (n F dp : Nat) (l : List Nat) (acc : Option (Int32 × List Nat)) (μ : MT), dp + n = ns → n < F → l.length = dp → (∀ q ∈ l, q < ns) → PlIs μ p nc ns na nb → μ 110 = A → (∀ s, s < ns → μ (p + 6) s = nI (w s)) → PIs μ (38 + 7 * dp) nc (selA nc na A B l) → Bd nc (40 * dp) (selA nc na A B l) → (∀ k, k < dp → μ 35 k = nI (l.getD k 0)) → SeI ns (μ 33 5) (μ 33 6) (μ 36) acc →
    Ok (m_X5_tryFrom Zc F 33 p (nI dp) (nI (blL l)) μ) (fun ν => SeI ns (ν 33 5) (ν 33 6) (ν 36) ((pvA ns w n l).foldl (bs1 (offL nc ns na A B)) acc) ∧ FrS (38 + 7 * dp) μ ν ∧ ∀ k, k < dp → ν 35 k = μ 35 k) := by
  intro n
  induction n with
  | zero =>
    intro F dp l acc μ h1 h2 h3 h4 h5 h6 h7 h8 h9 h10 h11
    obtain ⟨F', rfl⟩ : ∃ F', F = F' + 1 := ⟨F - 1, by omega⟩
    obtain ⟨hnc, -, hna, hnb⟩ := pl_bd h5
    have e1 := h5.1.2.1
    rw [m_X5_tryFrom, e1, if_pos (by rw [x_le (by omega) (by omega)]; omega), ob_s]
    simp only [jn, zA]
    rw [ard_34 (by omega), ob_s]
    refine ok_b (p_weigh (by omega) hc4 hnc hns (by omega) h4 h8 (fun k hk => h10 k (by omega)) h11) ?_
    rintro ν ⟨g1, g2, g3⟩
    exact ok_s ⟨g1, g2, fun k hk => by rw [g3]⟩
  | succ n ih =>
    intro F dp l acc μ h1 h2 h3 h4 h5 h6 h7 h8 h9 h10 h11
    obtain ⟨F', rfl⟩ : ∃ F', F = F' + 1 := ⟨F - 1, by omega⟩
    obtain ⟨hnc, -, hna, hnb⟩ := pl_bd h5
    have hpl2 := isPl_le hp
    have e1 := h5.1.2.1
    have hb0 := isPn_d (d := dp) (by omega)
    have hb1 := isPn_d (d := dp + 1) (by omega)
    rw [m_X5_tryFrom, e1, if_neg (by rw [x_le (by omega) (by omega)]; omega), if_pos (by rw [x_ltl (by omega) (by omega)]; omega)]
    simp only [zA]
    refine ok_b (R1 := fun q => ∃ ν, q = Sum.inl ν ∧ SeI ns (ν 33 5) (ν 33 6) (ν 36) ((pvA ns w (n + 1) l).foldl (bs1 (offL nc ns na A B)) acc) ∧ FrS (38 + 7 * dp) μ ν ∧ ∀ k, k < dp → ν 35 k = μ 35 k) ?_ ?_
    · refine ok_for (fun s ω => FrS (38 + 7 * (dp + 1)) μ ω ∧ (∀ k, k < dp → ω 35 k = μ 35 k) ∧ SeI ns (ω 33 5) (ω 33 6) (ω 36) (((List.range s).flatMap (fun s => if mfB w s (blL l) = true then pvA ns w n (l ++ [s]) else [])).foldl (bs1 (offL nc ns na A B)) acc)) 0 ns (by omega) (by omega) rfl ⟨FrS.refl _ μ, fun _ _ => rfl, h11⟩ ?_ ?_
      · rintro s ω _ hs ⟨f, g1, g2⟩
        have o1 : ω p 1 = nI ns := by rw [f.1 p (by omega) (by omega) (by omega) (by omega)]; exact e1
        simp only [o1]
        rw [if_neg (by rw [x_le (by omega) (by omega)]; omega), p_mayF (w := w) hp o1 hns hs (by rw [f.1 (p + 6) (by omega) (by omega) (by omega) (by omega)]; exact h7 s hs) (hw s hs), ob_s]
        rw [List.range_succ, List.flatMap_append, List.foldl_append]
        generalize ((List.range s).flatMap (fun s => if mfB w s (blL l) = true then pvA ns w n (l ++ [s]) else [])).foldl (bs1 (offL nc ns na A B)) acc = acc1 at g2 ⊢
        by_cases hm : mfB w s (blL l) = true
        · rw [bI_t hm, if_neg (by decide)]
          have hfl : [s].flatMap (fun s => if mfB w s (blL l) = true then pvA ns w n (l ++ [s]) else []) = pvA ns w n (l ++ [s]) := by simp [hm]
          rw [hfl, n1, ard_34 (by omega), ob_s, ard_34 (by omega), ob_s]
          have hx : PIs ω (38 + 7 * dp) nc (selA nc na A B l) := by
            unfold PIs
            have q : ∀ j, j ≤ 6 → ω (38 + 7 * dp + j) = μ (38 + 7 * dp + j) := fun j hj => f.1 _ (by omega) (by omega) (by omega) (by omega)
            have q0 := q 0 (by omega)
            rw [Nat.add_zero] at q0
            rw [q0, q 1 (by omega), q 2 (by omega), q 3 (by omega), q 4 (by omega), q 5 (by omega), q 6 (by omega)]
            exact h8
          refine ok_b (R1 := fun ν => FrS (38 + 7 * (dp + 1)) μ ν ∧ (∀ k, k < dp → ν 35 k = μ 35 k) ∧ SeI ns (ν 33 5) (ν 33 6) (ν 36) ((pvA ns w n (l ++ [s])).foldl (bs1 (offL nc ns na A B)) acc1)) ?_ ?_
          · refine ok_b (p_become hb1 hb0 (by omega) hx hnc) ?_
            rintro ω1 ⟨k1, k2⟩
            rw [ob_s]
            have fp1 : PlIs ω1 p nc ns na nb := pl_fr hb1 hp k2 (pl_frS hp f h5)
            have w110 : ω1 110 = A := by rw [k2 110 (by omega), f.1 110 (by omega) (by omega) (by omega) (by omega)]; exact h6
            have hd := p_doSeam (s := s) hb1 hp fp1 hs k1 h9 (by omega)
            rw [w110] at hd
            have hsel : seA nc na A (nI s) (selA nc na A B l) = selA nc na A B (l ++ [s]) := by
              unfold selA
              rw [List.foldl_append]
              rfl
            rw [hsel] at hd
            refine ok_b hd ?_
            rintro ω2 ⟨k3, k4⟩
            rw [as_35 (by omega), ob_s, or_n (by omega), ← blL_s]
            have e33 : ω2 33 = ω 33 := by rw [k4 33 (by omega), k2 33 (by omega)]
            have e35 : ω2 35 = ω 35 := by rw [k4 35 (by omega), k2 35 (by omega)]
            have e36 : ω2 36 = ω 36 := by rw [k4 36 (by omega), k2 36 (by omega)]
            have f3 : FrS (38 + 7 * (dp + 1)) μ (u2 ω2 35 dp (nI s)) := f.trans ⟨fun k a b c d => by rw [u2_w, if_neg b, k4 k (by omega), k2 k (by omega)], fun j _ _ => by rw [u2_r, if_neg (by omega), e33]⟩
            have hx3 : PIs (u2 ω2 35 dp (nI s)) (38 + 7 * (dp + 1)) nc (selA nc na A B (l ++ [s])) := by
              unfold PIs
              have q : ∀ j, j ≤ 6 → u2 ω2 35 dp (nI s) (38 + 7 * (dp + 1) + j) = ω2 (38 + 7 * (dp + 1) + j) := fun j hj => by rw [u2_w, if_neg (by omega)]
              have q0 := q 0 (by omega)
              rw [Nat.add_zero] at q0
              rw [q0, q 1 (by omega), q 2 (by omega), q 3 (by omega), q 4 (by omega), q 5 (by omega), q 6 (by omega)]
              exact k3
            have hbd : Bd nc (40 * (dp + 1)) (selA nc na A B (l ++ [s])) := by
              rw [← hsel]
              have hact := pl_act h5
              rw [h6] at hact
              exact bd_mono (bd_se hnc hact na _ _ (Nat.le_refl _) h9 (by omega)) (by omega)
            have hr := ih F' (dp + 1) (l ++ [s]) acc1 (u2 ω2 35 dp (nI s)) (by omega) (by omega) (by simp [h3]) (fun q hq => by
              rcases List.mem_append.mp hq with hq | hq
              · exact h4 q hq
              · simp at hq; omega) (pl_frS hp f3 h5) (by rw [f3.1 110 (by omega) (by omega) (by omega) (by omega)]; exact h6) (fun t ht => by rw [f3.1 (p + 6) (by omega) (by omega) (by omega) (by omega)]; exact h7 t ht) hx3 hbd (fun k hk => by
                rw [u2_r]
                by_cases hkd : k = dp
                · rw [if_pos ⟨rfl, hkd⟩, hkd]
                  simp [List.getD, ← h3]
                · rw [if_neg (by omega), e35, g1 k (by omega), h10 k (by omega)]
                  have : k < l.length := by omega
                  simp [List.getD, List.getElem?_append_left this]) (by
                rw [show u2 ω2 35 dp (nI s) 33 = ω2 33 by rw [u2_w, if_neg (by omega)], show u2 ω2 35 dp (nI s) 36 = ω2 36 by rw [u2_w, if_neg (by omega)], e33, e36]
                exact g2)
            refine ok_b hr ?_
            rintro ω4 ⟨m1, m2, m3⟩
            refine ok_s ⟨f3.trans m2, fun k hk => ?_, m1⟩
            rw [m3 k (by omega), u2_r, if_neg (by omega), e35, g1 k hk]
          · rintro ω4 hω
            simp only [ob_s, n1]
            exact ok_s (Or.inl ⟨_, rfl, hω⟩)
        · rw [bI_f hm, if_pos rfl]
          have hfl : [s].flatMap (fun s => if mfB w s (blL l) = true then pvA ns w n (l ++ [s]) else []) = [] := by simp [hm]
          rw [hfl]
          simp only [ob_s, n1]
          exact ok_s (Or.inl ⟨_, rfl, f, g1, g2⟩)
      · rintro ω ⟨f, g1, g2⟩
        have o1 : ω p 1 = nI ns := by rw [f.1 p (by omega) (by omega) (by omega) (by omega)]; exact e1
        simp only [o1]
        rw [if_pos (by rw [x_le (by omega) (by omega)]; omega)]
        exact ok_s ⟨_, rfl, ok_s ⟨_, rfl, g2, f.mono (by omega), g1⟩⟩
    · rintro q ⟨ν, rfl, g⟩
      exact ok_s g
end
section
/-! ===== best, kept ===== -/
theorem p_look {μ : MT} {p nc ns na nb : Nat} {w : Nat → Nat} (hp : isPl p) (hc4 : 4 ≤ nc) (hpl : PlIs μ p nc ns na nb) (hw : NdA ns nb (μ 111) (μ 112) w) (hw2 : ∀ s, s < ns → μ (p + 6) s = nI (w s)) (hB : ∀ c, c < 12 → μ 16 c = μ 117 c ∧ -40 ≤ (μ 117 c).toInt ∧ (μ 117 c).toInt ≤ 40) (hse : ISe nc ns na nb (μ 110) (μ 111) (μ 112) (μ 117) (μ 33 4) (μ 33 5) (μ 33 6) (μ 36)) :
    Ok (m_X5_look Zc 33 p 16 μ) (fun ν => ν 33 4 = 1 ∧ SeI ns (ν 33 5) (ν 33 6) (ν 36) (bestA nc ns na nb (μ 110) (μ 111) (μ 112) (μ 117)) ∧ ∀ k, k ≠ 33 → k ≠ 35 → k ≠ 36 → k < 38 ∨ 86 < k → ν k = μ k) := by
  obtain ⟨hnc, hns, hna, hnb⟩ := pl_bd hpl
  have hpl2 := isPl_le hp
  unfold m_X5_look
  rcases hse with h0 | ⟨h1, h2⟩
  · rw [if_pos h0]
    simp only [ob_s, zA]
    have h34 : ard Zc 34 0 = some 38 := ard_34 (s := 0) (by omega)
    rw [h34, ob_s]
    have g : ∀ k, k ≠ 33 → u2 (u2 μ 33 4 1) 33 5 0 k = μ k := fun k hk => by rw [u2_w, if_neg hk, u2_w, if_neg hk]
    have g4 : u2 (u2 μ 33 4 1) 33 5 0 33 4 = 1 := by simp [u2_r]
    have g5 : u2 (u2 μ 33 4 1) 33 5 0 33 5 = 0 := by simp [u2_r]
    generalize u2 (u2 μ 33 4 1) 33 5 0 = μ1 at g g4 g5 ⊢
    rw [g p (by omega), hpl.1.1]
    have hb38 : isPn 38 := isPn_d (d := 0) (by omega)
    refine ok_b (p_begin (nc := nc) hb38 (k := 16) (by simp only [zA]) (by omega) hnc) ?_
    rintro μ2 ⟨k1, k2⟩
    rw [g 16 (by omega), bgA_c (B' := μ 117) (fun c hc => (hB c hc).1)] at k1
    have fp : PlIs μ2 p nc ns na nb := by
      refine pl_fr hb38 hp k2 ?_
      unfold PlIs
      rw [g p (by omega), g (p + 1) (by omega), g (p + 2) (by omega), g (p + 3) (by omega), g (p + 4) (by omega), g (p + 5) (by omega), g (p + 6) (by omega), g 110 (by omega), g 111 (by omega), g 112 (by omega)]
      exact hpl
    have e110 : μ2 110 = μ 110 := by rw [k2 110 (by omega), g 110 (by omega)]
    have e33 : μ2 33 = μ1 33 := k2 33 (by omega)
    have ht := p_tryFrom (p := p) (nc := nc) (ns := ns) (na := na) (nb := nb) (A := μ 110) (B := μ 117) (w := w) hp hc4 hns (fun c hc => (hB c hc).2) (fun s hs => (hw.2 s hs).1) ns 8 0 [] none μ2 (by omega) (by omega) rfl (fun q hq => by simp at hq) fp e110 (fun s hs => by rw [k2 (p + 6) (by omega), g (p + 6) (by omega)]; exact hw2 s hs) k1 (bd_bg hnc (fun c hc => (hB c hc).2)) (fun k hk => by omega) (by
      rw [e33]; exact g5)
    refine ok_b ht ?_
    rintro ν ⟨m1, m2, m3⟩
    refine ok_s ⟨?_, ?_, fun k a b c e => ?_⟩
    · rw [m2.2 4 (by omega) (by omega), e33]; exact g4
    · rw [best_pv hw hns]; exact m1
    · rw [m2.1 k a b c (by omega), k2 k (by omega), g k a]
  · rw [if_neg (by rw [h1]; decide)]
    refine ok_s ⟨h1, ?_, fun _ _ _ _ _ => rfl⟩
    unfold SeI
    cases hq : bestA nc ns na nb (μ 110) (μ 111) (μ 112) (μ 117) with
    | none => rw [hq] at h2; exact h2
    | some q => rw [hq] at h2; exact h2
theorem mx_nn {nc : Nat} {N : Nat → Int32} : ∀ n, 0 ≤ (mxA nc N n).toInt
  | 0 => by
    show (0 : Int) ≤ (0 : Int32).toInt
    decide
  | n + 1 => by
    rw [mxA]
    have := mx_nn (nc := nc) (N := N) n
    split
    · rename_i h
      rw [fa_lt] at h
      omega
    · exact this
theorem off_nn {nc : Nat} {N : Nat → Int32} (h4 : 4 ≤ nc) (h12 : nc ≤ 12) : 0 ≤ (offA nc N).toInt := by
  unfold offA
  rw [ti_div (by rw [ti_n (by omega)]; omega)]
  exact Int.tdiv_nonneg (mx_nn _) (by rw [ti_n (by omega)]; omega)
theorem off_nN {nc : Nat} {N : Nat → Int32} (h4 : 4 ≤ nc) (h12 : nc ≤ 12) : ¬ offA nc N = -1000000 := fun hq => by
  have := off_nn (N := N) h4 h12
  rw [hq] at this
  exact absurd this (by decide)
/-- the reference's finds so far -/
def RbI (ns : Nat) (le : Int32) (bo : Nat → Int32) (acc : Option (Int32 × List Nat)) : Prop :=
  match acc with
  | none => le = -1000000
  | some q => le = q.1 ∧ ¬ q.1 = -1000000 ∧ ∀ k, k < ns → bo k = orA q.2 k
def ansB (ns : Nat) (a : Int32) (acc : Option (Int32 × List Nat)) : Int32 :=
  match acc with
  | none => -1000000
  | some q => if a = -1 then q.1 else if a.toInt < ns then orA q.2 a.toInt.toNat else -1000000
theorem r_bcopy {μ : MT} {γ : Type} {F : MT → Option γ} {R : γ → Prop} (hF : Ok (F (u1 μ 125 (fun c => if c < 6 then μ 124 c else μ 125 c))) R) :
    Ok ((loop (σ := Int32 × MT) (τ := MT) (fun (y30, ν31) => ((if 6 ≤ y30 then some (Sum.inr ν31) else (ald Zc ν31 124 y30).bind fun x39 => (ast Zc ν31 125 y30 x39).bind fun ν40 => (some (y30 + 1)).bind fun x41 => some (Sum.inl (x41, ν40))) : Option ((Int32 × MT) ⊕ (MT)))) LN (0, μ)).bind F) R := by
  refine ok_for (fun i ν => ν = u1 μ 125 (fun c => if c < i then μ 124 c else μ 125 c)) 0 6 (by omega) (by omega) rfl ?_ ?_ ?_
  · funext k j
    simp only [u1_r]
    by_cases h : k = 125 <;> simp [h]
  · rintro i ν _ hi rfl
    simp (disch := omega) only [zA, zD, zE, ob_s, x_lt, x_ltl, x_llt, x_le, x_lel, x_lle, x_eq, x_eql, x_eqm, x_al, x_la, x_a, x_ml, x_lm, x_m, x_cl, if_true, if_false, jn, x_d4, x_d2, bz_b, bz_0, bz_1, and_self, not_true_eq_false, not_false_eq_true, true_and, and_true, show ¬ 6 ≤ i by omega]
    refine ok_s (Or.inl ⟨_, rfl, ?_⟩)
    funext k j
    simp only [u1_r, u2_r]
    by_cases h : k = 125
    · subst h
      by_cases hj : j = i
      · subst hj; simp
      · have : (j < i + 1) = (j < i) := by apply propext; omega
        simp [hj, this]
    · simp [h]
  · rintro ν rfl
    simp (disch := omega) only [zA, zD, zE, ob_s, x_lt, x_ltl, x_llt, x_le, x_lel, x_lle, x_eq, x_eql, x_eqm, x_al, x_la, x_a, x_ml, x_lm, x_m, x_cl, if_true, if_false, jn, x_d4, x_d2, bz_b, bz_0, bz_1, and_self, not_true_eq_false, not_false_eq_true, true_and, and_true, Nat.le_refl]
    exact ok_s ⟨_, rfl, hF⟩
theorem op_best {ν : MT} (h : Inv ν) (a0 : Int32) : OkI Inv (m_X8_best Zc 127 0 a0 ν) (fun μ => m_X9_best Zc 106 a0 μ) := by
  obtain ⟨p, d, nc, ns, na, nb, h⟩ := h
  obtain ⟨c1, c2, c3, ⟨hp, hd, hpd, e11, e12⟩, c5, c6, c7, c8, c9, c10, c11, c12, c13⟩ := id h
  obtain ⟨hnc, hns, hna, hnb⟩ := pl_bd c5
  have hpl2 := isPl_le hp
  have e0 := c5.1.1
  have e1 := c5.1.2.1
  by_cases ha : -1 ≤ a0
  case neg =>
    refine okI_of (a := -1000001) (P := fun μ => μ = ν) ?_ ?_
    · unfold m_X8_best
      rw [if_neg ha]
      exact ok_s ⟨rfl, rfl⟩
    · rintro μ rfl
      unfold m_X9_best
      rw [ob_s, if_neg ha]
      exact ok_s ⟨rfl, p, d, nc, ns, na, nb, c_x h (FrX.refl μ).w0⟩
  by_cases hz : nc = 0
  · refine okI_of (a := -1000002) (P := fun μ => μ = ν) ?_ ?_
    · unfold m_X8_best
      rw [if_pos ha, e11, mrd_p hp, ob_s, q_none e0 (by omega), ob_s, bI_t hz, if_neg (by decide)]
      exact ok_s ⟨rfl, rfl⟩
    · rintro μ rfl
      have m5 : u2 μ 106 0 0 106 5 = nI nc := c6.1
      unfold m_X9_best
      rw [ob_s, if_pos ha, m5, if_pos (by rw [hz]; rfl)]
      exact ok_s ⟨rfl, p, d, nc, ns, na, nb, c_x h (FrX.refl μ).w0⟩
  have hz' : ¬ nI nc = 0 := by rw [x_eql (by omega) (by omega)]; exact hz
  have hc4 : 4 ≤ nc := by have := c5.2.1; omega
  obtain ⟨w, hw, hw2⟩ := nd_ex c5
  have hlo : -1 ≤ a0.toInt := by rw [fa_le] at ha; exact ha
  have hane : ∀ q : Nat, ¬ a0 = -1 → 0 ≤ a0.toInt := fun _ hq => by
    have : ¬ a0.toInt = -1 := fun hh => hq (by rw [fa_eq]; exact hh)
    omega
  refine okI_of (a := ansB ns a0 (bestA nc ns na nb (ν 110) (ν 111) (ν 112) (ν 117))) (P := fun μ => μ 33 4 = 1 ∧ SeI ns (μ 33 5) (μ 33 6) (μ 36) (bestA nc ns na nb (ν 110) (ν 111) (ν 112) (ν 117)) ∧ ∀ k, k ≠ 33 → k ≠ 35 → k ≠ 36 → k < 38 ∨ 86 < k → μ k = ν k) ?_ ?_
  · unfold m_X8_best
    rw [if_pos ha, e11, mrd_p hp, ob_s, q_none e0 (by omega), ob_s, bI_f hz, if_pos rfl, ob_s]
    simp only [zA]
    refine ok_b (p_look hp hc4 c5 hw hw2 c7 c10) ?_
    rintro μ ⟨g1, g2, g3⟩
    have hP := And.intro g1 (And.intro g2 g3)
    generalize bestA nc ns na nb (ν 110) (ν 111) (ν 112) (ν 117) = acc at g2 hP ⊢
    cases acc with
    | none =>
      have g5 : μ 33 5 = 0 := g2
      rw [if_pos g5]
      exact ok_s ⟨rfl, hP⟩
    | some q =>
      obtain ⟨g5, g6, g7⟩ : μ 33 5 = 1 ∧ μ 33 6 = q.1 ∧ ∀ k, k < ns → μ 36 k = orA q.2 k := g2
      rw [if_neg (by rw [g5]; decide)]
      unfold ansB
      by_cases hm : a0 = -1
      · rw [if_pos hm]
        exact ok_s ⟨by simp only [if_pos hm]; exact g6, hP⟩
      · have h0 := hane 0 hm
        rw [if_neg hm, g3 0 (by omega) (by omega) (by omega) (by omega), e11, mrd_p hp, ob_s, q_hasSeam (show μ p 1 = nI ns by rw [g3 p (by omega) (by omega) (by omega) (by omega)]; exact e1) (by omega), ob_s]
        simp only [if_neg hm]
        by_cases hs : a0.toInt < ns
        · rw [bI_t ⟨h0, hs⟩, if_neg (by decide)]
          obtain ⟨s, hs1, rfl⟩ := nI_ex (n := ns) h0 hs
          rw [al_36 (by omega), ob_s]
          refine ok_s ⟨?_, hP⟩
          rw [if_pos hs, g7 s hs1, ti_n (by omega)]
          rfl
        · rw [bI_f (fun hq => hs hq.2), if_pos rfl]
          exact ok_s ⟨by simp only [if_neg hs], hP⟩
  · rintro μ ⟨f1, f2, f⟩
    have fk : ∀ k, k < 33 ∨ 86 < k → μ k = ν k := fun k hk => f k (by omega) (by omega) (by omega) (by omega)
    have hcore : Core μ p d nc ns na nb := by
      refine c_gen h ?_ ?_ ?_ ?_ (Or.inl ⟨?_, ?_⟩) (Or.inl ⟨?_, ?_, ?_, ?_, ?_⟩) (Or.inr (Or.inr ⟨f1, ?_⟩)) (Or.inl ⟨?_, ?_⟩)
      · rw [fk 0 (by omega), fk 106 (by omega)]; exact c2.1
      · intro j _; rw [fk 0 (by omega)]
      · intro j _; rw [fk 106 (by omega)]
      · intro k hk; exact fk k (by omega)
      · exact fk 17 (by omega)
      · exact fk 118 (by omega)
      · rw [fk 0 (by omega)]
      · rw [fk 106 (by omega)]
      · rw [fk 106 (by omega)]
      · exact fk 122 (by omega)
      · intro k a b; exact fk k (by omega)
      · rw [fk 110 (by omega), fk 111 (by omega), fk 112 (by omega), fk 117 (by omega)]
        unfold SeI at f2
        cases hq : bestA nc ns na nb (ν 110) (ν 111) (ν 112) (ν 117) with
        | none => rw [hq] at f2; exact f2
        | some q => rw [hq] at f2; exact f2
      · rw [fk 87 (by omega)]
      · exact fk 88 (by omega)
    have m106 : μ 106 = ν 106 := fk 106 (by omega)
    have m5 : u2 μ 106 0 0 106 5 = nI nc := by rw [u2_r, if_neg (by omega), m106]; exact c6.1
    have hch := pl_chain ns (by omega)
    have hhd := pl_head ns (by omega)
    have hln := pl_len ns (by omega)
    have hmem : ∀ l, l ∈ pmA ns ns [] → ∀ k, k < ns → l.getD k 0 < 1000 := fun l hl k hk => by
      obtain ⟨a1, a2, _⟩ := pl_facts hns hl
      have := getD_lt a2 (k := k) (by omega)
      omega
    unfold bestA
    generalize pmA ns ns [] = PL at hch hhd hln hmem ⊢
    unfold m_X9_best
    rw [ob_s, if_pos ha, m5, if_neg hz', r_layN, ob_s, r_layO, ob_s]
    simp only [zA]
    have fx0 : FrX μ (u1 (u2 μ 106 0 0) 124 (fun c => if c < 6 then nI c else u2 μ 106 0 0 124 c)) := (FrX.refl μ).w0.w1 (by omega)
    have o0 : OrI (u1 (u2 μ 106 0 0) 124 (fun c => if c < 6 then nI c else u2 μ 106 0 0 124 c)) ns (fun j => (List.range ns).getD j 0) := fun k hk => by
      rw [u1_r, if_pos rfl, if_pos (by omega)]
      simp [List.getD, hk]
    generalize u1 (u2 μ 106 0 0) 124 (fun c => if c < 6 then nI c else u2 μ 106 0 0 124 c) = μ0 at fx0 o0 ⊢
    have fx : FrX μ (u1 μ0 123 (fun c => if c < 12 then μ0 117 c else μ0 123 c)) := fx0.w1 (by omega)
    have o1 : OrI (u1 μ0 123 (fun c => if c < 12 then μ0 117 c else μ0 123 c)) ns (fun j => (List.range ns).getD j 0) := fun k hk => by
      rw [u1_w, if_neg (by omega)]; exact o0 k hk
    have o123 : ∀ c, c < 12 → u1 μ0 123 (fun c => if c < 12 then μ0 117 c else μ0 123 c) 123 c = ν 117 c := fun c hc => by
      rw [u1_r, if_pos rfl, if_pos hc, fx0.1 117 (by omega) (by omega), fk 117 (by omega)]
    generalize u1 μ0 123 (fun c => if c < 12 then μ0 117 c else μ0 123 c) = μ1 at fx o1 o123 ⊢
    obtain ⟨r0, hr0⟩ : ∃ r0, PL = List.range ns :: r0 := by
      cases PL with
      | nil => simp at hhd
      | cons a b => simp at hhd; exact ⟨b, by rw [hhd]⟩
    refine ok_l (fun m s => FrX μ s.2.2 ∧ (∀ c, c < 12 → s.2.2 123 c = ν 117 c) ∧ ((s.2.1 = 0 ∧ RbI ns s.1 (s.2.2 125) (PL.foldl (bsA nc ns na nb (ν 110) (ν 111) (ν 112) (ν 117)) none)) ∨ (s.2.1 = 1 ∧ ∃ pre l r, PL = pre ++ l :: r ∧ m = r.length + 1 ∧ RbI ns s.1 (s.2.2 125) (pre.foldl (bsA nc ns na nb (ν 110) (ν 111) (ν 112) (ν 117)) none) ∧ OrI s.2.2 ns (fun j => l.getD j 0)))) (r0.length + 1) (by rw [hr0] at hln; simp at hln; omega) ⟨fx, o123, Or.inr ⟨rfl, [], List.range ns, r0, by rw [hr0]; rfl, rfl, show RbI ns (-1000000) (μ1 125) none from rfl, o1⟩⟩ ?_
    rintro m ⟨y4, y5, ξ⟩ ⟨g1, g123, g2⟩
    simp only at g1 g2 g123 ⊢
    rcases g2 with ⟨k1, k2⟩ | ⟨k1, pre, l, r, k2, k3, k4, k5⟩
    · subst k1
      rw [if_pos rfl]
      refine ok_s (Or.inl ⟨_, rfl, ?_⟩)
      have hinv : Inv ξ := ⟨p, d, nc, ns, na, nb, c_x hcore g1⟩
      generalize PL.foldl (bsA nc ns na nb (ν 110) (ν 111) (ν 112) (ν 117)) none = acc at k2 ⊢
      have x6 : ξ 106 6 = nI ns := by rw [g1.2 6 (by omega) (by omega), m106]; exact c6.2.1
      simp only [x6]
      cases acc with
      | none =>
        have g5 : y4 = -1000000 := k2
        by_cases hm : a0 = -1
        · rw [if_pos hm]
          exact ok_s ⟨g5, hinv⟩
        · rw [if_neg hm, if_pos g5, ob_s]
          exact ok_s ⟨rfl, hinv⟩
      | some q =>
        obtain ⟨g5, g6, g7⟩ : y4 = q.1 ∧ ¬ q.1 = -1000000 ∧ ∀ k, k < ns → ξ 125 k = orA q.2 k := k2
        unfold ansB
        by_cases hm : a0 = -1
        · rw [if_pos hm]
          exact ok_s ⟨by simp only [if_pos hm]; exact g5, hinv⟩
        · have h0 := hane 0 hm
          rw [if_neg hm, if_neg (by rw [g5]; exact g6)]
          simp only [if_neg hm]
          by_cases hs : a0.toInt < ns
          · rw [if_pos (show a0 < nI ns by rw [fa_lt, ti_n (by omega)]; exact hs)]
            obtain ⟨s, hs1, rfl⟩ := nI_ex (n := ns) h0 hs
            rw [al_125 (by omega), ob_s, ob_s]
            refine ok_s ⟨?_, hinv⟩
            rw [if_pos hs, g7 s hs1, ti_n (by omega)]
            rfl
          · rw [if_neg (show ¬ a0 < nI ns by rw [fa_lt, ti_n (by omega)]; exact hs), ob_s]
            exact ok_s ⟨by simp only [if_neg hs], hinv⟩
    · subst k1
      have x5 : ξ 106 5 = nI nc := by rw [g1.2 5 (by omega) (by omega), m106]; exact c6.1
      have x6 : ξ 106 6 = nI ns := by rw [g1.2 6 (by omega) (by omega), m106]; exact c6.2.1
      have x7 : ξ 106 7 = nI na := by rw [g1.2 7 (by omega) (by omega), m106]; exact c6.2.2.1
      have x8 : ξ 106 8 = nI nb := by rw [g1.2 8 (by omega) (by omega), m106]; exact c6.2.2.2
      have x110 : ξ 110 = ν 110 := by rw [g1.1 110 (by omega) (by omega), fk 110 (by omega)]
      have x111 : ξ 111 = ν 111 := by rw [g1.1 111 (by omega) (by omega), fk 111 (by omega)]
      have x112 : ξ 112 = ν 112 := by rw [g1.1 112 (by omega) (by omega), fk 112 (by omega)]
      rw [if_neg (by decide), r_fits x6 x8 hns hnb, ob_s, x111, x112, ftA_c (O' := orA l) k5]
      have hl : l ∈ PL := by rw [k2]; simp
      have hlm := hmem l hl
      have hsn : (pre ++ [l]).foldl (bsA nc ns na nb (ν 110) (ν 111) (ν 112) (ν 117)) none = bsA nc ns na nb (ν 110) (ν 111) (ν 112) (ν 117) (pre.foldl (bsA nc ns na nb (ν 110) (ν 111) (ν 112) (ν 117)) none) l := by
        rw [List.foldl_append]; rfl
      have hchk := chk_suf (pre := pre) (by rw [← k2]; exact hch)
      refine ok_b (R1 := fun q => FrX μ q.2 ∧ (∀ c, c < 12 → q.2 123 c = ν 117 c) ∧ RbI ns q.1 (q.2 125) ((pre ++ [l]).foldl (bsA nc ns na nb (ν 110) (ν 111) (ν 112) (ν 117)) none) ∧ OrI q.2 ns (fun j => l.getD j 0)) ?_ ?_
      · rw [hsn]
        generalize pre.foldl (bsA nc ns na nb (ν 110) (ν 111) (ν 112) (ν 117)) none = acc at k4 ⊢
        unfold bsA
        by_cases hft : ftA ns nb (ν 111) (ν 112) (orA l) = true
        · rw [bI_t hft, if_neg (by decide), if_pos hft]
          have hgo := r_go (μ := ξ) (wo := -1000000) x5 x6 x7 hnc hns hna (by rw [x110]; exact pl_act c5) (fun c hc => by rw [g123 c hc]; exact (c7 c hc).2)
          have hX : goA nc ns na (ξ 110) (ξ 123) (ξ 124) (-1000000) = goA nc ns na (ν 110) (ν 117) (orA l) (-1) := by
            rw [x110]
            refine goA_c g123 (fun k hk => k5 k hk) (fun k hk => ?_)
            have := hlm k hk
            rw [k5 k hk]
            exact ⟨fun q => absurd q (mNn (by omega)), fun q => absurd q (m1n (by omega))⟩
          rw [hX] at hgo
          refine ok_b hgo ?_
          rintro ξ2 ⟨n1', n2⟩
          rw [r_off (by rw [n2.2 5 (by omega)]; exact x5) hc4 hnc, ob_s, offA_c (N' := (goA nc ns na (ν 110) (ν 117) (orA l) (-1)).1) (fun c hc => n1'.1 _ (by omega))]
          have hnN := off_nN (N := (goA nc ns na (ν 110) (ν 117) (orA l) (-1)).1) hc4 hnc
          generalize offA nc (goA nc ns na (ν 110) (ν 117) (orA l) (-1)).1 = off at hnN ⊢
          have fx2 : FrX μ ξ2 := g1.trans (FrX.of n2)
          have z123 : ξ2 123 = ξ 123 := n2.1 123 (by omega) (by omega) (by omega) (by omega)
          have z124 : ξ2 124 = ξ 124 := n2.1 124 (by omega) (by omega) (by omega) (by omega)
          have z125 : ξ2 125 = ξ 125 := n2.1 125 (by omega) (by omega) (by omega) (by omega)
          have htake : Ok ((loop (σ := Int32 × MT) (τ := MT) (fun (y30, ν31) => ((if 6 ≤ y30 then some (Sum.inr ν31) else (ald Zc ν31 124 y30).bind fun x39 => (ast Zc ν31 125 y30 x39).bind fun ν40 => (some (y30 + 1)).bind fun x41 => some (Sum.inl (x41, ν40))) : Option ((Int32 × MT) ⊕ (MT)))) LN (0, ξ2)).bind (fun ν32 => some (off, ν32))) (fun q => FrX μ q.2 ∧ (∀ c, c < 12 → q.2 123 c = ν 117 c) ∧ RbI ns q.1 (q.2 125) (some (off, l)) ∧ OrI q.2 ns (fun j => l.getD j 0)) := by
            refine r_bcopy (ok_s ⟨fx2.w1 (by omega), fun c hc => ?_, ⟨rfl, hnN, fun k hk => ?_⟩, fun k hk => ?_⟩)
            · simp only []
              rw [u1_w, if_neg (by omega), z123]; exact g123 c hc
            · simp only []
              rw [u1_r, if_pos rfl, if_pos (by omega), z124]; exact k5 k hk
            · simp only []
              rw [u1_w, if_neg (by omega), z124]; exact k5 k hk
          cases acc with
          | none =>
            have g5 : y4 = -1000000 := k4
            rw [if_pos g5, ob_s]
            exact htake
          | some q =>
            obtain ⟨g5, g6, g7⟩ : y4 = q.1 ∧ ¬ q.1 = -1000000 ∧ ∀ k, k < ns → ξ 125 k = orA q.2 k := k4
            subst g5
            rw [if_neg g6]
            by_cases hlt : off < q.1
            · rw [if_neg (fun hq => (nle.mpr hlt) hq), ob_s]
              simp only [if_pos hlt]
              exact htake
            · have hle : q.1 ≤ off := Classical.byContradiction fun hq => hlt (nle.mp hq)
              rw [if_pos hle, ob_s]
              simp only [if_neg hlt]
              refine ok_s ⟨fx2, fun c hc => ?_, ?_, fun k hk => ?_⟩
              · show ξ2 123 c = _
                rw [z123]; exact g123 c hc
              · show RbI ns q.1 (ξ2 125) (some q)
                rw [z125]; exact ⟨rfl, g6, g7⟩
              · show ξ2 124 k = _
                rw [z124]; exact k5 k hk
        · rw [bI_f hft, if_pos rfl, if_neg hft]
          exact ok_s ⟨g1, g123, k4, k5⟩
      · rintro ⟨le, ξ2⟩ ⟨j1, j2, j3, j4⟩
        simp only at j1 j2 j3 j4 ⊢
        have x62 : ξ2 106 6 = nI ns := by rw [j1.2 6 (by omega) (by omega), m106]; exact c6.2.1
        have hnx := r_next x62 j4 hlm hns
        rw [hchk] at hnx
        refine ok_b hnx ?_
        rintro ⟨v, ξ3⟩ ⟨n1', n2⟩
        simp only at n1' n2 ⊢
        have fx3 : FrX μ ξ3 := j1.trans ⟨fun k a b => n1' k (by omega), fun j _ _ => by rw [n1' 106 (by omega)]⟩
        have q123 : ∀ c, c < 12 → ξ3 123 c = ν 117 c := fun c hc => by rw [n1' 123 (by omega)]; exact j2 c hc
        have q125 : ξ3 125 = ξ2 125 := n1' 125 (by omega)
        rcases n2 with ⟨q1, q2⟩ | ⟨l', q1, q2, q3⟩
        · subst q2
          cases r with
          | nil => exact ok_s (Or.inr ⟨_, 0, rfl, by omega, fx3, q123, Or.inl ⟨rfl, by show RbI ns le (ξ3 125) _; rw [q125, k2]; exact j3⟩⟩)
          | cons a b => simp at q1
        · subst q2
          cases r with
          | nil => simp at q1
          | cons a b =>
            simp at q1
            subst q1
            exact ok_s (Or.inr ⟨_, b.length + 1, rfl, by simp at k3; omega, fx3, q123, Or.inr ⟨rfl, pre ++ [l], a, b, by rw [k2]; simp, rfl, by show RbI ns le (ξ3 125) _; rw [q125]; exact j3, q3⟩⟩)
end
section
/-! ===== beforehand: a cell's bend hangs on its own setting alone ===== -/
def RlA (c : Nat) (x y : RS) : Prop := (∀ k, k < 24 → x.1 k = y.1 k) ∧ x.1 (24 + c) = y.1 (24 + c) ∧ x.2.1 c = y.2.1 c ∧ (∀ q, x.2.2.1 q = y.2.2.1 q) ∧ x.2.2.2 = y.2.2.2
theorem rl_min {nc c : Nat} {x y : RS} (hnc : nc ≤ 12) (h : RlA c x y) : RlA c (minA nc x) (minA nc y) := by
  obtain ⟨h1, h2, h3, h4, h5⟩ := h
  refine ⟨fun k hk => ?_, ?_, h3, h4, ?_⟩
  · simp only [minA]
    rw [h1 k hk]
  · simp only [minA]
    rw [if_neg (by omega), if_neg (by omega)]; exact h2
  · simp only [minA]
    rw [h5]
theorem rl_mins {nc c : Nat} (hnc : nc ≤ 12) : ∀ (n : Nat) (x y : RS), RlA c x y → RlA c (minsA nc n x) (minsA nc n y)
  | 0, _, _, h => h
  | n + 1, x, y, h => rl_mins hnc n _ _ (rl_min hnc h)
theorem rl_ho {nc c k : Nat} {x y : RS} (hnc : nc ≤ 12) (h : RlA c x y) : hoA nc x.1 k = hoA nc y.1 k := by
  unfold hoA
  by_cases hk : k < nc
  · rw [h.1 (12 + k) (by omega)]
  · simp [hk]
theorem rl_ef {nc c kd : Nat} {p : Int32} {x y : RS} (hnc : nc ≤ 12) (hc : c < 12) (h : RlA c x y) : efA nc x.1 kd c p = efA nc y.1 kd c p := by
  have hs : shA nc x.1 kd c p = shA nc y.1 kd c p := by
    unfold shA
    rw [rl_ho hnc h, rl_ho (k := c - 1) hnc h, rl_ho (k := c) hnc h, h.2.1]
  unfold efA
  rw [hs, h.1 c (by omega), h.1 (12 + c) (by omega)]
theorem rl_st {nc kd c c' : Nat} {p : Int32} {x y : RS} (hnc : nc ≤ 12) (hc : c < 12) (hc' : c' < 12) (h : RlA c x y) : RlA c (stA nc kd c' p x) (stA nc kd c' p y) := by
  unfold stA
  apply rl_min hnc
  have hef : c' = c → efA nc x.1 kd c' p = efA nc y.1 kd c' p := fun hq => by subst hq; exact rl_ef hnc hc h
  obtain ⟨h1, h2, h3, h4, h5⟩ := h
  refine ⟨fun k hk => ?_, ?_, ?_, h4, h5⟩
  · simp only []
    by_cases k1 : k = c'
    · rw [if_pos k1, if_pos k1, h1 k hk]
    · rw [if_neg k1, if_neg k1]
      by_cases k2 : k = 12 + c'
      · rw [if_pos k2, if_pos k2, h1 k hk]
      · rw [if_neg k2, if_neg k2, if_neg (by omega), if_neg (by omega), if_neg (by omega), if_neg (by omega), h1 k hk]
  · simp only []
    by_cases k3 : 24 + c = 24 + c'
    · have k1 : ¬ 24 + c = c' := by omega
      have k2 : ¬ 24 + c = 12 + c' := by omega
      rw [if_neg k1, if_neg k2, if_pos k3, if_neg k1, if_neg k2, if_pos k3, h4 c', h2, hef (by omega)]
    · rw [if_neg (by omega), if_neg (by omega), if_neg k3, if_neg (by omega), if_neg (by omega), if_neg (by omega), if_neg k3, if_neg (by omega), h2]
  · simp only []
    rw [h4 c']
    by_cases k0 : y.2.2.1 c' = 0
    · rw [if_pos k0, if_pos k0]; exact h3
    · rw [if_neg k0, if_neg k0]
      unfold upd
      by_cases k1 : c = c'
      · subst k1
        rw [if_pos rfl, if_pos rfl, h3, hef rfl]
      · rw [if_neg k1, if_neg k1]; exact h3
theorem rl_fr {c c' : Nat} {x y : RS} (hc : c < 12) (h : RlA c x y) : RlA c (frA c' x) (frA c' y) := by
  obtain ⟨h1, h2, h3, h4, h5⟩ := h
  unfold frA
  rw [h4 c']
  by_cases k0 : y.2.2.1 c' = 0
  · rw [if_pos k0, if_pos k0]; exact ⟨h1, h2, h3, h4, h5⟩
  · rw [if_neg k0, if_neg k0]
    refine ⟨fun k hk => ?_, ?_, ?_, fun q => ?_, h5⟩
    · simp only [upd]
      rw [if_neg (by omega), if_neg (by omega)]; exact h1 k hk
    · simp only [upd]
      by_cases k1 : 24 + c = 24 + c'
      · have : c' = c := by omega
        subst this
        rw [if_pos rfl, if_pos rfl, h2, h3]
      · rw [if_neg k1, if_neg k1]; exact h2
    · simp only [upd]
      by_cases k1 : c = c'
      · rw [if_pos k1, if_pos k1]
      · rw [if_neg k1, if_neg k1]; exact h3
    · simp only [upd]
      rw [h4 q]
theorem rl_ac {nc c a : Nat} {A : Nat → Int32} {x y : RS} (hnc : nc ≤ 12) (hc : c < 12) (ha : ActOK nc A a) (h : RlA c x y) : RlA c (acA nc A a x) (acA nc A a y) := by
  obtain ⟨k, c', q, hk, e1, e2, h7, h8, h9⟩ := ha
  unfold acA
  rw [e1, e2, x_cl (show c' < 2147483648 by by_cases k = 7 <;> omega)]
  by_cases k7 : (nI (k + 1) : Int32) = 8
  · rw [if_pos k7, if_pos k7]
    exact rl_mins hnc _ _ _ h
  · rw [if_neg k7, if_neg k7]
    have hk7 : k ≠ 7 := fun hq => k7 (by rw [hq]; rfl)
    have := h8 hk7
    by_cases k8 : (nI (k + 1) : Int32) = 9
    · rw [if_pos k8, if_pos k8]
      obtain ⟨h1, h2, h3, h4, h5⟩ := h
      refine ⟨h1, h2, h3, fun q => ?_, h5⟩
      simp only [upd]
      rw [h4 q]
    · rw [if_neg k8, if_neg k8]
      by_cases k9 : (nI (k + 1) : Int32) = 10
      · rw [if_pos k9, if_pos k9]
        exact rl_fr hc h
      · rw [if_neg k9, if_neg k9]
        exact rl_st hnc hc (by omega) h
theorem fold_rl {α : Type} {R : α → α → Prop} {f g : α → Nat → α} : ∀ (n : Nat) (x y : α), (∀ a x y, a < n → R x y → R (f x a) (g y a)) → R x y → R ((List.range n).foldl f x) ((List.range n).foldl g y)
  | 0, _, _, _, h => h
  | n + 1, x, y, hs, h => by
    rw [List.range_succ, List.foldl_append, List.foldl_append]
    exact hs n _ _ (by omega) (fold_rl n x y (fun a x y ha => hs a x y (by omega)) h)
theorem rl_go {nc ns na c : Nat} {A B B' O : Nat → Int32} {wo : Int32} (hnc : nc ≤ 12) (hc : c < 12) (hA : ∀ a, a < na → ActOK nc A a) (hB : B c = B' c) : RlA c (goA nc ns na A B O wo) (goA nc ns na A B' O wo) := by
  unfold goA frsA
  refine fold_rl nc _ _ (fun a x y ha h => rl_fr hc h) ?_
  unfold sesA
  refine fold_rl ns _ _ (fun k x y hk h => ?_) ?_
  · by_cases hw : O k = wo
    · rw [if_pos hw, if_pos hw]; exact h
    · rw [if_neg hw, if_neg hw]
      unfold seA
      refine fold_rl na _ _ (fun a x y ha h => ?_) h
      by_cases hs : A (4 * a + 3) = O k
      · rw [if_pos hs, if_pos hs]
        exact rl_ac hnc hc (hA a ha) h
      · rw [if_neg hs, if_neg hs]; exact h
  · refine ⟨fun k hk => ?_, ?_, rfl, fun q => rfl, rfl⟩
    · simp only [bgA]
      rw [if_neg (by omega), if_neg (by omega)]
    · simp only [bgA]
      rw [if_pos (by omega), if_pos (by omega), show 24 + c - 24 = c by omega, hB]
theorem bf_none {nc ns na c : Nat} {A : Nat → Int32} : ∀ n, (∀ k, k < n → flA nc ns na A c k = false) → bfA nc ns na A c n = -1000000
  | 0, _ => rfl
  | n + 1, h => by
    rw [bfA, bf_none n (fun k hk => h k (by omega)), if_pos rfl, h n (by omega)]
    exact if_neg (by decide)
theorem bv_bd {k : Nat} (h : k ≤ 80) : -40 ≤ (bvA k).toInt ∧ (bvA k).toInt ≤ 40 := by
  unfold bvA
  by_cases h1 : k % 2 = 1
  · rw [if_pos h1]
    have e1 : (nI (k / 2)).toInt = ((k / 2 : Nat) : Int) := ti_n (by omega)
    have e2 : (-nI (k / 2)).toInt = -((k / 2 : Nat) : Int) := by rw [ti_neg (by omega), e1]
    have e3 : (1 : Int32).toInt = 1 := rfl
    rw [ti_sub (by rw [e2, e3]; omega) (by rw [e2, e3]; omega), e2, e3]
    omega
  · rw [if_neg h1, ti_n (by omega)]
    omega
theorem bv_N {k : Nat} (h : k ≤ 80) : ¬ bvA k = -1000000 := fun hq => by
  have := bv_bd h
  rw [hq] at this
  exact absurd this (by decide)
theorem bf_hit {nc ns na c K : Nat} {A : Nat → Int32} (hK : K ≤ 80) (h1 : ∀ k, k < K → flA nc ns na A c k = false) (h2 : flA nc ns na A c K = true) : ∀ n, bfA nc ns na A c (K + 1 + n) = bvA K
  | 0 => by
    rw [Nat.add_zero, bfA, bf_none K h1, if_pos rfl, h2]
    exact if_pos rfl
  | n + 1 => by
    rw [show K + 1 + (n + 1) = (K + 1 + n) + 1 by omega, bfA, bf_hit hK h1 h2 n, if_neg (bv_N hK)]
theorem ah_none {nc ns na : Nat} {A : Nat → Int32} {c : Nat} (h : ahA nc ns na A c = -1000000) : ∀ n, ahA nc ns na A (c + n) = -1000000
  | 0 => h
  | n + 1 => by
    rw [show c + (n + 1) = (c + n) + 1 by omega, ahA, if_pos (ah_none h n)]
theorem fl_b {nc ns na c k : Nat} {A B O : Nat → Int32} {wo : Int32} (hnc : nc ≤ 12) (hc : c < 12) (hns : ns ≤ 6) (hA : ∀ a, a < na → ActOK nc A a) (hB : B c = bvA k) (hO : ∀ j, j < ns → O j = nI j) (hw : ∀ j, j < ns → ¬ nI j = wo) : flA nc ns na A c k = decide ((goA nc ns na A B O wo).1 (24 + c) = 0) := by
  unfold flA
  have h1 : goA nc ns na A (fun _ => bvA k) (fun j => nI j) (-1) = goA nc ns na A (fun _ => bvA k) O wo := goA_c (fun _ _ => rfl) (fun j hj => (hO j hj).symm) (fun j hj => ⟨fun q => absurd q (m1n (by omega)), fun q => by rw [hO j hj] at q; exact absurd q (hw j hj)⟩)
  rw [h1, (rl_go (B := fun _ => bvA k) (B' := B) hnc hc hA hB.symm).2.1]
/-! ===== the program's look ===== -/
theorem p_keep {μ : MT} {nc : Nat} {v : Int32} {x : RS} (hnc : nc ≤ 12) (hx : PIs μ 26 nc x) : Ok (m_X1_keepWhereFlat Zc 87 26 v μ) (fun ν => (∀ k, k ≠ 88 → ν k = μ k) ∧ (∀ c, c < nc → ν 88 c = if μ 88 c = -1000000 then (if x.1 (24 + c) = 0 then v else -1000000) else μ 88 c) ∧ ∀ c, nc ≤ c → ν 88 c = μ 88 c) := by
  have e7 := hx.1
  unfold m_X1_keepWhereFlat
  simp only [zA]
  refine ok_for (fun i ν => (∀ k, k ≠ 88 → ν k = μ k) ∧ (∀ c, c < i → ν 88 c = if μ 88 c = -1000000 then (if x.1 (24 + c) = 0 then v else -1000000) else μ 88 c) ∧ ∀ c, i ≤ c → ν 88 c = μ 88 c) 0 nc (by omega) (by omega) rfl ⟨fun _ _ => rfl, fun c hc => by omega, fun _ _ => rfl⟩ ?_ ?_
  · rintro i ν _ hi ⟨f, g1, g2⟩
    have q7 : ν 26 7 = nI nc := by rw [f 26 (by omega)]; exact e7
    simp only [q7]
    rw [if_neg (by rw [x_le (by omega) (by omega)]; omega), al_88 (by omega), ob_s, g2 i (Nat.le_refl _), zp_3 pn26]
    have hb : ν (26 + 4) i = x.1 (24 + i) := by rw [f (26 + 4) (by omega)]; exact (hx.2.2.2 i hi).2.1
    have hgo : ∀ ν' : MT, (∀ k, k ≠ 88 → ν' k = μ k) → (∀ c, c ≠ i → ν' 88 c = ν 88 c) → (ν' 88 i = if μ 88 i = -1000000 then (if x.1 (24 + i) = 0 then v else -1000000) else μ 88 i) → (∀ k, k ≠ 88 → ν' k = μ k) ∧ (∀ c, c < i + 1 → ν' 88 c = if μ 88 c = -1000000 then (if x.1 (24 + c) = 0 then v else -1000000) else μ 88 c) ∧ ∀ c, i + 1 ≤ c → ν' 88 c = μ 88 c := fun ν' a1 a2 a3 => ⟨a1, fun c hc => by
      by_cases hci : c = i
      · rw [hci]; exact a3
      · rw [a2 c hci]; exact g1 c (by omega), fun c hc => by rw [a2 c (by omega)]; exact g2 c (by omega)⟩
    by_cases h1 : μ 88 i = -1000000
    · rw [if_pos h1, al_P pn26 (by omega) (by omega) (by omega), ob_s, hb]
      by_cases h2 : x.1 (24 + i) = 0
      · rw [if_pos h2, as_88 (by omega)]
        simp only [ob_s, n1]
        refine ok_s (Or.inl ⟨_, rfl, hgo _ (fun k hk => by rw [u2_w, if_neg hk]; exact f k hk) (fun c hc => by rw [u2_r, if_neg (by omega)]) ?_⟩)
        rw [if_pos h1, if_pos h2, u2_r, if_pos ⟨rfl, rfl⟩]
      · rw [if_neg h2]
        simp only [ob_s, n1]
        refine ok_s (Or.inl ⟨_, rfl, hgo _ f (fun c hc => rfl) ?_⟩)
        rw [if_pos h1, if_neg h2, g2 i (Nat.le_refl _), h1]
    · rw [if_neg h1]
      simp only [ob_s, n1]
      refine ok_s (Or.inl ⟨_, rfl, hgo _ f (fun c hc => rfl) ?_⟩)
      rw [if_neg h1, g2 i (Nat.le_refl _)]
  · rintro ν ⟨f, g1, g2⟩
    have q7 : ν 26 7 = nI nc := by rw [f 26 (by omega)]; exact e7
    simp only [q7]
    rw [if_pos (by rw [x_le (by omega) (by omega)]; omega)]
    exact ok_s ⟨_, rfl, ok_s ⟨f, g1, g2⟩⟩
theorem p_bfl {μ : MT} {p nc ns na nb : Nat} (hp : isPl p) (hc4 : 4 ≤ nc) (hpl : PlIs μ p nc ns na nb) (h1000 : μ 1000 = μf 1000) (hbe : IBe nc ns na (μ 110) (μ 87 2) (μ 88)) :
    Ok (m_X1_look Zc 87 p 26 μ) (fun ν => ν 87 2 = 1 ∧ (∀ c, c < nc → ν 88 c = ahA nc ns na (μ 110) c) ∧ ∀ k, k ≠ 87 → k ≠ 88 → k ≠ 89 → k < 26 ∨ 32 < k → ν k = μ k) := by
  obtain ⟨hnc, hns, hna, hnb⟩ := pl_bd hpl
  have hpl2 := isPl_le hp
  have hact := pl_act hpl
  unfold m_X1_look
  rcases hbe with h0 | ⟨h1, h2⟩
  case inr =>
    rw [if_neg (by rw [h1]; decide)]
    exact ok_s ⟨h1, h2, fun _ _ _ _ _ => rfl⟩
  rw [if_pos h0]
  simp only [ob_s, zA]
  rw [q_fill (n := 12) (by simp only [zA]) (by omega), ob_s]
  have g : ∀ k, k ≠ 87 → k ≠ 88 → u1 (u2 μ 87 2 1) 88 (fun j => if j < 12 then -1000000 else u2 μ 87 2 1 88 j) k = μ k := fun k a b => by rw [u1_w, if_neg b, u2_w, if_neg a]
  have g87 : u1 (u2 μ 87 2 1) 88 (fun j => if j < 12 then -1000000 else u2 μ 87 2 1 88 j) 87 2 = 1 := by simp [u1_r, u2_r]
  have g88 : ∀ c, c < 12 → u1 (u2 μ 87 2 1) 88 (fun j => if j < 12 then -1000000 else u2 μ 87 2 1 88 j) 88 c = -1000000 := fun c hc => by rw [u1_r, if_pos rfl, if_pos hc]
  generalize u1 (u2 μ 87 2 1) 88 (fun j => if j < 12 then -1000000 else u2 μ 87 2 1 88 j) = μ1 at g g87 g88 ⊢
  refine ok_for (fun k ν => ν 87 2 = 1 ∧ (∀ c, c < nc → ν 88 c = bfA nc ns na (μ 110) c k) ∧ ∀ k, k ≠ 87 → k ≠ 88 → k ≠ 89 → k < 26 ∨ 32 < k → ν k = μ k) 0 81 (by omega) (by omega) rfl ⟨g87, fun c hc => g88 c (by omega), fun k a b _ _ => g k a b⟩ ?_ ?_
  · rintro k ν _ hk ⟨a1, a2, a3⟩
    simp only []
    have hr : irm (nI k) 2 = some (nI (k % 2)) := by
      unfold irm
      rw [if_neg (by decide)]
      congr 1
      exact pk_rem (a := k) (d := 2) (by omega) (by omega) (by omega)
    have hq : idv (nI k) 2 = some (nI (k / 2)) := by
      rw [x_d2, x_ndl (by omega) (by omega) (by omega)]
    have hz : (if nI (k % 2) = (1 : Int32) then (some (nI (k / 2))).bind fun x37 => some ((-x37) - 1) else (some (nI (k / 2))).bind fun x36 => some x36) = some (bvA k) := by
      unfold bvA
      by_cases h1 : k % 2 = 1
      · rw [if_pos (by rw [h1]; rfl), if_pos h1]; rfl
      · rw [if_neg (by rw [x_eql (by omega) (by omega)]; exact h1), if_neg h1]; rfl
    rw [if_neg (by rw [x_llt (by omega) (by omega)]; omega), hr, ob_s, hq, hz, ob_s, q_fill (n := 12) (by simp only [zA]) (by omega), ob_s]
    have b1 : ∀ q, q ≠ 89 → u1 ν 89 (fun j => if j < 12 then bvA k else ν 89 j) q = ν q := fun q hq => by rw [u1_w, if_neg hq]
    have b2 : ∀ c, c < 12 → u1 ν 89 (fun j => if j < 12 then bvA k else ν 89 j) 89 c = bvA k := fun c hc => by rw [u1_r, if_pos rfl, if_pos hc]
    generalize u1 ν 89 (fun j => if j < 12 then bvA k else ν 89 j) = ν1 at b1 b2 ⊢
    have w : ∀ q, q ≠ 87 → q ≠ 88 → q ≠ 89 → q < 26 ∨ 32 < q → ν1 q = μ q := fun q c1 c2 c3 c4 => by rw [b1 q c3, a3 q c1 c2 c3 c4]
    have t1 : ∀ j, j < 6 → ν1 1000 j = nI j := fun j hj => by rw [w 1000 (by omega) (by omega) (by omega) (by omega), h1000, t1000 j hj]
    have w110 : ν1 110 = μ 110 := w 110 (by omega) (by omega) (by omega) (by omega)
    have hgo := p_go (μ := ν1) (b := 26) (p := p) (k := 89) (o := 1000) (wo := -1) (nc := nc) (ns := ns) (na := na) (nb := nb) pn26 hp (by
      unfold PlIs
      rw [w p (by omega) (by omega) (by omega) (by omega), w (p + 1) (by omega) (by omega) (by omega) (by omega), w (p + 2) (by omega) (by omega) (by omega) (by omega), w (p + 3) (by omega) (by omega) (by omega) (by omega), w (p + 4) (by omega) (by omega) (by omega) (by omega), w (p + 5) (by omega) (by omega) (by omega) (by omega), w (p + 6) (by omega) (by omega) (by omega) (by omega), w110, w 111 (by omega) (by omega) (by omega) (by omega), w 112 (by omega) (by omega) (by omega) (by omega)]
      exact hpl) (by simp only [zA]) (by omega) (by simp only [zA]) (by omega) (fun j hj => ⟨j, hj, t1 j (by omega)⟩) (fun c hc => by rw [b2 c hc]; exact bv_bd (by omega))
    refine ok_b hgo ?_
    rintro ν2 ⟨k1, k2⟩
    refine ok_b (p_keep hnc k1) ?_
    rintro ν3 ⟨m1, m2, m3⟩
    simp only [ob_s, n1]
    refine ok_s (Or.inl ⟨_, rfl, ?_, fun c hc => ?_, fun q c1 c2 c3 c4 => ?_⟩)
    · rw [m1 87 (by omega), k2 87 (by omega), b1 87 (by omega)]; exact a1
    · rw [m2 c hc, k2 88 (by omega), b1 88 (by omega), a2 c hc, bfA]
      rw [fl_b (c := c) (k := k) (B := ν1 89) (O := ν1 1000) (wo := -1) hnc (by omega) hns hact (b2 c (by omega)) (fun j hj => t1 j (by omega)) (fun j hj => m1n (by omega)), w110]
      by_cases hz0 : (goA nc ns na (μ 110) (ν1 89) (ν1 1000) (-1)).1 (24 + c) = 0
      · simp [hz0]
      · simp [hz0]
    · rw [m1 q c2, k2 q (by omega), w q c1 c2 c3 c4]
  · rintro ν ⟨a1, a2, a3⟩
    simp only []
    rw [if_pos (by decide)]
    refine ok_s ⟨_, rfl, ?_⟩
    refine ok_for (fun i ω => (∀ k, k ≠ 88 → ω k = ν k) ∧ (∀ c, c < i → c < nc → ω 88 c = ahA nc ns na (μ 110) c) ∧ ∀ c, i ≤ c → c < nc → ω 88 c = bfA nc ns na (μ 110) c 81) 1 12 (by omega) (by omega) rfl ⟨fun _ _ => rfl, fun c hc hcn => by
      have : c = 0 := by omega
      subst this
      exact a2 0 hcn, fun c _ hcn => a2 c hcn⟩ ?_ ?_
    · rintro i ω h1i hi ⟨b1, b2, b3⟩
      simp only []
      rw [if_neg (by rw [x_lle (by omega) (by omega)]; omega), x_sl (by omega), al_88 (by omega), ob_s]
      have hah : ∀ hn : i < nc, ahA nc ns na (μ 110) i = if ahA nc ns na (μ 110) (i - 1) = -1000000 then -1000000 else bfA nc ns na (μ 110) i 81 := fun _ => by
        obtain ⟨j, rfl⟩ : ∃ j, i = j + 1 := ⟨i - 1, by omega⟩
        rw [ahA]; rfl
      by_cases h1 : ω 88 (i - 1) = -1000000
      · rw [if_pos h1, as_88 (by omega)]
        simp only [ob_s, n1]
        refine ok_s (Or.inl ⟨_, rfl, fun k hk => by rw [u2_w, if_neg hk]; exact b1 k hk, fun c hc hcn => ?_, fun c hc hcn => ?_⟩)
        · rw [u2_r]
          by_cases hci : c = i
          · rw [if_pos ⟨rfl, hci⟩, hci]
            have hin : i < nc := by omega
            rw [hah hin, ← b2 (i - 1) (by omega) (by omega), if_pos h1]
          · rw [if_neg (by omega)]
            exact b2 c (by omega) hcn
        · rw [u2_r, if_neg (by omega)]
          exact b3 c (by omega) hcn
      · rw [if_neg h1]
        simp only [ob_s, n1]
        refine ok_s (Or.inl ⟨_, rfl, b1, fun c hc hcn => ?_, fun c hc hcn => b3 c (by omega) hcn⟩)
        by_cases hci : c = i
        · have hin : i < nc := by omega
          rw [hci, hah hin, ← b2 (i - 1) (by omega) (by omega), if_neg h1]
          exact b3 i (Nat.le_refl _) hin
        · exact b2 c (by omega) hcn
    · rintro ω ⟨b1, b2, b3⟩
      simp only []
      rw [if_pos (by decide)]
      refine ok_s ⟨_, rfl, ok_s ⟨?_, fun c hc => b2 c (by omega) hc, fun k c1 c2 c3 c4 => ?_⟩⟩
      · rw [b1 87 (by omega)]; exact a1
      · rw [b1 k c2]; exact a3 k c1 c2 c3 c4
end
section
/-! ===== beforehand, kept ===== -/
theorem bv_m {v : Nat} (h : 1 ≤ v) : bvA (2 * v - 1) = -nI v := by
  obtain ⟨u, rfl⟩ : ∃ u, v = u + 1 := ⟨v - 1, by omega⟩
  unfold bvA
  rw [if_pos (by omega), show (2 * (u + 1) - 1) / 2 = u by omega, ← n1]
  grind
theorem bv_p (v : Nat) : bvA (2 * v) = nI v := by
  unfold bvA
  rw [if_neg (by omega), show 2 * v / 2 = v by omega]
theorem r_setBy {μ : MT} {nc ns na c : Nat} (e5 : μ 106 5 = nI nc) (e6 : μ 106 6 = nI ns) (e7 : μ 106 7 = nI na) (hnc : nc ≤ 12) (hns : ns ≤ 6) (hna : na ≤ 40) (hA : ∀ a, a < na → ActOK nc (μ 110) a) (hc : c < nc) (hB : ∀ q, q < 12 → -40 ≤ (μ 123 q).toInt ∧ (μ 123 q).toInt ≤ 40) (hO : ∀ k, k < 6 → μ 124 k = nI k) :
    Ok (m_X9_setBy Zc 106 (nI c) μ) (fun r => r.1 = bfA nc ns na (μ 110) c 81 ∧ FrX μ r.2 ∧ r.2 124 = μ 124 ∧ ∀ q, q < 12 → -40 ≤ (r.2 123 q).toInt ∧ (r.2 123 q).toInt ≤ 40) := by
  unfold m_X9_setBy
  simp only [zA]
  have htry : ∀ (ξ : MT) (k : Nat) (v : Int32), k ≤ 80 → v = bvA k → FrX μ ξ → ξ 124 = μ 124 → (∀ q, q < 12 → -40 ≤ (ξ 123 q).toInt ∧ (ξ 123 q).toInt ≤ 40) → ∀ {γ : Type} {F : Int32 → MT → Option γ} {R : γ → Prop}, (∀ ω x, (x = 0 ↔ flA nc ns na (μ 110) c k = true) → FrX μ ω → ω 124 = μ 124 → (∀ q, q < 12 → -40 ≤ (ω 123 q).toInt ∧ (ω 123 q).toInt ≤ 40) → Ok (F x ω) R) → Ok ((ast Zc ξ 123 (nI c) v).bind fun ν19 => (m_X9_go Zc 106 (-1000000) ν19).bind fun ν20 => (ald Zc ν20 119 (24 + nI c)).bind fun x22 => F x22 ν20) R := by
    rintro ξ k v hk rfl g1 g2 g3 γ F R hF
    rw [as_123 (by omega), ob_s]
    have w1 : FrX μ (u2 ξ 123 c (bvA k)) := g1.w (by omega)
    have w2 : u2 ξ 123 c (bvA k) 124 = μ 124 := by rw [u2_w, if_neg (by omega)]; exact g2
    have w3 : ∀ q, q < 12 → -40 ≤ (u2 ξ 123 c (bvA k) 123 q).toInt ∧ (u2 ξ 123 c (bvA k) 123 q).toInt ≤ 40 := fun q hq => by
      rw [u2_r]
      by_cases hqc : q = c
      · rw [if_pos ⟨rfl, hqc⟩]; exact bv_bd hk
      · rw [if_neg (by omega)]; exact g3 q hq
    have w4 : u2 ξ 123 c (bvA k) 123 c = bvA k := by rw [u2_r, if_pos ⟨rfl, rfl⟩]
    generalize u2 ξ 123 c (bvA k) = ξ1 at w1 w2 w3 w4 ⊢
    have x110 : ξ1 110 = μ 110 := w1.1 110 (by omega) (by omega)
    have hgo := r_go (μ := ξ1) (wo := -1000000) (nc := nc) (ns := ns) (na := na) (by rw [w1.2 5 (by omega) (by omega)]; exact e5) (by rw [w1.2 6 (by omega) (by omega)]; exact e6) (by rw [w1.2 7 (by omega) (by omega)]; exact e7) hnc hns hna (by rw [x110]; exact hA) w3
    refine ok_b hgo ?_
    rintro ω ⟨k1, k2⟩
    rw [x_la, al_119 (by omega), ob_s]
    refine hF ω _ ?_ (w1.trans (FrX.of k2)) (by rw [k2.1 124 (by omega) (by omega) (by omega) (by omega)]; exact w2) (by rw [k2.1 123 (by omega) (by omega) (by omega) (by omega)]; exact w3)
    rw [k1.1 _ (by omega), x110, fl_b (B := ξ1 123) (O := ξ1 124) (wo := -1000000) hnc (by omega) hns hA w4 (fun j hj => by rw [w2]; exact hO j (by omega)) (fun j hj => mNn (by omega))]
    simp
  refine ok_for (fun v ξ => FrX μ ξ ∧ ξ 124 = μ 124 ∧ (∀ q, q < 12 → -40 ≤ (ξ 123 q).toInt ∧ (ξ 123 q).toInt ≤ 40) ∧ ∀ k, k + 1 < 2 * v → flA nc ns na (μ 110) c k = false) 0 41 (by omega) (by omega) rfl ⟨FrX.refl μ, rfl, hB, fun k hk => by omega⟩ ?_ ?_
  · rintro v ξ _ hv ⟨g1, g2, g3, g4⟩
    simp only []
    rw [if_neg (by rw [x_lle (by omega) (by omega)]; omega)]
    refine ok_l (fun m s => FrX μ s.2 ∧ s.2 124 = μ 124 ∧ (∀ q, q < 12 → -40 ≤ (s.2 123 q).toInt ∧ (s.2 123 q).toInt ≤ 40) ∧ ((m = 2 ∧ s.1 = -1) ∨ (m = 1 ∧ s.1 = 1 ∧ ∀ k, k < 2 * v ∨ k = 0 → flA nc ns na (μ 110) c k = false) ∨ (m = 0 ∧ s.1 = 3 ∧ ∀ k, k < 2 * v + 1 → flA nc ns na (μ 110) c k = false))) 2 (by omega) ⟨g1, g2, g3, Or.inl ⟨rfl, rfl⟩⟩ ?_
    rintro m ⟨y, ω⟩ ⟨h1, h2, h3, h4⟩
    simp only at h1 h2 h3 h4 ⊢
    rcases h4 with ⟨rfl, rfl⟩ | ⟨rfl, rfl, h5⟩ | ⟨rfl, rfl, h5⟩
    · rw [if_neg (by decide)]
      refine htry ω (if v = 0 then 0 else 2 * v - 1) _ (by split <;> omega) ?_ h1 h2 h3 ?_
      · by_cases hv0 : v = 0
        · rw [if_pos hv0, hv0]; rfl
        · rw [if_neg hv0, bv_m (by omega)]
          rw [Int32.neg_mul, Int32.one_mul]
      · intro ω' x hx k1 k2 k3
        by_cases hx0 : x = 0
        · rw [if_pos hx0]
          refine ok_s (Or.inl ⟨_, rfl, ok_s (Or.inr ⟨_, rfl, ok_s ⟨?_, k1, k2, k3⟩⟩)⟩)
          have hfl := hx.mp hx0
          simp only []
          by_cases hv0 : v = 0
          · rw [if_pos hv0] at hfl
            have := bf_hit (K := 0) (by omega) (fun k hk => by omega) hfl 80
            rw [show 0 + 1 + 80 = 81 from rfl] at this
            rw [this, hv0]
            rfl
          · rw [if_neg hv0] at hfl
            have := bf_hit (K := 2 * v - 1) (by omega) (fun k hk => g4 k (by omega)) hfl (81 - 2 * v)
            rw [show 2 * v - 1 + 1 + (81 - 2 * v) = 81 by omega] at this
            rw [this, bv_m (by omega), Int32.neg_mul, Int32.one_mul]
        · rw [if_neg hx0]
          refine ok_s (Or.inr ⟨_, 1, rfl, by omega, k1, k2, k3, Or.inr (Or.inl ⟨rfl, rfl, fun k hk => ?_⟩)⟩)
          have hfl : flA nc ns na (μ 110) c (if v = 0 then 0 else 2 * v - 1) = false := by
            cases hq : flA nc ns na (μ 110) c (if v = 0 then 0 else 2 * v - 1)
            · rfl
            · exact absurd (hx.mpr hq) hx0
          by_cases hv0 : v = 0
          · rw [if_pos hv0] at hfl
            have : k = 0 := by omega
            rw [this]; exact hfl
          · rw [if_neg hv0] at hfl
            by_cases hk2 : k = 2 * v - 1
            · rw [hk2]; exact hfl
            · exact g4 k (by omega)
    · rw [if_neg (by decide)]
      refine htry ω (2 * v) _ (by omega) ?_ h1 h2 h3 ?_
      · rw [bv_p, Int32.one_mul]
      · intro ω' x hx k1 k2 k3
        by_cases hx0 : x = 0
        · rw [if_pos hx0]
          refine ok_s (Or.inl ⟨_, rfl, ok_s (Or.inr ⟨_, rfl, ok_s ⟨?_, k1, k2, k3⟩⟩)⟩)
          simp only []
          have := bf_hit (K := 2 * v) (by omega) (fun k hk => h5 k (by omega)) (hx.mp hx0) (80 - 2 * v)
          rw [show 2 * v + 1 + (80 - 2 * v) = 81 by omega] at this
          rw [this, bv_p, Int32.one_mul]
        · rw [if_neg hx0]
          refine ok_s (Or.inr ⟨_, 0, rfl, by omega, k1, k2, k3, Or.inr (Or.inr ⟨rfl, rfl, fun k hk => ?_⟩)⟩)
          by_cases hk2 : k = 2 * v
          · rw [hk2]
            cases hq : flA nc ns na (μ 110) c (2 * v)
            · rfl
            · exact absurd (hx.mpr hq) hx0
          · exact h5 k (by omega)
    · rw [if_pos (by decide)]
      refine ok_s (Or.inl ⟨_, rfl, ?_⟩)
      simp only [jn, ob_s, n1]
      exact ok_s (Or.inl ⟨_, rfl, h1, h2, h3, fun k hk => h5 k (by omega)⟩)
  · rintro ξ ⟨g1, g2, g3, g4⟩
    simp only []
    rw [if_pos (by decide)]
    refine ok_s ⟨_, rfl, ok_s ⟨?_, g1, g2, g3⟩⟩
    exact (bf_none 81 (fun k hk => g4 k (by omega))).symm
theorem op_beforehand {ν : MT} (h : Inv ν) (a0 : Int32) : OkI Inv (m_X8_beforehand Zc 127 0 a0 ν) (fun μ => m_X9_beforehand Zc 106 a0 μ) := by
  obtain ⟨p, d, nc, ns, na, nb, h⟩ := h
  obtain ⟨c1, c2, c3, ⟨hp, hd, hpd, e11, e12⟩, c5, c6, c7, c8, c9, c10, c11, c12, c13⟩ := id h
  obtain ⟨hnc, hns, hna, hnb⟩ := pl_bd c5
  have hpl2 := isPl_le hp
  have e0 := c5.1.1
  by_cases ha : 0 ≤ a0.toInt ∧ a0.toInt < nc
  case neg =>
    refine okI_of (a := -1000001) (P := fun μ => μ = ν) ?_ ?_
    · unfold m_X8_beforehand
      rw [e11, mrd_p hp, ob_s, q_hasCell e0 (by omega), ob_s, bI_f ha, if_pos rfl]
      exact ok_s ⟨rfl, rfl⟩
    · rintro μ rfl
      have m5 : u2 μ 106 0 0 106 5 = nI nc := c6.1
      unfold m_X9_beforehand
      rw [ob_s, q_isCell m5 (by omega), ob_s, bI_f ha, if_pos rfl]
      exact ok_s ⟨rfl, p, d, nc, ns, na, nb, c_x h (FrX.refl μ).w0⟩
  have hc4 : 4 ≤ nc := by have := c5.2.1; omega
  obtain ⟨c, hcc, rfl⟩ := nI_ex (n := nc) ha.1 ha.2
  refine okI_of (a := ahA nc ns na (ν 110) c) (P := fun μ => μ 87 2 = 1 ∧ (∀ c, c < nc → μ 88 c = ahA nc ns na (ν 110) c) ∧ ∀ k, k ≠ 87 → k ≠ 88 → k ≠ 89 → k < 26 ∨ 32 < k → μ k = ν k) ?_ ?_
  · unfold m_X8_beforehand
    rw [e11, mrd_p hp, ob_s, q_hasCell e0 (by omega), ob_s, bI_t ha, if_neg (by decide), ob_s]
    simp only [zA]
    refine ok_b (p_bfl hp hc4 c5 c13.1 c11) ?_
    rintro μ ⟨g1, g2, g3⟩
    rw [al_88 (by omega), ob_s]
    exact ok_s ⟨g2 c hcc, g1, g2, g3⟩
  · rintro μ ⟨f1, f2, f⟩
    have fk : ∀ k, k < 26 ∨ (32 < k ∧ k < 87) ∨ 89 < k → μ k = ν k := fun k hk => f k (by omega) (by omega) (by omega) (by omega)
    have hcore : Core μ p d nc ns na nb := by
      refine c_gen h ?_ ?_ ?_ ?_ (Or.inl ⟨?_, ?_⟩) (Or.inl ⟨?_, ?_, ?_, ?_, ?_⟩) (Or.inl ⟨?_, ?_⟩) (Or.inr (Or.inr ⟨f1, ?_⟩))
      · rw [fk 0 (by omega), fk 106 (by omega)]; exact c2.1
      · intro j _; rw [fk 0 (by omega)]
      · intro j _; rw [fk 106 (by omega)]
      · intro k hk; exact fk k (by omega)
      · exact fk 17 (by omega)
      · exact fk 118 (by omega)
      · rw [fk 0 (by omega)]
      · rw [fk 106 (by omega)]
      · rw [fk 106 (by omega)]
      · exact fk 122 (by omega)
      · intro k a b; exact fk k (by omega)
      · intro j _ _; rw [fk 33 (by omega)]
      · exact fk 36 (by omega)
      · rw [fk 110 (by omega)]; exact f2
    have m106 : μ 106 = ν 106 := fk 106 (by omega)
    have m5 : u2 μ 106 0 0 106 5 = nI nc := by rw [u2_r, if_neg (by omega), m106]; exact c6.1
    unfold m_X9_beforehand
    rw [ob_s, q_isCell m5 (by omega), ob_s, bI_t ha, if_neg (by decide), r_layN, ob_s, r_layO, ob_s]
    have fx0 : FrX μ (u1 (u2 μ 106 0 0) 124 (fun c => if c < 6 then nI c else u2 μ 106 0 0 124 c)) := (FrX.refl μ).w0.w1 (by omega)
    have o0 : ∀ k, k < 6 → u1 (u2 μ 106 0 0) 124 (fun c => if c < 6 then nI c else u2 μ 106 0 0 124 c) 124 k = nI k := fun k hk => by
      rw [u1_r, if_pos rfl, if_pos hk]
    generalize u1 (u2 μ 106 0 0) 124 (fun c => if c < 6 then nI c else u2 μ 106 0 0 124 c) = μ0 at fx0 o0 ⊢
    have fx : FrX μ (u1 μ0 123 (fun c => if c < 12 then μ0 117 c else μ0 123 c)) := fx0.w1 (by omega)
    have o1 : ∀ k, k < 6 → u1 μ0 123 (fun c => if c < 12 then μ0 117 c else μ0 123 c) 124 k = nI k := fun k hk => by
      rw [u1_w, if_neg (by omega)]; exact o0 k hk
    have o123 : ∀ c, c < 12 → -40 ≤ (u1 μ0 123 (fun c => if c < 12 then μ0 117 c else μ0 123 c) 123 c).toInt ∧ (u1 μ0 123 (fun c => if c < 12 then μ0 117 c else μ0 123 c) 123 c).toInt ≤ 40 := fun c hc => by
      rw [u1_r, if_pos rfl, if_pos hc, fx0.1 117 (by omega) (by omega), fk 117 (by omega)]
      exact (c7 c hc).2
    generalize u1 μ0 123 (fun c => if c < 12 then μ0 117 c else μ0 123 c) = μ1 at fx o1 o123 ⊢
    refine ok_l (fun m s => ∃ i, i + m = c + 1 ∧ s.2.1 = nI i ∧ FrX μ s.2.2 ∧ (∀ k, k < 6 → s.2.2 124 k = nI k) ∧ (∀ q, q < 12 → -40 ≤ (s.2.2 123 q).toInt ∧ (s.2.2 123 q).toInt ≤ 40) ∧ s.1 = if i = 0 then 0 else ahA nc ns na (ν 110) (i - 1)) (c + 1) (by omega) ⟨0, by omega, rfl, fx, o1, o123, rfl⟩ ?_
    rintro m ⟨y5, y6, ξ⟩ ⟨i, h1, h2, h3, h4, h5, h6⟩
    simp only at h2 h3 h4 h5 h6 ⊢
    subst h2
    have hinv : Inv ξ := ⟨p, d, nc, ns, na, nb, c_x hcore h3⟩
    by_cases hm : m = 0
    · rw [if_pos (by rw [x_lt (by omega) (by omega)]; omega)]
      refine ok_s (Or.inl ⟨_, rfl, ok_s ⟨?_, hinv⟩⟩)
      simp only []
      rw [h6, if_neg (by omega), show i - 1 = c by omega]
    · rw [if_neg (by rw [x_lt (by omega) (by omega)]; omega)]
      by_cases hN : y5 = -1000000
      · rw [if_pos hN]
        refine ok_s (Or.inl ⟨_, rfl, ok_s ⟨?_, hinv⟩⟩)
        simp only []
        by_cases hi0 : i = 0
        · rw [if_pos hi0] at h6
          rw [h6] at hN
          exact absurd hN (by decide)
        · rw [if_neg hi0] at h6
          rw [h6] at hN
          have := ah_none hN (c - (i - 1))
          rw [show i - 1 + (c - (i - 1)) = c by omega] at this
          rw [h6, hN, this]
      · rw [if_neg hN]
        have x110 : ξ 110 = ν 110 := by rw [h3.1 110 (by omega) (by omega), fk 110 (by omega)]
        have x6 : ∀ j, j ≠ 0 → j ≠ 35 → ξ 106 j = ν 106 j := fun j a b => by rw [h3.2 j a b, m106]
        refine ok_b (r_setBy (c := i) (nc := nc) (ns := ns) (na := na) (by rw [x6 5 (by omega) (by omega)]; exact c6.1) (by rw [x6 6 (by omega) (by omega)]; exact c6.2.1) (by rw [x6 7 (by omega) (by omega)]; exact c6.2.2.1) hnc hns hna (by rw [x110]; exact pl_act c5) (by omega) h5 h4) ?_
        rintro ⟨r, ω⟩ ⟨k1, k2, k3, k4⟩
        simp only at k1 k2 k3 k4 ⊢
        rw [ob_s, n1]
        refine ok_s (Or.inr ⟨_, m - 1, rfl, by omega, i + 1, by omega, rfl, h3.trans k2, fun k hk => ?_, k4, ?_⟩)
        · simp only []
          rw [k3]; exact h4 k hk
        · simp only []
          rw [k1, x110, if_neg (by omega), show i + 1 - 1 = i by omega]
          by_cases hi0 : i = 0
          · subst hi0; rfl
          · obtain ⟨j, rfl⟩ : ∃ j, i = j + 1 := ⟨i - 1, by omega⟩
            rw [if_neg hi0, show j + 1 - 1 = j by omega] at h6
            rw [ahA, if_neg (by rw [← h6]; exact hN)]
end
section
/-! ===== texts: tokens ===== -/
def sbA (v : Nat) : Int32 := (nI v).toInt8.toInt32
def spB (v : Nat) : Bool := decide (v = 32) || decide (v = 10)
/-- 1 a letter, 2 a figure, 3 the sign, 4 else -/
def srtA (v : Nat) : Nat := if 97 ≤ v ∧ v ≤ 122 then 1 else if 48 ≤ v ∧ v ≤ 57 then 2 else if v = 59 then 3 else 4
def skA (T : Nat → Nat) (N : Nat) : Nat → Nat → Nat
  | 0, e => e
  | n + 1, e => if e < N ∧ spB (T e) = true then skA T N n (e + 1) else e
def ruA (T : Nat → Nat) (N s : Nat) : Nat → Nat → Nat
  | 0, e => e
  | n + 1, e => if e < N ∧ srtA (T e) = s then ruA T N s n (e + 1) else e
/-- a token: from, till, sort (0 the end, 1 a name, 2 a number, 3 the sign, 4 none) -/
abbrev PT : Type := Nat × Nat × Nat
def tkB (T : Nat → Nat) (N f : Nat) : PT :=
  if N ≤ f then (f, f, 0)
  else if srtA (T f) = 1 then (f, ruA T N 1 (N - (f + 1)) (f + 1), 1)
  else if srtA (T f) = 2 then (f, ruA T N 2 (N - (f + 1)) (f + 1), if ruA T N 2 (N - (f + 1)) (f + 1) - f ≤ 2 then 2 else 4)
  else (f, f + 1, srtA (T f))
def tkA (T : Nat → Nat) (N e : Nat) : PT := tkB T N (skA T N (N - e) e)
theorem sk_le {T : Nat → Nat} {N : Nat} : ∀ n e, e + n = N → e ≤ skA T N n e ∧ skA T N n e ≤ N
  | 0, e, h => by rw [skA]; omega
  | n + 1, e, h => by
    rw [skA]
    by_cases hc : e < N ∧ spB (T e) = true
    · rw [if_pos hc]
      have := sk_le (T := T) (N := N) n (e + 1) (by omega)
      omega
    · rw [if_neg hc]; omega
theorem ru_le {T : Nat → Nat} {N s : Nat} : ∀ n e, e + n = N → e ≤ ruA T N s n e ∧ ruA T N s n e ≤ N ∧ ∀ j, e ≤ j → j < ruA T N s n e → srtA (T j) = s
  | 0, e, h => by
    rw [ruA]
    exact ⟨Nat.le_refl _, by omega, fun j h1 h2 => by omega⟩
  | n + 1, e, h => by
    rw [ruA]
    by_cases hc : e < N ∧ srtA (T e) = s
    · rw [if_pos hc]
      obtain ⟨h1, h2, h3⟩ := ru_le (T := T) (N := N) (s := s) n (e + 1) (by omega)
      refine ⟨by omega, h2, fun j h4 h5 => ?_⟩
      by_cases hj : j = e
      · rw [hj]; exact hc.2
      · exact h3 j (by omega) h5
    · rw [if_neg hc]
      exact ⟨Nat.le_refl _, by omega, fun j h1 h2 => by omega⟩
theorem srt_1 {v : Nat} (h : srtA v = 1) : 97 ≤ v ∧ v ≤ 122 := by
  unfold srtA at h
  repeat' split at h
  all_goals first | assumption | omega
theorem srt_2 {v : Nat} (h : srtA v = 2) : 48 ≤ v ∧ v ≤ 57 := by
  unfold srtA at h
  repeat' split at h
  all_goals first | assumption | omega
theorem srt_le (v : Nat) : 1 ≤ srtA v ∧ srtA v ≤ 4 := by
  unfold srtA
  repeat' split
  all_goals omega
def TkOK (T : Nat → Nat) (N : Nat) (k : PT) : Prop := k.1 ≤ k.2.1 ∧ k.2.1 ≤ N ∧ k.2.2 ≤ 4 ∧ (k.2.2 ≠ 0 → k.1 < k.2.1) ∧ (k.2.2 = 1 → ∀ j, k.1 ≤ j → j < k.2.1 → 97 ≤ T j ∧ T j ≤ 122) ∧ (k.2.2 = 2 → k.2.1 ≤ k.1 + 2 ∧ ∀ j, k.1 ≤ j → j < k.2.1 → 48 ≤ T j ∧ T j ≤ 57)
theorem tkB_ok {T : Nat → Nat} {N f : Nat} (h : f ≤ N) : TkOK T N (tkB T N f) ∧ (tkB T N f).1 = f := by
  unfold tkB
  by_cases h0 : N ≤ f
  · rw [if_pos h0]
    exact ⟨⟨Nat.le_refl _, h, by simp, by simp, by simp, by simp⟩, rfl⟩
  · rw [if_neg h0]
    by_cases h1 : srtA (T f) = 1
    · rw [if_pos h1]
      obtain ⟨a1, a2, a3⟩ := ru_le (T := T) (N := N) (s := 1) (N - (f + 1)) (f + 1) (by omega)
      refine ⟨⟨by simp only []; omega, a2, by simp, fun _ => by simp only []; omega, fun _ j h2 h3 => ?_, by simp⟩, rfl⟩
      by_cases hj : j = f
      · rw [hj]; exact srt_1 h1
      · simp only [] at h2 h3
        exact srt_1 (a3 j (by omega) h3)
    · rw [if_neg h1]
      by_cases h2 : srtA (T f) = 2
      · rw [if_pos h2]
        obtain ⟨a1, a2, a3⟩ := ru_le (T := T) (N := N) (s := 2) (N - (f + 1)) (f + 1) (by omega)
        refine ⟨⟨by simp only []; omega, a2, ?_, fun _ => by simp only []; omega, fun h => ?_, fun h => ⟨?_, fun j h3 h4 => ?_⟩⟩, rfl⟩
        · simp only []
          split <;> omega
        · simp only [] at h
          split at h <;> omega
        · simp only [] at h ⊢
          split at h <;> omega
        · simp only [] at h3 h4
          by_cases hj : j = f
          · rw [hj]; exact srt_2 h2
          · exact srt_2 (a3 j (by omega) h4)
      · rw [if_neg h2]
        have := srt_le (T f)
        exact ⟨⟨by simp only []; omega, by simp only []; omega, by simp only []; omega, fun _ => by simp only []; omega, fun h => absurd h h1, fun h => absurd h h2⟩, rfl⟩
theorem tk_ok {T : Nat → Nat} {N e : Nat} (h : e ≤ N) : TkOK T N (tkA T N e) := (tkB_ok (sk_le (T := T) (N := N) (N - e) e (by omega)).2).1
/-! words and numbers -/
def wdL : List (List Nat) := [[116, 97, 99, 107], [111, 110], [98, 97, 99, 107], [115, 107, 105, 112], [115, 101, 99, 111, 110, 100], [116, 117, 114, 110, 101, 100], [102, 108, 97, 109, 101], [119, 97, 105, 116], [99, 108, 97, 109, 112], [102, 114, 101, 101], [112, 97, 110, 101, 108], [115, 101, 97, 109], [98, 101, 102, 111, 114, 101]]
def wdW (i : Nat) : List Nat := wdL.getD i []
def wmB (T : Nat → Nat) (f t : Nat) (w : List Nat) : Bool := decide (t - f = w.length) && alB (fun k => decide (T (f + k) = w.getD k 0)) w.length
def wsB (T : Nat → Nat) (k : PT) (i : Nat) : Bool := decide (k.2.2 = 1) && wmB T k.1 k.2.1 (wdW i)
def akG (T : Nat → Nat) (k : PT) : Nat → Nat → Option Nat
  | _, 0 => none
  | i, n + 1 => if wsB T k i = true then some i else akG T k (i + 1) n
def akA (T : Nat → Nat) (k : PT) : Option Nat := akG T k 0 10
theorem ak_lt {T : Nat → Nat} {k : PT} {q : Nat} : ∀ n i, akG T k i n = some q → q < i + n
  | 0, i, h => by simp [akG] at h
  | n + 1, i, h => by
    rw [akG] at h
    by_cases hc : wsB T k i = true
    · rw [if_pos hc] at h
      have := Option.some.inj h
      omega
    · rw [if_neg hc] at h
      have := ak_lt n (i + 1) h
      omega
def nvF (T : Nat → Nat) (f : Nat) : Nat → Nat
  | 0 => 0
  | n + 1 => nvF T f n * 10 + (T (f + n) - 48)
def nvA (T : Nat → Nat) (k : PT) : Nat := nvF T k.1 (k.2.1 - k.1)
theorem nv_le {T : Nat → Nat} {N : Nat} {k : PT} (h : TkOK T N k) (hs : k.2.2 = 2) : nvA T k ≤ 99 := by
  obtain ⟨h1, h2, h3, h4, h5, h6⟩ := h
  obtain ⟨h7, h8⟩ := h6 hs
  have h9 := h4 (by omega)
  unfold nvA
  rcases (by omega : k.2.1 - k.1 = 1 ∨ k.2.1 - k.1 = 2) with e | e
  · rw [e, nvF, nvF]
    have := h8 (k.1 + 0) (by omega) (by omega)
    omega
  · rw [e, nvF, nvF, nvF]
    have a1 := h8 (k.1 + 0) (by omega) (by omega)
    have a2 := h8 (k.1 + 1) (by omega) (by omega)
    omega
/-! bytes: signed and unsigned -/
theorem sb_i : ∀ v, v < 256 → (sbA v).toInt = if v < 128 then (v : Int) else (v : Int) - 256 := by decide +kernel
theorem sb_lo {v : Nat} (h : v < 128) : sbA v = nI v := by
  rw [fa_eq, sb_i v (by omega), if_pos h, ti_n (by omega)]
theorem sb_eq {v w : Nat} (hv : v < 256) (hw : w < 128) : (nI w = sbA v ↔ v = w) := by
  rw [fa_eq, sb_i v hv, ti_n (by omega)]
  by_cases h : v < 128
  · rw [if_pos h]; omega
  · rw [if_neg h]; omega
def soF (a0 : Int32) : Option Int32 :=
  (((if a0 < 97 then some (Sum.inr ()) else (if 122 < a0 then some (Sum.inr ()) else some (Sum.inl 1))) : Option ((Int32) ⊕ (Unit)))).bind (jn (fun (_ : Unit) => (((if a0 < 48 then some (Sum.inr ()) else (if 57 < a0 then some (Sum.inr ()) else some (Sum.inl 2))) : Option ((Int32) ⊕ (Unit)))).bind (jn (fun (_ : Unit) => (if a0 = 59 then some 3 else some 4)))))
theorem so_eq (a : Int32) (μ : MT) : m_X7_sortOf Zc a μ = soF a := rfl
theorem so_n : ∀ v, v < 256 → soF (sbA v) = some (nI (srtA v)) := by decide +kernel
theorem sp_n : ∀ v, v < 256 → (sbA v = 32 ↔ v = 32) ∧ (sbA v = 10 ↔ v = 10) := by decide +kernel
theorem let_n : ∀ v, v < 256 → ((nI v < 97 ∨ 122 < nI v) ↔ srtA v ≠ 1) ∧ ((nI v < 48 ∨ 57 < nI v) ↔ srtA v ≠ 2) := by decide +kernel
end
section
/-! ===== the program's tokens ===== -/
def TxI (μ : MT) (T : Nat → Nat) (N : Nat) : Prop := N ≤ 500 ∧ μ 13 1 = nI N ∧ ∀ j, j < N → T j < 256 ∧ μ 14 j = sbA (T j)
def CtI (μ : MT) (k : PT) : Prop := μ 13 2 = nI k.1 ∧ μ 13 3 = nI k.2.1 ∧ μ 13 4 = nI k.2.2
def Fr13 (μ ν : MT) : Prop := (∀ q, q ≠ 13 → ν q = μ q) ∧ ν 13 1 = μ 13 1
theorem Fr13.refl (μ : MT) : Fr13 μ μ := ⟨fun _ _ => rfl, rfl⟩
theorem Fr13.trans {μ ν ω : MT} (h : Fr13 μ ν) (h2 : Fr13 ν ω) : Fr13 μ ω := ⟨fun q a => (h2.1 q a).trans (h.1 q a), h2.2.trans h.2⟩
theorem Fr13.tx {μ ν : MT} {T : Nat → Nat} {N : Nat} (h : Fr13 μ ν) (g : TxI μ T N) : TxI ν T N := ⟨g.1, by rw [h.2]; exact g.2.1, fun j hj => by rw [h.1 14 (by omega)]; exact g.2.2 j hj⟩
theorem p_skip {μ : MT} {T : Nat → Nat} {N e : Nat} (h : TxI μ T N) (he : e ≤ N) {γ : Type} {G : MT → Option γ} {R : γ → Prop} (hG : Ok (G (u2 μ 13 2 (nI (skA T N (N - e) e)))) R) :
    Ok ((loop (σ := MT) (τ := MT) (fun ν2 => ((if (ν2 13 1) ≤ (ν2 13 2) then some (Sum.inr ν2) else (ald Zc ν2 14 (ν2 13 2)).bind fun x34 => (((if x34 = 32 then some (Sum.inr ()) else (ald Zc ν2 14 (ν2 13 2)).bind fun x40 => (if x40 = 10 then some (Sum.inr ()) else some (Sum.inl (Sum.inr ν2)))) : Option (((MT) ⊕ (MT)) ⊕ (Unit)))).bind (jn (fun (_ : Unit) => (some (u2 ν2 13 2 ((ν2 13 2) + 1))).bind fun ν38 => some (Sum.inl ν38)))) : Option ((MT) ⊕ (MT)))) LN (u2 μ 13 2 (nI e))).bind G) R := by
  obtain ⟨hN, h1, h2⟩ := h
  refine ok_l (fun m ν => ∃ i, i + m = N ∧ ν = u2 μ 13 2 (nI i) ∧ skA T N m i = skA T N (N - e) e) (N - e) (by omega) ⟨e, by omega, rfl, rfl⟩ ?_
  rintro m ν ⟨i, hi, rfl, hs⟩
  have a1 : u2 μ 13 2 (nI i) 13 1 = nI N := by rw [u2_r, if_neg (by omega)]; exact h1
  have a2 : u2 μ 13 2 (nI i) 13 2 = nI i := by rw [u2_r, if_pos ⟨rfl, rfl⟩]
  have a3 : u2 μ 13 2 (nI i) 14 = μ 14 := by rw [u2_w, if_neg (by omega)]
  simp only [a1, a2]
  cases m with
  | zero =>
    rw [if_pos (by rw [x_le (by omega) (by omega)]; omega)]
    rw [skA] at hs
    rw [← hs] at hG
    exact ok_s (Or.inl ⟨_, rfl, hG⟩)
  | succ n =>
    obtain ⟨b1, b2⟩ := h2 i (by omega)
    obtain ⟨s1, s2⟩ := sp_n (T i) b1
    rw [if_neg (by rw [x_le (by omega) (by omega)]; omega), al_14 (by omega), ob_s, a3, b2]
    rw [skA] at hs
    by_cases hsp : spB (T i) = true
    · rw [if_pos ⟨by omega, hsp⟩] at hs
      have hgo : ∀ (q : Option (((MT) ⊕ (MT)) ⊕ (Unit))), q = some (Sum.inr ()) → Ok (q.bind (jn (fun (_ : Unit) => (some (u2 (u2 μ 13 2 (nI i)) 13 2 (nI i + 1))).bind fun ν38 => some (Sum.inl ν38)))) (fun q => (∃ t, q = Sum.inr t ∧ Ok (G t) R) ∨ (∃ s' j, q = Sum.inl s' ∧ j < n + 1 ∧ ∃ i, i + j = N ∧ s' = u2 μ 13 2 (nI i) ∧ skA T N j i = skA T N (N - e) e)) := fun q hq => by
        subst hq
        simp only [ob_s, jn, n1, u2_2]
        exact ok_s (Or.inr ⟨_, n, rfl, by omega, i + 1, by omega, rfl, hs⟩)
      refine hgo _ ?_
      unfold spB at hsp
      by_cases h32 : T i = 32
      · rw [if_pos (s1.mpr h32)]
      · have h10 : T i = 10 := by simpa [h32] using hsp
        rw [if_neg (fun hq => h32 (s1.mp hq)), ob_s, if_pos (s2.mpr h10)]
    · rw [if_neg (fun hq => hsp hq.2)] at hs
      have h32 : ¬ T i = 32 := fun hq => hsp (by simp [spB, hq])
      have h10 : ¬ T i = 10 := fun hq => hsp (by simp [spB, hq])
      rw [if_neg (fun hq => h32 (s1.mp hq)), ob_s, if_neg (fun hq => h10 (s2.mp hq)), ob_s]
      rw [← hs] at hG
      exact ok_s (Or.inl ⟨_, rfl, hG⟩)
theorem p_run {ω : MT} {T : Nat → Nat} {N s e : Nat} (h : TxI ω T N) (he : e ≤ N) (h4 : ω 13 4 = nI s) (hs4 : s ≤ 4) {γ : Type} {G : MT → Option γ} {R : γ → Prop} (hG : Ok (G (u2 ω 13 3 (nI (if s = 1 ∨ s = 2 then ruA T N s (N - e) e else e)))) R) :
    Ok ((loop (σ := MT) (τ := MT) (fun ν16 => ((if (ν16 13 1) ≤ (ν16 13 3) then some (Sum.inr ν16) else (((if (ν16 13 4) = 1 then some (Sum.inr ()) else (if (ν16 13 4) = 2 then some (Sum.inr ()) else some (Sum.inl (Sum.inr ν16)))) : Option (((MT) ⊕ (MT)) ⊕ (Unit)))).bind (jn (fun (_ : Unit) => (ald Zc ν16 14 (ν16 13 3)).bind fun x27 => (m_X7_sortOf Zc x27 ν16).bind fun r28 => (if r28 = (ν16 13 4) then (some (u2 ν16 13 3 ((ν16 13 3) + 1))).bind fun ν29 => some (Sum.inl ν29) else some (Sum.inr ν16))))) : Option ((MT) ⊕ (MT)))) LN (u2 ω 13 3 (nI e))).bind G) R := by
  obtain ⟨hN, h1, h2⟩ := h
  have a1 : ∀ i, u2 ω 13 3 (nI i) 13 1 = nI N := fun i => by rw [u2_r, if_neg (by omega)]; exact h1
  have a2 : ∀ i, u2 ω 13 3 (nI i) 13 3 = nI i := fun i => by rw [u2_r, if_pos ⟨rfl, rfl⟩]
  have a3 : ∀ i, u2 ω 13 3 (nI i) 14 = ω 14 := fun i => by rw [u2_w, if_neg (by omega)]
  have a4 : ∀ i, u2 ω 13 3 (nI i) 13 4 = nI s := fun i => by rw [u2_r, if_neg (by omega)]; exact h4
  by_cases hs : s = 1 ∨ s = 2
  · rw [if_pos hs] at hG
    refine ok_l (fun m ν => ∃ i, i + m = N ∧ ν = u2 ω 13 3 (nI i) ∧ ruA T N s m i = ruA T N s (N - e) e) (N - e) (by omega) ⟨e, by omega, rfl, rfl⟩ ?_
    rintro m ν ⟨i, hi, rfl, hr⟩
    simp only [a1, a2, a4, so_eq]
    cases m with
    | zero =>
      rw [if_pos (by rw [x_le (by omega) (by omega)]; omega)]
      rw [ruA] at hr
      rw [← hr] at hG
      exact ok_s (Or.inl ⟨_, rfl, hG⟩)
    | succ n =>
      obtain ⟨b1, b2⟩ := h2 i (by omega)
      rw [if_neg (by rw [x_le (by omega) (by omega)]; omega)]
      have hif : (if nI s = (1 : Int32) then some (Sum.inr ()) else (if nI s = (2 : Int32) then some (Sum.inr ()) else some (Sum.inl (Sum.inr (u2 ω 13 3 (nI i))))) : Option (((MT) ⊕ (MT)) ⊕ (Unit))) = some (Sum.inr ()) := by
        rcases hs with rfl | rfl
        · exact if_pos rfl
        · rw [if_neg (by decide)]; exact if_pos rfl
      rw [hif, ob_s]
      simp only [jn]
      rw [al_14 (by omega), ob_s, a3, b2, so_n _ b1, ob_s]
      rw [ruA] at hr
      have := srt_le (T i)
      by_cases hq : srtA (T i) = s
      · rw [if_pos (by rw [hq]), ob_s, n1, u2_2]
        rw [if_pos ⟨by omega, hq⟩] at hr
        exact ok_s (Or.inr ⟨_, n, rfl, by omega, i + 1, by omega, rfl, hr⟩)
      · rw [if_neg (by rw [x_eq (by omega) (by omega)]; exact hq)]
        rw [if_neg (fun hh => hq hh.2)] at hr
        rw [← hr] at hG
        exact ok_s (Or.inl ⟨_, rfl, hG⟩)
  · rw [if_neg hs] at hG
    refine ok_l (fun m ν => ν = u2 ω 13 3 (nI e)) 0 (by omega) rfl ?_
    rintro m ν rfl
    simp only [a1, a2, a4]
    by_cases hc : N ≤ e
    · rw [if_pos (by rw [x_le (by omega) (by omega)]; exact hc)]
      exact ok_s (Or.inl ⟨_, rfl, hG⟩)
    · rw [if_neg (by rw [x_le (by omega) (by omega)]; exact hc), if_neg (by rw [x_eql (by omega) (by omega)]; omega), if_neg (by rw [x_eql (by omega) (by omega)]; omega), ob_s]
      exact ok_s (Or.inl ⟨_, rfl, hG⟩)
theorem p_toNext {μ : MT} {T : Nat → Nat} {N e : Nat} (h : TxI μ T N) (he : e ≤ N) (h3 : μ 13 3 = nI e) : Ok (m_X7_toNext Zc 13 μ) (fun ν => CtI ν (tkA T N e) ∧ Fr13 μ ν) := by
  have hsk := sk_le (T := T) (N := N) (N - e) e (by omega)
  unfold m_X7_toNext
  simp only [zA]
  rw [ob_s, h3]
  refine p_skip h he ?_
  unfold tkA
  generalize skA T N (N - e) e = f at hsk ⊢
  obtain ⟨hN, h1, h2⟩ := id h
  have a1 : u2 μ 13 2 (nI f) 13 1 = nI N := by rw [u2_r, if_neg (by omega)]; exact h1
  have a2 : u2 μ 13 2 (nI f) 13 2 = nI f := by rw [u2_r, if_pos ⟨rfl, rfl⟩]
  have a3 : u2 μ 13 2 (nI f) 14 = μ 14 := by rw [u2_w, if_neg (by omega)]
  have hfr : Fr13 μ (u2 μ 13 2 (nI f)) := ⟨fun q a => by rw [u2_w, if_neg a], by rw [u2_r, if_neg (by omega)]⟩
  generalize u2 μ 13 2 (nI f) = ν3 at a1 a2 a3 hfr ⊢
  simp only [a1, a2, so_eq]
  have hz : (if nI N ≤ nI f then some 0 else (ald Zc ν3 14 (nI f)).bind fun x31 => (soF x31).bind fun r32 => some r32) = some (nI (if N ≤ f then 0 else srtA (T f))) := by
    by_cases hc : N ≤ f
    · rw [if_pos (by rw [x_le (by omega) (by omega)]; exact hc), if_pos hc]; rfl
    · obtain ⟨b1, b2⟩ := h2 f (by omega)
      rw [if_neg (by rw [x_le (by omega) (by omega)]; exact hc), if_neg hc, al_14 (by omega), ob_s, a3, b2, so_n _ b1, ob_s]
  rw [hz, ob_s, ob_s]
  have hsl := srt_le (T f)
  have hs4 : (if N ≤ f then 0 else srtA (T f)) ≤ 4 := by split <;> omega
  generalize hs : (if N ≤ f then 0 else srtA (T f)) = s at hs4 ⊢
  have b1 : u2 ν3 13 4 (nI s) 13 1 = nI N := by rw [u2_r, if_neg (by omega)]; exact a1
  have b2 : u2 ν3 13 4 (nI s) 13 2 = nI f := by rw [u2_r, if_neg (by omega)]; exact a2
  have b4 : u2 ν3 13 4 (nI s) 13 4 = nI s := by rw [u2_r, if_pos ⟨rfl, rfl⟩]
  have hfr2 : Fr13 μ (u2 ν3 13 4 (nI s)) := hfr.trans ⟨fun q a => by rw [u2_w, if_neg a], by rw [u2_r, if_neg (by omega)]⟩
  generalize u2 ν3 13 4 (nI s) = ν11 at b1 b2 b4 hfr2 ⊢
  simp only [b1, b2]
  have hz2 : (if nI N ≤ nI f then some (nI f) else some (nI f + 1)) = some (nI (if N ≤ f then f else f + 1)) := by
    by_cases hc : N ≤ f
    · rw [if_pos (by rw [x_le (by omega) (by omega)]; exact hc), if_pos hc]
    · rw [if_neg (by rw [x_le (by omega) (by omega)]; exact hc), if_neg hc, n1]
  rw [hz2, ob_s, ob_s]
  refine p_run (hfr2.tx h) (by split <;> omega) b4 hs4 ?_
  generalize ht : (if s = 1 ∨ s = 2 then ruA T N s (N - (if N ≤ f then f else f + 1)) (if N ≤ f then f else f + 1) else (if N ≤ f then f else f + 1)) = t
  have d2 : u2 ν11 13 3 (nI t) 13 2 = nI f := by rw [u2_r, if_neg (by omega)]; exact b2
  have d3 : u2 ν11 13 3 (nI t) 13 3 = nI t := by rw [u2_r, if_pos ⟨rfl, rfl⟩]
  have d4 : u2 ν11 13 3 (nI t) 13 4 = nI s := by rw [u2_r, if_neg (by omega)]; exact b4
  have hfr3 : Fr13 μ (u2 ν11 13 3 (nI t)) := hfr2.trans ⟨fun q a => by rw [u2_w, if_neg a], by rw [u2_r, if_neg (by omega)]⟩
  generalize u2 ν11 13 3 (nI t) = ν17 at d2 d3 d4 hfr3 ⊢
  simp only [d2, d3, d4]
  have hft : f ≤ t ∧ t ≤ N := by
    subst ht
    by_cases hc : N ≤ f
    · rw [if_pos hc] at hs
      rw [if_pos hc, if_neg (by omega)]; omega
    · rw [if_neg hc]
      by_cases hs2 : s = 1 ∨ s = 2
      · rw [if_pos hs2]
        have := ru_le (T := T) (N := N) (s := s) (N - (f + 1)) (f + 1) (by omega)
        omega
      · rw [if_neg hs2]; omega
  have hend : tkB T N f = (f, t, if s = 2 ∧ ¬ t - f ≤ 2 then 4 else s) := by
    unfold tkB
    subst ht
    by_cases hc : N ≤ f
    · rw [if_pos hc] at hs
      subst hs
      rw [if_pos hc]
      simp [hc]
    · rw [if_neg hc] at hs
      rw [if_neg hc, hs]
      by_cases h1 : s = 1
      · subst h1
        rw [if_pos rfl]
        simp [hc]
      · rw [if_neg h1]
        by_cases h2 : s = 2
        · subst h2
          rw [if_pos rfl]
          simp only [hc, if_false, or_true, if_true]
          by_cases h3 : ruA T N 2 (N - (f + 1)) (f + 1) - f ≤ 2
          · simp [h3]
          · simp [h3]
        · rw [if_neg h2]
          simp [hc, h1, h2]
  rw [hend]
  by_cases h2 : s = 2
  · subst h2
    rw [if_pos (show nI 2 = 2 from rfl), x_s hft.1]
    by_cases h3 : t - f ≤ 2
    · rw [if_pos (by rw [x_lel (by omega) (by omega)]; exact h3)]
      refine ok_s ⟨⟨d2, d3, ?_⟩, hfr3⟩
      simp only [h3, not_true_eq_false, and_false, if_false]
      exact d4
    · rw [if_neg (by rw [x_lel (by omega) (by omega)]; exact h3), ob_s]
      refine ok_s ⟨⟨?_, ?_, ?_⟩, hfr3.trans ⟨fun q a => by rw [u2_w, if_neg a], by rw [u2_r, if_neg (by omega)]⟩⟩
      · rw [u2_r, if_neg (by omega)]; exact d2
      · rw [u2_r, if_neg (by omega)]; exact d3
      · rw [u2_r, if_pos ⟨rfl, rfl⟩]
        simp only [h3, not_false_eq_true, and_true, if_true]
        rfl
  · rw [if_neg (by rw [x_eql (by omega) (by omega)]; exact h2)]
    refine ok_s ⟨⟨d2, d3, ?_⟩, hfr3⟩
    simp only [h2, false_and, if_false]
    exact d4
/-! words -/
def Zq : ZT := (fun _ => 0, fun _ => 0, fun _ _ => 0)
def μq : MT := fun _ _ => 0
theorem len_n : ∀ i, i < 13 → m_J0_length_8abf5 Zq (2000 + i) μq = some (nI (wdW i).length) := by decide +kernel
theorem cha_n : ∀ i, i < 13 → ∀ k, k < (wdW i).length → m_J0_charAt_5068e Zq (2000 + i) (nI k) μq = some (nI ((wdW i).getD k 0)) := by decide +kernel
theorem wd_lo : ∀ i, i < 13 → (wdW i).length ≤ 6 ∧ 1 ≤ (wdW i).length ∧ ∀ k, k < (wdW i).length → 97 ≤ (wdW i).getD k 0 ∧ (wdW i).getD k 0 ≤ 122 := by decide +kernel
theorem spl_n : ∀ i, i < 13 → m_X7_spelling Zq (nI i) μq = some (2000 + i) := by decide +kernel
theorem p_spells {μ : MT} {T : Nat → Nat} {N i : Nat} {k : PT} (h : TxI μ T N) (hk : CtI μ k) (hok : TkOK T N k) (hi : i < 13) : m_X7_spells Zc 13 (2000 + i) μ = some (bI (wmB T k.1 k.2.1 (wdW i) = true)) := by
  obtain ⟨hN, h1, h2⟩ := h
  obtain ⟨k1, k2, k3⟩ := hk
  obtain ⟨o1, o2, o3, o4, o5, o6⟩ := hok
  obtain ⟨w1, w2, w3⟩ := wd_lo i hi
  have hlen : m_J0_length_8abf5 Zc (2000 + i) μ = some (nI (wdW i).length) := len_n i hi
  have hch : ∀ q, q < (wdW i).length → m_J0_charAt_5068e Zc (2000 + i) (nI q) μ = some (nI ((wdW i).getD q 0)) := cha_n i hi
  unfold m_X7_spells
  simp only [zA, hlen, ob_s, k1, k2]
  rw [x_s o1]
  unfold wmB
  by_cases hl : k.2.1 - k.1 = (wdW i).length
  · rw [if_pos (by rw [hl])]
    apply ok_eq
    refine ok_c (fun q => alB (fun q => decide (T (k.1 + q) = (wdW i).getD q 0)) q = true) 0 (wdW i).length (by omega) (by omega) rfl rfl ?_ ?_
    · intro q _ hq hJ
      rw [if_neg (by rw [x_le (by omega) (by omega)]; omega), hch q hq, ob_s, x_a, al_14 (by omega), ob_s]
      obtain ⟨b1, b2⟩ := h2 (k.1 + q) (by omega)
      have hw := w3 q hq
      rw [b2]
      have hse := sb_eq (v := T (k.1 + q)) (w := (wdW i).getD q 0) b1 (by omega)
      by_cases hc : T (k.1 + q) = (wdW i).getD q 0
      · rw [if_pos (hse.mpr hc), n1]
        exact ok_s (Or.inl ⟨rfl, by rw [alB_s, hJ, decide_eq_true hc]; rfl⟩)
      · rw [if_neg (fun hh => hc (hse.mp hh))]
        refine ok_s (Or.inr ⟨_, rfl, ok_s ?_⟩)
        have g1 : alB (fun q => decide (T (k.1 + q) = (wdW i).getD q 0)) (q + 1) = false := by rw [alB_s, decide_eq_false hc, Bool.and_false]
        have g2 := alB_f ((wdW i).length - (q + 1)) g1
        rw [show q + 1 + ((wdW i).length - (q + 1)) = (wdW i).length by omega] at g2
        rw [bI_f (by rw [g2]; simp)]
    · intro hJ
      rw [if_pos (by rw [x_le (by omega) (by omega)]; omega)]
      refine ok_s ⟨_, rfl, ok_s ?_⟩
      rw [bI_t (by rw [hJ]; simp [hl])]
  · rw [if_neg (by rw [x_eq (by omega) (by omega)]; omega), bI_f (by simp [hl])]
theorem p_atWord {μ : MT} {T : Nat → Nat} {N i : Nat} {k : PT} (h : TxI μ T N) (hk : CtI μ k) (hok : TkOK T N k) (hi : i < 13) : m_X7_atWord Zc 13 (nI i) μ = some (bI (wsB T k i = true)) := by
  have h3 := hok.2.2.1
  unfold m_X7_atWord wsB
  rw [hk.2.2]
  by_cases hs : k.2.2 = 1
  · have hspl : m_X7_spelling Zc (nI i) μ = some (2000 + i) := spl_n i hi
    rw [if_pos (by rw [hs]; rfl), hspl, ob_s]
    unfold stc
    rw [if_pos (by omega), ob_s, p_spells h hk hok hi, ob_s]
    by_cases hw : wmB T k.1 k.2.1 (wdW i) = true
    · rw [bI_t hw, if_neg (by decide), bI_t (by simp [hs, hw])]
    · rw [bI_f hw, if_pos rfl, bI_f (by simp [hw])]
  · rw [if_neg (by rw [x_eql (by omega) (by omega)]; exact hs), bI_f (by simp [hs])]
def akI (q : Option Nat) : Int32 := match q with
  | none => -1
  | some i => nI i
theorem p_actHere {μ : MT} {T : Nat → Nat} {N : Nat} {k : PT} (h : TxI μ T N) (hk : CtI μ k) (hok : TkOK T N k) : m_X7_actHere Zc 13 μ = some (akI (akA T k)) := by
  unfold m_X7_actHere akA
  apply ok_eq
  refine ok_c (fun i => akG T k i (10 - i) = akG T k 0 10) 0 10 (by omega) (by omega) rfl rfl ?_ ?_
  · intro i _ hi hJ
    rw [if_neg (by rw [x_llt (by omega) (by omega)]; omega), p_atWord h hk hok (by omega), ob_s]
    rw [show 10 - i = (10 - (i + 1)) + 1 by omega, akG] at hJ
    by_cases hw : wsB T k i = true
    · rw [bI_t hw, if_neg (by decide)]
      rw [if_pos hw] at hJ
      refine ok_s (Or.inr ⟨_, rfl, ok_s ?_⟩)
      rw [← hJ]
      rfl
    · rw [bI_f hw, if_pos rfl, ob_s, n1]
      rw [if_neg hw] at hJ
      exact ok_s (Or.inl ⟨rfl, hJ⟩)
  · intro hJ
    rw [if_pos (by decide)]
    refine ok_s ⟨_, rfl, ok_s ?_⟩
    rw [← hJ]
    rfl
theorem p_numH {μ : MT} {T : Nat → Nat} {N : Nat} {k : PT} (h : TxI μ T N) (hk : CtI μ k) (hok : TkOK T N k) (hs : k.2.2 = 2) : m_X7_numberHere Zc 13 μ = some (nI (nvA T k)) := by
  obtain ⟨hN, h1, h2⟩ := h
  obtain ⟨k1, k2, k3⟩ := hk
  obtain ⟨o1, o2, o3, o4, o5, o6⟩ := hok
  obtain ⟨o7, o8⟩ := o6 hs
  unfold m_X7_numberHere nvA
  simp only [zA, k1, k2, k3, ob_s]
  apply ok_eq
  refine ok_l (fun m q => ∃ i, i + m = k.2.1 - k.1 ∧ q = (nI (nvF T k.1 i), nI (k.1 + i))) (k.2.1 - k.1) (by omega) ⟨0, by omega, rfl⟩ ?_
  rintro m q ⟨i, hi, rfl⟩
  simp only []
  by_cases hm : m = 0
  · rw [if_pos (by rw [x_le (by omega) (by omega)]; omega)]
    refine ok_s (Or.inl ⟨_, rfl, ok_s ?_⟩)
    rw [show i = k.2.1 - k.1 by omega]
  · obtain ⟨b1, b2⟩ := h2 (k.1 + i) (by omega)
    have hd := o8 (k.1 + i) (by omega) (by omega)
    rw [if_neg (by rw [x_le (by omega) (by omega)]; omega), if_pos (by rw [hs]; rfl), al_14 (by omega), ob_s, b2, sb_lo (by omega), x_ml, x_a, x_sl (by omega), n1]
    refine ok_s (Or.inr ⟨_, m - 1, rfl, by omega, i + 1, by omega, ?_⟩)
    rw [nvF, show nvF T k.1 i * 10 + T (k.1 + i) - 48 = nvF T k.1 i * 10 + (T (k.1 + i) - 48) by omega]
    rfl
end
section
/-! ===== the reference's tokens ===== -/
def tcA (s : Nat) : Nat := if s = 0 then 1 else if s = 1 then 2 else if s = 2 then 3 else if s = 3 then 4 else 0
def TrI (μ : MT) (T : Nat → Nat) (N : Nat) : Prop := N ≤ 500 ∧ μ 106 22 = nI N ∧ ∀ j, j < N → T j < 256 ∧ μ 116 j = nI (T j)
def RkI (μ : MT) (k : PT) : Prop := μ 106 23 = nI k.2.1 ∧ μ 106 24 = nI (tcA k.2.2) ∧ μ 106 25 = nI k.1 ∧ μ 106 26 = nI k.2.1
def FrU (μ ν : MT) : Prop := (∀ q, q ≠ 106 → ν q = μ q) ∧ (∀ j, j < 23 ∨ 28 < j → ν 106 j = μ 106 j)
theorem FrU.refl (μ : MT) : FrU μ μ := ⟨fun _ _ => rfl, fun _ _ => rfl⟩
theorem FrU.trans {μ ν ω : MT} (h : FrU μ ν) (h2 : FrU ν ω) : FrU μ ω := ⟨fun q a => (h2.1 q a).trans (h.1 q a), fun j a => (h2.2 j a).trans (h.2 j a)⟩
theorem FrU.w {μ ν : MT} (h : FrU μ ν) {j : Nat} {v : Int32} (hj : 23 ≤ j ∧ j ≤ 28) : FrU μ (u2 ν 106 j v) := ⟨fun q a => by rw [u2_w, if_neg a]; exact h.1 q a, fun i a => by rw [u2_r, if_neg (by omega)]; exact h.2 i a⟩
theorem FrU.tr {μ ν : MT} {T : Nat → Nat} {N : Nat} (h : FrU μ ν) (g : TrI μ T N) : TrI ν T N := ⟨g.1, by rw [h.2 22 (by omega)]; exact g.2.1, fun j hj => by rw [h.1 116 (by omega)]; exact g.2.2 j hj⟩
theorem r_byte {μ : MT} {T : Nat → Nat} {N i : Nat} (h : TrI μ T N) (hi : i ≤ N) : m_X9_byteAt Zc 106 (nI i) μ = some (if i < N then nI (T i) else -1000000) := by
  obtain ⟨hN, h1, h2⟩ := h
  unfold m_X9_byteAt
  rw [h1]
  by_cases hc : i < N
  · rw [if_neg (by rw [x_le (by omega) (by omega)]; omega), if_pos hc]
    simp only [zA]
    rw [al_116 (by omega), ob_s, (h2 i hc).2]
  · rw [if_pos (by rw [x_le (by omega) (by omega)]; omega), if_neg hc]
theorem r_let {v : Nat} {μ : MT} (h : v < 256) : m_X9_isLetter Zc (nI v) μ = some (bI (srtA v = 1)) := by
  have := (let_n v h).1
  unfold m_X9_isLetter
  by_cases h1 : nI v < 97
  · rw [if_pos h1, bI_f (this.mp (Or.inl h1))]
  · rw [if_neg h1]
    by_cases h2 : 122 < nI v
    · rw [if_pos h2, bI_f (this.mp (Or.inr h2))]
    · rw [if_neg h2, bI_t]
      exact Classical.byContradiction fun hq => by
        rcases this.mpr hq with h3 | h3
        · exact h1 h3
        · exact h2 h3
theorem r_fig {v : Nat} {μ : MT} (h : v < 256) : m_X9_isFigure Zc (nI v) μ = some (bI (srtA v = 2)) := by
  have := (let_n v h).2
  unfold m_X9_isFigure
  by_cases h1 : nI v < 48
  · rw [if_pos h1, bI_f (this.mp (Or.inl h1))]
  · rw [if_neg h1]
    by_cases h2 : 57 < nI v
    · rw [if_pos h2, bI_f (this.mp (Or.inr h2))]
    · rw [if_neg h2, bI_t]
      exact Classical.byContradiction fun hq => by
        rcases this.mpr hq with h3 | h3
        · exact h1 h3
        · exact h2 h3
theorem r_skip {μ : MT} {T : Nat → Nat} {N e : Nat} (h : TrI μ T N) (he : e ≤ N) (h23 : μ 106 23 = nI e) {γ : Type} {G : MT → Option γ} {R : γ → Prop} (hG : Ok (G (u2 μ 106 23 (nI (skA T N (N - e) e)))) R) :
    Ok ((loop (σ := MT) (τ := MT) (fun ν1 => ((m_X9_byteAt Zc 106 (ν1 106 23) ν1).bind fun r44 => (((if r44 = 32 then some (Sum.inr ()) else (m_X9_byteAt Zc 106 (ν1 106 23) ν1).bind fun r49 => (if r49 = 10 then some (Sum.inr ()) else some (Sum.inl (Sum.inr ν1)))) : Option (((MT) ⊕ (MT)) ⊕ (Unit)))).bind (jn (fun (_ : Unit) => (some (u2 ν1 106 23 ((ν1 106 23) + 1))).bind fun ν48 => some (Sum.inl ν48))) : Option ((MT) ⊕ (MT)))) LN μ).bind G) R := by
  obtain ⟨hN, h1, h2⟩ := id h
  refine ok_l (fun m ν => ∃ i, i + m = N ∧ ν = u2 μ 106 23 (nI i) ∧ skA T N m i = skA T N (N - e) e) (N - e) (by omega) ⟨e, by omega, by rw [u2_id h23], rfl⟩ ?_
  rintro m ν ⟨i, hi, rfl, hs⟩
  have a2 : u2 μ 106 23 (nI i) 106 23 = nI i := by rw [u2_r, if_pos ⟨rfl, rfl⟩]
  have hfr : FrU μ (u2 μ 106 23 (nI i)) := (FrU.refl μ).w (by omega)
  simp only [a2]
  rw [r_byte (hfr.tr h) (by omega)]
  simp only [ob_s]
  cases m with
  | zero =>
    rw [if_neg (show ¬ i < N by omega), if_neg (by decide), if_neg (by decide), ob_s]
    rw [skA] at hs
    rw [← hs] at hG
    exact ok_s (Or.inl ⟨_, rfl, hG⟩)
  | succ n =>
    obtain ⟨b1, b2⟩ := h2 i (by omega)
    rw [if_pos (show i < N by omega)]
    simp only [u2_2, n1]
    rw [skA] at hs
    by_cases h32 : T i = 32
    · rw [if_pos (by rw [h32]; rfl), ob_s]
      rw [if_pos ⟨by omega, by simp [spB, h32]⟩] at hs
      exact ok_s (Or.inr ⟨_, n, rfl, by omega, i + 1, by omega, rfl, hs⟩)
    · rw [if_neg (by rw [x_eql (by omega) (by omega)]; exact h32)]
      by_cases h10 : T i = 10
      · rw [if_pos (by rw [h10]; rfl), ob_s]
        rw [if_pos ⟨by omega, by simp [spB, h10]⟩] at hs
        exact ok_s (Or.inr ⟨_, n, rfl, by omega, i + 1, by omega, rfl, hs⟩)
      · rw [if_neg (by rw [x_eql (by omega) (by omega)]; exact h10), ob_s]
        rw [if_neg (fun hq => by have := hq.2; simp [spB, h32, h10] at this)] at hs
        rw [← hs] at hG
        exact ok_s (Or.inl ⟨_, rfl, hG⟩)
theorem r_run {μ : MT} {T : Nat → Nat} {N s e : Nat} {tst : Int32 → MT → Option Int32} (h : TrI μ T N) (he : e ≤ N) (h23 : μ 106 23 = nI e) (ht : ∀ v ν, v < 256 → tst (nI v) ν = some (bI (srtA v = s))) (ht0 : ∀ ν, tst (-1000000) ν = some 0) {γ : Type} {G : MT → Option γ} {R : γ → Prop} (hG : Ok (G (u2 μ 106 23 (nI (ruA T N s (N - e) e)))) R) :
    Ok ((loop (σ := MT) (τ := MT) (fun ν20 => ((m_X9_byteAt Zc 106 (ν20 106 23) ν20).bind fun r30 => (tst r30 ν20).bind fun r31 => (if r31 = 0 then some (Sum.inr ν20) else (some (u2 ν20 106 23 ((ν20 106 23) + 1))).bind fun ν32 => some (Sum.inl ν32)) : Option ((MT) ⊕ (MT)))) LN μ).bind G) R := by
  obtain ⟨hN, h1, h2⟩ := id h
  refine ok_l (fun m ν => ∃ i, i + m = N ∧ ν = u2 μ 106 23 (nI i) ∧ ruA T N s m i = ruA T N s (N - e) e) (N - e) (by omega) ⟨e, by omega, by rw [u2_id h23], rfl⟩ ?_
  rintro m ν ⟨i, hi, rfl, hs⟩
  have a2 : u2 μ 106 23 (nI i) 106 23 = nI i := by rw [u2_r, if_pos ⟨rfl, rfl⟩]
  have hfr : FrU μ (u2 μ 106 23 (nI i)) := (FrU.refl μ).w (by omega)
  simp only [a2]
  rw [r_byte (hfr.tr h) (by omega), ob_s]
  cases m with
  | zero =>
    rw [if_neg (show ¬ i < N by omega), ht0, ob_s, if_pos rfl]
    rw [ruA] at hs
    rw [← hs] at hG
    exact ok_s (Or.inl ⟨_, rfl, hG⟩)
  | succ n =>
    obtain ⟨b1, b2⟩ := h2 i (by omega)
    rw [if_pos (show i < N by omega), ht _ _ b1, ob_s, n1, u2_2]
    rw [ruA] at hs
    by_cases hq : srtA (T i) = s
    · rw [bI_t hq, if_neg (by decide), ob_s]
      rw [if_pos ⟨by omega, hq⟩] at hs
      exact ok_s (Or.inr ⟨_, n, rfl, by omega, i + 1, by omega, rfl, hs⟩)
    · rw [bI_f hq, if_pos rfl]
      rw [if_neg (fun hh => hq hh.2)] at hs
      rw [← hs] at hG
      exact ok_s (Or.inl ⟨_, rfl, hG⟩)
theorem r_tnext {μ : MT} {T : Nat → Nat} {N e : Nat} (h : TrI μ T N) (he : e ≤ N) (h23 : μ 106 23 = nI e) : Ok (m_X9_next Zc 106 μ) (fun ν => RkI ν (tkA T N e) ∧ FrU μ ν ∧ ν 106 27 = μ 106 27 ∧ ν 106 28 = μ 106 28) := by
  have hsk := sk_le (T := T) (N := N) (N - e) e (by omega)
  unfold m_X9_next
  refine r_skip h he h23 ?_
  unfold tkA
  generalize skA T N (N - e) e = f at hsk ⊢
  obtain ⟨hN, h1, h2⟩ := id h
  have a1 : u2 μ 106 23 (nI f) 106 23 = nI f := by rw [u2_r, if_pos ⟨rfl, rfl⟩]
  rw [ob_s, a1]
  have b1 : u2 (u2 μ 106 23 (nI f)) 106 25 (nI f) 106 23 = nI f := by rw [u2_r, if_neg (by omega)]; exact a1
  have b2 : u2 (u2 μ 106 23 (nI f)) 106 25 (nI f) 106 25 = nI f := by rw [u2_r, if_pos ⟨rfl, rfl⟩]
  have b3 : u2 (u2 μ 106 23 (nI f)) 106 25 (nI f) 106 27 = μ 106 27 ∧ u2 (u2 μ 106 23 (nI f)) 106 25 (nI f) 106 28 = μ 106 28 := by
    constructor
    · rw [u2_r, if_neg (by omega), u2_r, if_neg (by omega)]
    · rw [u2_r, if_neg (by omega), u2_r, if_neg (by omega)]
  have hfr : FrU μ (u2 (u2 μ 106 23 (nI f)) 106 25 (nI f)) := ((FrU.refl μ).w (by omega)).w (by omega)
  generalize u2 (u2 μ 106 23 (nI f)) 106 25 (nI f) = ν7 at b1 b2 b3 hfr ⊢
  have htr := hfr.tr h
  have hend : ∀ (ν9 : MT) (t s : Nat), tkB T N f = (f, t, s) → ν9 106 23 = nI t → ν9 106 24 = nI (tcA s) → ν9 106 25 = nI f → ν9 106 27 = μ 106 27 ∧ ν9 106 28 = μ 106 28 → FrU μ ν9 → Ok ((some (u2 ν9 106 26 (ν9 106 23))).bind fun ν12 => some ν12) (fun ν => RkI ν (tkB T N f) ∧ FrU μ ν ∧ ν 106 27 = μ 106 27 ∧ ν 106 28 = μ 106 28) := fun ν9 t s e1 e2 e3 e4 e5 e6 => by
    rw [ob_s, e1]
    refine ok_s ⟨⟨?_, ?_, ?_, ?_⟩, e6.w (by omega), ?_, ?_⟩
    · rw [u2_r, if_neg (by omega)]; exact e2
    · rw [u2_r, if_neg (by omega)]; exact e3
    · rw [u2_r, if_neg (by omega)]; exact e4
    · rw [u2_r, if_pos ⟨rfl, rfl⟩]; exact e2
    · rw [u2_r, if_neg (by omega)]; exact e5.1
    · rw [u2_r, if_neg (by omega)]; exact e5.2
  have hset : ∀ (ω : MT) (t : Nat) (z : Int32), ω 106 23 = nI t → ω 106 25 = nI f → (ω 106 27 = μ 106 27 ∧ ω 106 28 = μ 106 28) → FrU μ ω → u2 ω 106 24 z 106 23 = nI t ∧ u2 ω 106 24 z 106 24 = z ∧ u2 ω 106 24 z 106 25 = nI f ∧ (u2 ω 106 24 z 106 27 = μ 106 27 ∧ u2 ω 106 24 z 106 28 = μ 106 28) ∧ FrU μ (u2 ω 106 24 z) := fun ω t z e1 e2 e3 e4 => by
    refine ⟨?_, ?_, ?_, ⟨?_, ?_⟩, e4.w (by omega)⟩
    · rw [u2_r, if_neg (by omega)]; exact e1
    · rw [u2_r, if_pos ⟨rfl, rfl⟩]
    · rw [u2_r, if_neg (by omega)]; exact e2
    · rw [u2_r, if_neg (by omega)]; exact e3.1
    · rw [u2_r, if_neg (by omega)]; exact e3.2
  rw [b1, r_byte htr (by omega), ob_s]
  by_cases hc : f < N
  case neg =>
    rw [if_neg hc, if_pos rfl, ob_s, ob_s]
    obtain ⟨s1, s2, s3, s4, s5⟩ := hset ν7 f 1 b1 b2 b3 hfr
    exact hend _ f 0 (by unfold tkB; rw [if_pos (by omega)]) s1 s2 s3 s4 s5
  obtain ⟨v1, v2⟩ := h2 f hc
  have hmove : ∀ t, u2 ν7 106 23 (nI t) 106 23 = nI t ∧ u2 ν7 106 23 (nI t) 106 25 = nI f ∧ (u2 ν7 106 23 (nI t) 106 27 = μ 106 27 ∧ u2 ν7 106 23 (nI t) 106 28 = μ 106 28) ∧ FrU μ (u2 ν7 106 23 (nI t)) := fun t => by
    refine ⟨?_, ?_, ⟨?_, ?_⟩, hfr.w (by omega)⟩
    · rw [u2_r, if_pos ⟨rfl, rfl⟩]
    · rw [u2_r, if_neg (by omega)]; exact b2
    · rw [u2_r, if_neg (by omega)]; exact b3.1
    · rw [u2_r, if_neg (by omega)]; exact b3.2
  have hru : ∀ s, srtA (T f) = s → ruA T N s (N - f) f = ruA T N s (N - (f + 1)) (f + 1) := fun s hs => by
    rw [show N - f = (N - (f + 1)) + 1 by omega, ruA, if_pos ⟨hc, hs⟩]
  have hvN : ¬ nI (T f) = -1000000 := mNn (by omega)
  rw [if_pos hc, if_neg hvN, r_let v1, ob_s]
  by_cases hl : srtA (T f) = 1
  · rw [bI_t hl, if_neg (by decide)]
    refine ok_b (R1 := fun ν9 => ∃ t s, tkB T N f = (f, t, s) ∧ ν9 106 23 = nI t ∧ ν9 106 24 = nI (tcA s) ∧ ν9 106 25 = nI f ∧ (ν9 106 27 = μ 106 27 ∧ ν9 106 28 = μ 106 28) ∧ FrU μ ν9) ?_ (fun ν9 ⟨t, s, e1, e2, e3, e4, e5, e6⟩ => hend ν9 t s e1 e2 e3 e4 e5 e6)
    refine r_run (tst := m_X9_isLetter Zc) htr (by omega) b1 (fun v ν hv => r_let hv) (fun ν => rfl) ?_
    rw [ob_s, hru 1 hl]
    obtain ⟨m1, m2, m3, m4⟩ := hmove (ruA T N 1 (N - (f + 1)) (f + 1))
    obtain ⟨s1, s2, s3, s4, s5⟩ := hset _ _ 2 m1 m2 m3 m4
    exact ok_s ⟨_, 1, by unfold tkB; rw [if_neg (by omega), if_pos hl], s1, s2, s3, s4, s5⟩
  · rw [bI_f hl, if_pos rfl, r_fig v1, ob_s]
    by_cases hg : srtA (T f) = 2
    · rw [bI_t hg, if_neg (by decide)]
      refine ok_b (R1 := fun ν9 => ∃ t s, tkB T N f = (f, t, s) ∧ ν9 106 23 = nI t ∧ ν9 106 24 = nI (tcA s) ∧ ν9 106 25 = nI f ∧ (ν9 106 27 = μ 106 27 ∧ ν9 106 28 = μ 106 28) ∧ FrU μ ν9) ?_ (fun ν9 ⟨t, s, e1, e2, e3, e4, e5, e6⟩ => hend ν9 t s e1 e2 e3 e4 e5 e6)
      refine r_run (tst := m_X9_isFigure Zc) htr (by omega) b1 (fun v ν hv => r_fig hv) (fun ν => rfl) ?_
      rw [hru 2 hg]
      have hrl := ru_le (T := T) (N := N) (s := 2) (N - (f + 1)) (f + 1) (by omega)
      have htk : tkB T N f = (f, ruA T N 2 (N - (f + 1)) (f + 1), if ruA T N 2 (N - (f + 1)) (f + 1) - f ≤ 2 then 2 else 4) := by unfold tkB; rw [if_neg (by omega), if_neg hl, if_pos hg]
      generalize ruA T N 2 (N - (f + 1)) (f + 1) = t at hrl htk ⊢
      obtain ⟨m1, m2, m3, m4⟩ := hmove t
      rw [m1, m2, x_s (by omega)]
      by_cases h3 : t - f ≤ 2
      · rw [if_pos (by rw [x_lel (by omega) (by omega)]; exact h3), ob_s, ob_s]
        obtain ⟨s1, s2, s3, s4, s5⟩ := hset _ _ 3 m1 m2 m3 m4
        exact ok_s ⟨t, 2, by rw [htk, if_pos h3], s1, s2, s3, s4, s5⟩
      · rw [if_neg (by rw [x_lel (by omega) (by omega)]; exact h3), ob_s, ob_s]
        obtain ⟨s1, s2, s3, s4, s5⟩ := hset _ _ 0 m1 m2 m3 m4
        exact ok_s ⟨t, 4, by rw [htk, if_neg h3], s1, s2, s3, s4, s5⟩
    · rw [bI_f hg, if_pos rfl, ob_s, n1]
      obtain ⟨m1, m2, m3, m4⟩ := hmove (f + 1)
      have htk : tkB T N f = (f, f + 1, srtA (T f)) := by unfold tkB; rw [if_neg (by omega), if_neg hl, if_neg hg]
      by_cases h59 : T f = 59
      · rw [if_pos (by rw [h59]; rfl), ob_s]
        obtain ⟨s1, s2, s3, s4, s5⟩ := hset _ _ 4 m1 m2 m3 m4
        refine hend _ (f + 1) 3 ?_ s1 s2 s3 s4 s5
        rw [htk, h59]; rfl
      · rw [if_neg (by rw [x_eql (by omega) (by omega)]; exact h59), ob_s]
        obtain ⟨s1, s2, s3, s4, s5⟩ := hset _ _ 0 m1 m2 m3 m4
        refine hend _ (f + 1) 4 ?_ s1 s2 s3 s4 s5
        have : srtA (T f) = 4 := by
          unfold srtA at hl hg ⊢
          repeat' split
          all_goals first | rfl | (rename_i h; simp_all)
        rw [htk, this]
end
section
/-! ===== words, numbers, signs: what reading them gives ===== -/
def pNum (T : Nat → Nat) (N : Nat) (P : Nat → Bool) (k : PT) : (Nat × Nat) ⊕ (Nat × PT) :=
  if k.2.2 = 2 then (if P (nvA T k) = true then .inr (nvA T k, tkA T N k.2.1) else .inl (2, k.1)) else .inl (1, k.1)
def pSgn (T : Nat → Nat) (N : Nat) (k : PT) : (Nat × Nat) ⊕ PT := if k.2.2 = 3 then .inr (tkA T N k.2.1) else .inl (1, k.1)
def pkF (T : Nat → Nat) : Nat → Nat
  | 0 => 0
  | n + 1 => pkF T n * 256 + T n
def pkL (w : List Nat) : Nat := pkF (fun j => w.getD j 0) w.length
theorem pkF_inj {T W : Nat → Nat} : ∀ n m, (∀ j, j < n → 1 ≤ T j ∧ T j < 256) → (∀ j, j < m → 1 ≤ W j ∧ W j < 256) → pkF T n = pkF W m → n = m ∧ ∀ j, j < n → T j = W j
  | 0, 0, _, _, _ => ⟨rfl, fun j hj => by omega⟩
  | 0, m + 1, _, h2, h => by
    rw [pkF, pkF] at h
    have := h2 m (by omega)
    omega
  | n + 1, 0, h1, _, h => by
    rw [pkF, pkF] at h
    have := h1 n (by omega)
    omega
  | n + 1, m + 1, h1, h2, h => by
    rw [pkF, pkF] at h
    have a1 := h1 n (by omega)
    have a2 := h2 m (by omega)
    obtain ⟨e1, e2⟩ := pkF_inj n m (fun j hj => h1 j (by omega)) (fun j hj => h2 j (by omega)) (by omega)
    refine ⟨by omega, fun j hj => ?_⟩
    by_cases hjn : j = n
    · subst hjn
      subst e1
      omega
    · exact e2 j (by omega)
theorem pkF_c {T W : Nat → Nat} : ∀ n, (∀ j, j < n → T j = W j) → pkF T n = pkF W n
  | 0, _ => rfl
  | n + 1, h => by rw [pkF, pkF, pkF_c n (fun j hj => h j (by omega)), h n (by omega)]
theorem pkF_lt {T : Nat → Nat} : ∀ n, (∀ j, j < n → T j < 256) → pkF T n < 256 ^ n
  | 0, _ => by simp [pkF]
  | n + 1, h => by
    rw [pkF, Nat.pow_succ]
    have a1 := pkF_lt n (fun j hj => h j (by omega))
    have a2 := h n (by omega)
    omega
theorem ofn_inj {a b : Nat} (ha : a < 2 ^ 63) (hb : b < 2 ^ 63) : Int64.ofNat a = Int64.ofNat b ↔ a = b := by
  constructor
  · intro h
    have h2 := congrArg Int64.toInt h
    rw [Int64.toInt_ofNat', Int64.toInt_ofNat', Int64.size, Int.bmod_eq_of_le (by omega) (by omega), Int.bmod_eq_of_le (by omega) (by omega)] at h2
    omega
  · intro h; rw [h]
theorem ti64_bit {v i : Nat} (hv : v < 256) (hi : i < 64) : (nI v).toInt64.toBitVec.getLsbD i = v.testBit i := by
  show ((nI v).toBitVec.signExtend 64).getLsbD i = _
  rw [BitVec.getLsbD_signExtend]
  have hb : ∀ j, j < 32 → (nI v).toBitVec.getLsbD j = v.testBit j := fun j hj => bt_n hj
  by_cases h : i < 32
  · rw [decide_eq_true hi, Bool.true_and, if_pos h, hb i h]
  · have h1 : v.testBit i = false := Nat.testBit_lt_two_pow (Nat.lt_of_lt_of_le hv (show 2 ^ 8 ≤ 2 ^ i from Nat.pow_le_pow_right (by decide) (by omega)))
    have h2 : (nI v).toBitVec.msb = false := by
      rw [BitVec.msb_eq_getLsbD_last]
      show (nI v).toBitVec.getLsbD 31 = false
      rw [hb 31 (by omega)]
      exact Nat.testBit_lt_two_pow (by omega)
    rw [decide_eq_true hi, Bool.true_and, if_neg h, h1, h2]
theorem pack_s {a v : Nat} (ha : a < 2 ^ 48) (hv : v < 256) : (Int64.ofNat a <<< ((8 : Int32).toInt64 &&& 63)) ||| (nI v).toInt64 = Int64.ofNat (a * 256 + v) := by
  apply Int64.toBitVec_inj.mp
  apply BitVec.eq_of_getLsbD_eq
  intro i hi
  rw [Int64.toBitVec_or, BitVec.getLsbD_or, ti64_bit hv hi, Int64.toBitVec_shiftLeft]
  show (((Int64.ofNat a).toBitVec <<< (((8 : Int32).toInt64 &&& 63).toBitVec.smod 64).toNat).getLsbD i || v.testBit i) = _
  rw [show (((8 : Int32).toInt64 &&& 63).toBitVec.smod 64).toNat = 8 by decide, BitVec.getLsbD_shiftLeft]
  show (decide (i < 64) && !decide (i < 8) && (BitVec.ofNat 64 a).getLsbD (i - 8) || v.testBit i) = (BitVec.ofNat 64 (a * 256 + v)).getLsbD i
  rw [BitVec.getLsbD_ofNat, BitVec.getLsbD_ofNat, show a * 256 + v = 2 ^ 8 * a + v by omega, Nat.testBit_two_pow_mul_add _ (by omega)]
  by_cases h8 : i < 8
  · simp [hi, h8]
  · have h1 : v.testBit i = false := Nat.testBit_lt_two_pow (Nat.lt_of_lt_of_le hv (show 2 ^ 8 ≤ 2 ^ i from Nat.pow_le_pow_right (by decide) (by omega)))
    simp [hi, h8, h1, show i - 8 < 64 by omega]
def wrdA (T : Nat → Nat) (k : PT) : Int64 := if k.2.2 = 1 ∧ k.2.1 - k.1 < 8 then Int64.ofNat (pkF (fun j => T (k.1 + j)) (k.2.1 - k.1)) else 0
theorem tc_1 {s : Nat} (h : s ≤ 4) : (nI (tcA s) = 2 ↔ s = 1) ∧ (nI (tcA s) = 3 ↔ s = 2) ∧ (nI (tcA s) = 4 ↔ s = 3) ∧ (nI (tcA s) = 1 ↔ s = 0) := by
  have := (by decide +kernel : ∀ s, s < 5 → (nI (tcA s) = 2 ↔ s = 1) ∧ (nI (tcA s) = 3 ↔ s = 2) ∧ (nI (tcA s) = 4 ↔ s = 3) ∧ (nI (tcA s) = 1 ↔ s = 0))
  exact this s (by omega)
theorem r_word {μ : MT} {T : Nat → Nat} {N : Nat} {k : PT} (h : TrI μ T N) (hk : RkI μ k) (hok : TkOK T N k) : m_X9_word Zc 106 μ = some (if μ 106 27 = 0 then wrdA T k else 0) := by
  obtain ⟨hN, h1, h2⟩ := h
  obtain ⟨k1, k2, k3, k4⟩ := hk
  obtain ⟨o1, o2, o3, o4, o5, o6⟩ := hok
  have htc := (tc_1 o3).1
  unfold m_X9_word
  simp only [zA, k2, k3, k4, ob_s]
  rw [x_s o1]
  have hend : ∀ v : Int64, v = wrdA T k → Ok (if μ 106 27 = 0 then some v else some 0) (fun a => a = if μ 106 27 = 0 then wrdA T k else 0) := fun v hv => by
    subst hv
    by_cases h27 : μ 106 27 = 0
    · rw [if_pos h27, if_pos h27]; exact ok_s rfl
    · rw [if_neg h27, if_neg h27]; exact ok_s rfl
  apply ok_eq
  by_cases hs : k.2.2 = 1 ∧ k.2.1 - k.1 < 8
  · refine ok_l (fun m q => ∃ i, i + m = k.2.1 - k.1 ∧ q = (Int64.ofNat (pkF (fun j => T (k.1 + j)) i), nI (k.1 + i))) (k.2.1 - k.1) (by omega) ⟨0, by omega, rfl⟩ ?_
    rintro m q ⟨i, hi, rfl⟩
    simp only []
    by_cases hm : m = 0
    · rw [if_pos (by rw [x_le (by omega) (by omega)]; omega)]
      refine ok_s (Or.inl ⟨_, rfl, hend _ ?_⟩)
      unfold wrdA
      rw [if_pos hs, show i = k.2.1 - k.1 by omega]
    · obtain ⟨b1, b2⟩ := h2 (k.1 + i) (by omega)
      have hlt := pkF_lt (T := fun j => T (k.1 + j)) i (fun j hj => (h2 (k.1 + j) (by omega)).1)
      have hp : 256 ^ i ≤ 256 ^ 6 := Nat.pow_le_pow_right (by decide) (by omega)
      rw [if_neg (by rw [x_le (by omega) (by omega)]; omega), if_pos (htc.mpr hs.1), if_neg (by rw [x_lle (by omega) (by omega)]; omega), al_116 (by omega), ob_s, b2, pack_s (Nat.lt_of_lt_of_le hlt (by omega)) b1, n1]
      exact ok_s (Or.inr ⟨_, m - 1, rfl, by omega, i + 1, by omega, rfl⟩)
  · refine ok_l (fun m q => q = ((0 : Int64), nI k.1)) 0 (by omega) rfl ?_
    rintro m q rfl
    simp only []
    have h0 : (0 : Int64) = wrdA T k := by
      unfold wrdA
      rw [if_neg hs]
    by_cases hc : k.2.1 ≤ k.1
    · rw [if_pos (by rw [x_le (by omega) (by omega)]; exact hc)]
      exact ok_s (Or.inl ⟨_, rfl, hend _ h0⟩)
    · rw [if_neg (by rw [x_le (by omega) (by omega)]; exact hc)]
      by_cases hs1 : k.2.2 = 1
      · rw [if_pos (htc.mpr hs1), if_pos (by rw [x_lle (by omega) (by omega)]; omega)]
        exact ok_s (Or.inl ⟨_, rfl, hend _ h0⟩)
      · rw [if_neg (fun hq => hs1 (htc.mp hq))]
        exact ok_s (Or.inl ⟨_, rfl, hend _ h0⟩)
theorem pkL_lt : ∀ i, i < 13 → pkL (wdW i) < 2 ^ 63 ∧ 1 ≤ pkL (wdW i) := by decide +kernel
theorem alB_i {f : Nat → Bool} : ∀ n, alB f n = true ↔ ∀ c, c < n → f c = true
  | 0 => by simp [alB]
  | n + 1 => by
    rw [alB_s, Bool.and_eq_true, alB_i n]
    constructor
    · rintro ⟨h1, h2⟩ c hc
      by_cases hcn : c = n
      · rw [hcn]; exact h2
      · exact h1 c (by omega)
    · intro h
      exact ⟨fun c hc => h c (by omega), h n (by omega)⟩
theorem wr_iff {T : Nat → Nat} {N i : Nat} {k : PT} (hok : TkOK T N k) (hi : i < 13) : wrdA T k = Int64.ofNat (pkL (wdW i)) ↔ wsB T k i = true := by
  obtain ⟨o1, o2, o3, o4, o5, o6⟩ := hok
  obtain ⟨w1, w2, w3⟩ := wd_lo i hi
  obtain ⟨p1, p2⟩ := pkL_lt i hi
  unfold wrdA wsB wmB
  simp only [Bool.and_eq_true, decide_eq_true_eq, alB_i]
  by_cases hs : k.2.2 = 1 ∧ k.2.1 - k.1 < 8
  · rw [if_pos hs]
    have hlet := o5 hs.1
    have hlt := pkF_lt (T := fun j => T (k.1 + j)) (k.2.1 - k.1) (fun j hj => by have := hlet (k.1 + j) (by omega) (by omega); omega)
    have hp : 256 ^ (k.2.1 - k.1) ≤ 256 ^ 7 := Nat.pow_le_pow_right (by decide) (by omega)
    rw [ofn_inj (Nat.lt_of_lt_of_le hlt (Nat.le_trans hp (by decide))) p1]
    unfold pkL
    constructor
    · intro h
      obtain ⟨e1, e2⟩ := pkF_inj _ _ (fun j hj => by have := hlet (k.1 + j) (by omega) (by omega); omega) (fun j hj => by have := w3 j hj; omega) h
      exact ⟨hs.1, e1, fun c hc => e2 c (by omega)⟩
    · rintro ⟨_, e1, e2⟩
      rw [e1]
      exact pkF_c _ e2
  · rw [if_neg hs]
    constructor
    · intro h
      have h2 : Int64.ofNat 0 = Int64.ofNat (pkL (wdW i)) := h
      have := (ofn_inj (by omega) p1).mp h2
      omega
    · rintro ⟨e0, e1, e2⟩
      exact absurd ⟨e0, by omega⟩ hs
theorem wr_c {T : Nat → Nat} {N : Nat} {k : PT} (hok : TkOK T N k) {i : Nat} {c : Int64} (hi : i < 13) (hc : c = Int64.ofNat (pkL (wdW i))) : (lg_cmp (wrdA T k) c = 0) ↔ wsB T k i = true := by
  rw [lg_cmp_eq, hc]
  exact wr_iff hok hi
theorem cw_n : (1952539499 : Int64) = Int64.ofNat (pkL (wdW 0)) ∧ (28526 : Int64) = Int64.ofNat (pkL (wdW 1)) ∧ (1650549611 : Int64) = Int64.ofNat (pkL (wdW 2)) ∧ (1936419184 : Int64) = Int64.ofNat (pkL (wdW 3)) ∧ (126879297138276 : Int64) = Int64.ofNat (pkL (wdW 4)) ∧ (128047779833188 : Int64) = Int64.ofNat (pkL (wdW 5)) ∧ (439904988517 : Int64) = Int64.ofNat (pkL (wdW 6)) ∧ (2002872692 : Int64) = Int64.ofNat (pkL (wdW 7)) ∧ (427020086640 : Int64) = Int64.ofNat (pkL (wdW 8)) ∧ (1718773093 : Int64) = Int64.ofNat (pkL (wdW 9)) ∧ (482670962028 : Int64) = Int64.ofNat (pkL (wdW 10)) ∧ (1936023917 : Int64) = Int64.ofNat (pkL (wdW 11)) ∧ (108187649798757 : Int64) = Int64.ofNat (pkL (wdW 12)) := by decide +kernel
theorem z_c {c : Int64} (h : ¬ (0 : Int64) = c) : ¬ lg_cmp 0 c = 0 := fun hq => h ((lg_cmp_eq 0 c).mp hq)
def krI (q : Option Nat) : Int32 := match q with
  | none => -1000000
  | some i => nI (i + 1)
theorem r_kow {μ : MT} {T : Nat → Nat} {N : Nat} {k : PT} (h : TrI μ T N) (hk : RkI μ k) (hok : TkOK T N k) : m_X9_kindOfWord Zc 106 μ = some (if μ 106 27 = 0 then krI (akA T k) else -1000000) := by
  obtain ⟨c0, c1, c2, c3, c4, c5, c6, c7, c8, c9, -, -, -⟩ := cw_n
  unfold m_X9_kindOfWord
  rw [r_word h hk hok, ob_s]
  by_cases h27 : μ 106 27 = 0
  · rw [if_pos h27, if_pos h27]
    simp only [wr_c hok (show 0 < 13 by omega) c0, wr_c hok (show 1 < 13 by omega) c1, wr_c hok (show 2 < 13 by omega) c2, wr_c hok (show 3 < 13 by omega) c3, wr_c hok (show 4 < 13 by omega) c4, wr_c hok (show 5 < 13 by omega) c5, wr_c hok (show 6 < 13 by omega) c6, wr_c hok (show 7 < 13 by omega) c7, wr_c hok (show 8 < 13 by omega) c8, wr_c hok (show 9 < 13 by omega) c9]
    unfold akA
    simp only [akG]
    repeat' split
    all_goals rfl
  · rw [if_neg h27, if_neg h27, if_neg (z_c (by decide)), if_neg (z_c (by decide)), if_neg (z_c (by decide)), if_neg (z_c (by decide)), if_neg (z_c (by decide)), if_neg (z_c (by decide)), if_neg (z_c (by decide)), if_neg (z_c (by decide)), if_neg (z_c (by decide)), if_neg (z_c (by decide))]
/-- a fault is told: its number, its place -/
def FsI (μ : MT) (T : Nat → Nat) (N c pl : Nat) : Prop := μ 106 27 = nI c ∧ 1 ≤ c ∧ c ≤ 3 ∧ μ 106 28 = nI pl ∧ TrI μ T N ∧ ∃ k, RkI μ k ∧ TkOK T N k
theorem FsI.ne {μ : MT} {T : Nat → Nat} {N c pl : Nat} (h : FsI μ T N c pl) : ¬ μ 106 27 = 0 ∧ ¬ μ 106 27 ≤ 0 := by
  rw [h.1]
  have h1 := h.2.1
  have h2 := h.2.2.1
  refine ⟨?_, ?_⟩
  · rw [x_eql (by omega) (by omega)]; omega
  · rw [x_lel (by omega) (by omega)]; omega
theorem r_bad_f {μ : MT} {T : Nat → Nat} {N c pl : Nat} {z : Int32} (h : FsI μ T N c pl) : m_X9_bad Zc 106 z μ = some μ := by
  unfold m_X9_bad
  rw [if_neg h.ne.1]
theorem r_must_f {μ : MT} {T : Nat → Nat} {N c pl : Nat} {z : Int32} (h : FsI μ T N c pl) : m_X9_must Zc 106 z μ = some μ := by
  unfold m_X9_must
  rw [r_bad_f h]
  simp only [ob_s]
  by_cases hz : z = 0
  · rw [if_pos hz, ob_s, if_neg h.ne.1]
  · rw [if_neg hz, ob_s, if_neg h.ne.1]
theorem r_num_f {μ : MT} {T : Nat → Nat} {N c pl : Nat} {a b z : Int32} (h : FsI μ T N c pl) : m_X9_numberIn Zc 106 a b z μ = some (0, μ) := by
  unfold m_X9_numberIn
  rw [if_neg h.ne.2]
theorem r_end_f {μ : MT} {T : Nat → Nat} {N c pl : Nat} (h : FsI μ T N c pl) : m_X9_mustEnd Zc 106 μ = some μ := by
  unfold m_X9_mustEnd
  rw [if_neg h.ne.1]
theorem r_word_f {μ : MT} {T : Nat → Nat} {N c pl : Nat} (h : FsI μ T N c pl) : m_X9_word Zc 106 μ = some 0 := by
  obtain ⟨k, h1, h2⟩ := h.2.2.2.2.2
  rw [r_word h.2.2.2.2.1 h1 h2, if_neg h.ne.1]
theorem r_kow_f {μ : MT} {T : Nat → Nat} {N c pl : Nat} (h : FsI μ T N c pl) : m_X9_kindOfWord Zc 106 μ = some (-1000000) := by
  obtain ⟨k, h1, h2⟩ := h.2.2.2.2.2
  rw [r_kow h.2.2.2.2.1 h1 h2, if_neg h.ne.1]
theorem r_bad {μ : MT} {T : Nat → Nat} {N c : Nat} {k : PT} (h : TrI μ T N) (hk : RkI μ k) (hok : TkOK T N k) (h27 : μ 106 27 = 0) (hc : 1 ≤ c ∧ c ≤ 3) : Ok (m_X9_bad Zc 106 (nI c) μ) (fun ν => FsI ν T N c k.1 ∧ FrU μ ν ∧ RkI ν k) := by
  unfold m_X9_bad
  rw [if_pos h27, ob_s, ob_s]
  have e25 : u2 μ 106 27 (nI c) 106 25 = nI k.1 := by rw [u2_r, if_neg (by omega)]; exact hk.2.2.1
  rw [e25]
  have hfr : FrU μ (u2 (u2 μ 106 27 (nI c)) 106 28 (nI k.1)) := ((FrU.refl μ).w (by omega)).w (by omega)
  have hk2 : RkI (u2 (u2 μ 106 27 (nI c)) 106 28 (nI k.1)) k := by
    obtain ⟨k1, k2, k3, k4⟩ := hk
    refine ⟨?_, ?_, ?_, ?_⟩
    all_goals (rw [u2_r, if_neg (by omega), u2_r, if_neg (by omega)]; assumption)
  refine ok_s ⟨⟨?_, hc.1, hc.2, ?_, hfr.tr h, k, hk2, hok⟩, hfr, hk2⟩
  · rw [u2_r, if_neg (by omega), u2_r, if_pos ⟨rfl, rfl⟩]
  · rw [u2_r, if_pos ⟨rfl, rfl⟩]
theorem r_must1 {μ : MT} {T : Nat → Nat} {N : Nat} {k : PT} (h : TrI μ T N) (hk : RkI μ k) (hok : TkOK T N k) (h27 : μ 106 27 = 0) : Ok (m_X9_must Zc 106 1 μ) (fun ν => RkI ν (tkA T N k.2.1) ∧ FrU μ ν ∧ ν 106 27 = 0) := by
  unfold m_X9_must
  rw [if_neg (by decide), ob_s, if_pos h27]
  refine ok_b (r_tnext h hok.2.1 hk.1) ?_
  rintro ν ⟨g1, g2, g3, g4⟩
  exact ok_s ⟨g1, g2, by rw [g3]; exact h27⟩
theorem r_must0 {μ : MT} {T : Nat → Nat} {N : Nat} {k : PT} (h : TrI μ T N) (hk : RkI μ k) (hok : TkOK T N k) (h27 : μ 106 27 = 0) : Ok (m_X9_must Zc 106 0 μ) (fun ν => FsI ν T N 1 k.1 ∧ FrU μ ν) := by
  unfold m_X9_must
  rw [if_pos rfl]
  refine ok_b (R1 := fun ν => FsI ν T N 1 k.1 ∧ FrU μ ν) ?_ ?_
  · refine ok_b (r_bad (c := 1) h hk hok h27 (by omega)) ?_
    rintro ν ⟨g1, g2, g3⟩
    exact ok_s ⟨g1, g2⟩
  · rintro ν ⟨g1, g2⟩
    rw [if_neg g1.ne.1]
    exact ok_s ⟨g1, g2⟩
theorem r_num {μ : MT} {T : Nat → Nat} {N : Nat} {k : PT} {a b z : Int32} {P : Nat → Bool} (h : TrI μ T N) (hk : RkI μ k) (hok : TkOK T N k) (h27 : μ 106 27 = 0) (hP : ∀ v, v ≤ 99 → (P v = true ↔ ((a.toInt ≤ v ∧ (v : Int) ≤ b.toInt) ∧ ¬ nI v = z))) :
    Ok (m_X9_numberIn Zc 106 a b z μ) (fun q => FrU μ q.2 ∧ match pNum T N P k with
      | .inl e => FsI q.2 T N e.1 e.2
      | .inr r => q.1 = nI r.1 ∧ RkI q.2 r.2 ∧ q.2 106 27 = 0) := by
  obtain ⟨hN, h1, h2⟩ := id h
  obtain ⟨k1, k2, k3, k4⟩ := id hk
  obtain ⟨o1, o2, o3, o4, o5, o6⟩ := id hok
  have htc := (tc_1 o3).2.1
  unfold m_X9_numberIn pNum
  simp only [zA, k2, k3, k4, ob_s]
  rw [if_pos (by rw [h27]; decide)]
  by_cases hs : k.2.2 = 2
  · rw [if_pos hs]
    obtain ⟨o7, o8⟩ := o6 hs
    have hnv := nv_le hok hs
    refine ok_l (fun m q => ∃ i, i + m = k.2.1 - k.1 ∧ q = (nI (nvF T k.1 i), nI (k.1 + i))) (k.2.1 - k.1) (by omega) ⟨0, by omega, rfl⟩ ?_
    rintro m q ⟨i, hi, rfl⟩
    simp only []
    by_cases hm : m = 0
    · rw [if_pos (by rw [x_le (by omega) (by omega)]; omega)]
      refine ok_s (Or.inl ⟨_, rfl, ?_⟩)
      have hi2 : nvF T k.1 i = nvA T k := by
        unfold nvA
        rw [show i = k.2.1 - k.1 by omega]
      rw [hi2]
      generalize nvA T k = v at hnv ⊢
      have hPv := hP v hnv
      rw [if_pos (htc.mpr hs), q_in, Int32.toInt_toInt64, Int32.toInt_toInt64, Int32.toInt_toInt64, ti_n (by omega), ob_s]
      have hbad : Ok ((m_X9_bad Zc 106 2 μ).bind fun ν20 => some ν20) (fun ν => FsI ν T N 2 k.1 ∧ FrU μ ν ∧ RkI ν k) := by
        refine ok_b (r_bad (c := 2) h hk hok h27 (by omega)) ?_
        rintro ν g
        exact ok_s g
      by_cases hp : P v = true
      · obtain ⟨q1, q2⟩ := hPv.mp hp
        rw [if_pos hp, bI_t q1, if_neg (by decide), if_neg q2, ob_s]
        simp only [jn, ob_s]
        rw [k2, if_pos (htc.mpr hs), ob_s]
        refine ok_b (r_must1 h hk hok h27) ?_
        rintro ν ⟨g1, g2, g3⟩
        exact ok_s ⟨g2, rfl, g1, g3⟩
      · rw [if_neg hp]
        have hrest : ∀ ν9, FsI ν9 T N 2 k.1 ∧ FrU μ ν9 ∧ RkI ν9 k → Ok ((if ν9 106 24 = 3 then some 1 else some 0 : Option Int32).bind (fun z12 => (m_X9_must Zc 106 z12 ν9).bind fun ν15 => some (nI v, ν15))) (fun q => FrU μ q.2 ∧ FsI q.2 T N 2 k.1) := fun ν9 ⟨g1, g2, g3⟩ => by
          rw [g3.2.1, if_pos (htc.mpr hs), ob_s, r_must_f g1, ob_s]
          exact ok_s ⟨g2, g1⟩
        by_cases q1 : a.toInt ≤ v ∧ (v : Int) ≤ b.toInt
        · have q2 : nI v = z := Classical.byContradiction fun hq => hp (hPv.mpr ⟨q1, hq⟩)
          rw [bI_t q1, if_neg (by decide), if_pos q2, ob_s]
          exact ok_b hbad hrest
        · rw [bI_f q1, if_pos rfl, ob_s]
          exact ok_b hbad hrest
    · obtain ⟨b1, b2⟩ := h2 (k.1 + i) (by omega)
      have hd := o8 (k.1 + i) (by omega) (by omega)
      rw [if_neg (by rw [x_le (by omega) (by omega)]; omega), if_pos (htc.mpr hs), al_116 (by omega), ob_s, b2, x_lm, x_a, x_sl (by omega), n1]
      refine ok_s (Or.inr ⟨_, m - 1, rfl, by omega, i + 1, by omega, ?_⟩)
      rw [nvF, show 10 * nvF T k.1 i + T (k.1 + i) - 48 = nvF T k.1 i * 10 + (T (k.1 + i) - 48) by omega]
      rfl
  · rw [if_neg hs]
    refine ok_l (fun m q => q = ((0 : Int32), nI k.1)) 0 (by omega) rfl ?_
    rintro m q rfl
    simp only []
    have hrest : Ok ((((if nI (tcA k.2.2) = 3 then (m_X9_in Zc ((0 : Int32).toInt64) ((a : Int32).toInt64) ((b : Int32).toInt64) μ).bind fun r16 => (((if r16 = 0 then some (Sum.inr ()) else (if (0 : Int32) = z then some (Sum.inr ()) else some (Sum.inl μ))) : Option ((MT) ⊕ (Unit)))).bind (jn (fun (_ : Unit) => (m_X9_bad Zc 106 2 μ).bind fun ν20 => some ν20)) else some μ) : Option (MT))).bind (fun ν9 => (((if (ν9 106 24) = 3 then some 1 else some 0) : Option (Int32))).bind (fun z12 => (m_X9_must Zc 106 z12 ν9).bind fun ν15 => some ((0 : Int32), ν15)))) (fun q => FrU μ q.2 ∧ FsI q.2 T N 1 k.1) := by
      rw [if_neg (fun hq => hs (htc.mp hq)), ob_s, k2, if_neg (fun hq => hs (htc.mp hq)), ob_s]
      refine ok_b (r_must0 h hk hok h27) ?_
      rintro ν ⟨g1, g2⟩
      exact ok_s ⟨g2, g1⟩
    by_cases hc : k.2.1 ≤ k.1
    · rw [if_pos (by rw [x_le (by omega) (by omega)]; exact hc)]
      exact ok_s (Or.inl ⟨_, rfl, hrest⟩)
    · rw [if_neg (by rw [x_le (by omega) (by omega)]; exact hc), if_neg (fun hq => hs (htc.mp hq))]
      exact ok_s (Or.inl ⟨_, rfl, hrest⟩)
theorem r_end {μ : MT} {T : Nat → Nat} {N : Nat} {k : PT} (h : TrI μ T N) (hk : RkI μ k) (hok : TkOK T N k) (h27 : μ 106 27 = 0) :
    Ok (m_X9_mustEnd Zc 106 μ) (fun ν => FrU μ ν ∧ match pSgn T N k with
      | .inl e => FsI ν T N e.1 e.2
      | .inr r => RkI ν r ∧ ν 106 27 = 0) := by
  have o3 := hok.2.2.1
  have htc := (tc_1 o3).2.2.1
  unfold m_X9_mustEnd pSgn
  rw [if_pos h27, hk.2.1]
  by_cases hs : k.2.2 = 3
  · rw [if_pos (htc.mpr hs), ob_s, if_pos hs]
    refine ok_b (r_must1 h hk hok h27) ?_
    rintro ν ⟨g1, g2, g3⟩
    exact ok_s ⟨g2, g1, g3⟩
  · rw [if_neg (fun hq => hs (htc.mp hq)), ob_s, if_neg hs]
    refine ok_b (r_must0 h hk hok h27) ?_
    rintro ν ⟨g1, g2⟩
    exact ok_s ⟨g2, g1⟩
end
section
/-! ===== reading a plan, over plain texts ===== -/
/-- an act: kind, place, strength, seam -/
abbrev AC : Type := Nat × Nat × Nat × Nat
def aZ : AC := (0, 0, 0, 0)
def rgB (lo hi v : Nat) : Bool := decide (lo ≤ v) && decide (v < hi)
def pAct (T : Nat → Nat) (N nc kd : Nat) (k : PT) : (Nat × Nat) ⊕ ((Nat × Nat) × PT) :=
  match pNum T N (if kd = 7 then rgB 1 31 else rgB 0 nc) k with
  | .inl e => .inl e
  | .inr r => if kd < 7 then (match pNum T N (rgB 1 21) r.2 with
      | .inl e => .inl e
      | .inr q => .inr ((r.1, q.1), q.2)) else .inr ((r.1, 0), r.2)
def pTake (T : Nat → Nat) (N nc : Nat) (L : List AC) (sm kd : Nat) (k : PT) : (Nat × Nat) ⊕ (List AC × PT) :=
  if 40 ≤ L.length then .inl (3, k.1) else match pAct T N nc kd (tkA T N k.2.1) with
  | .inl e => .inl e
  | .inr q => .inr (L ++ [(kd, q.1.1, q.1.2, sm)], q.2)
def pActs (T : Nat → Nat) (N nc sm : Nat) : Nat → List AC → PT → (Nat × Nat) ⊕ (List AC × PT)
  | 0, _, k => .inl (3, k.1)
  | n + 1, L, k => match akA T k with
    | none => .inr (L, k)
    | some kd => match pTake T N nc L sm kd k with
      | .inl e => .inl e
      | .inr q => pActs T N nc sm n q.1 q.2
def pSeam (T : Nat → Nat) (N nc : Nat) (L : List AC) (E : List Nat) (k : PT) : (Nat × Nat) ⊕ ((List AC × List Nat) × PT) :=
  if 6 ≤ E.length then .inl (3, k.1) else match pActs T N nc E.length 41 L (tkA T N k.2.1) with
  | .inl e => .inl e
  | .inr q => match pSgn T N q.2 with
    | .inl e => .inl e
    | .inr r => .inr ((q.1, E ++ [q.1.length]), r)
def pSeams (T : Nat → Nat) (N nc : Nat) : Nat → List AC × List Nat → PT → (Nat × Nat) ⊕ ((List AC × List Nat) × PT)
  | 0, _, k => .inl (3, k.1)
  | n + 1, LE, k => if wsB T k 11 = true then (match pSeam T N nc LE.1 LE.2 k with
      | .inl e => .inl e
      | .inr q => pSeams T N nc n q.1 q.2) else .inr (LE, k)
def neB (ns a v : Nat) : Bool := decide (v < ns) && !decide (v = a)
def pBef (T : Nat → Nat) (N ns : Nat) (B : List (Nat × Nat)) (k : PT) : (Nat × Nat) ⊕ (List (Nat × Nat) × PT) :=
  if 10 ≤ B.length then .inl (3, k.1) else match pNum T N (rgB 0 ns) (tkA T N k.2.1) with
  | .inl e => .inl e
  | .inr q => match pNum T N (neB ns q.1) q.2 with
    | .inl e => .inl e
    | .inr r => match pSgn T N r.2 with
      | .inl e => .inl e
      | .inr w => .inr (B ++ [(q.1, r.1)], w)
def pBefs (T : Nat → Nat) (N ns : Nat) : Nat → List (Nat × Nat) → PT → (Nat × Nat) ⊕ (List (Nat × Nat) × PT)
  | 0, _, k => .inl (3, k.1)
  | n + 1, B, k => if wsB T k 12 = true then (match pBef T N ns B k with
      | .inl e => .inl e
      | .inr q => pBefs T N ns n q.1 q.2) else .inr (B, k)
def pPan (T : Nat → Nat) (N : Nat) (k : PT) : (Nat × Nat) ⊕ (Nat × PT) :=
  if wsB T k 10 = true then (match pNum T N (rgB 4 13) (tkA T N k.2.1) with
    | .inl e => .inl e
    | .inr q => match pSgn T N q.2 with
      | .inl e => .inl e
      | .inr r => .inr (q.1, r)) else .inl (1, k.1)
def pPlan (T : Nat → Nat) (N : Nat) : (Nat × Nat) ⊕ (Nat × (List AC × List Nat) × List (Nat × Nat)) :=
  match pPan T N (tkA T N 0) with
  | .inl e => .inl e
  | .inr q => match pSeams T N q.1 7 ([], []) q.2 with
    | .inl e => .inl e
    | .inr r => match pBefs T N r.1.2.length 11 [] r.2 with
      | .inl e => .inl e
      | .inr w => if w.2.2.2 = 0 then .inr (q.1, r.1, w.1) else .inl (1, w.2.1)
/-! what is sure of what was read -/
theorem getD_app {α : Type} {L : List α} {x z : α} {a : Nat} : (L ++ [x]).getD a z = if a = L.length then x else L.getD a z := by
  by_cases h : a = L.length
  · rw [if_pos h, h]; simp [List.getD]
  · rw [if_neg h]
    by_cases h2 : a < L.length
    · simp [List.getD, List.getElem?_append_left h2]
    · have h3 : L.length + 1 ≤ a := by omega
      simp [List.getD, List.getElem?_eq_none (show (L ++ [x]).length ≤ a by simp; omega), List.getElem?_eq_none (show L.length ≤ a by omega)]
def eE (E : List Nat) (s : Nat) : Nat := if s = 0 then 0 else E.getD (s - 1) 0
def GdA (nc : Nat) (L : List AC) : Prop := ∀ a, a < L.length → (L.getD a aZ).1 < 10 ∧ ((L.getD a aZ).1 = 7 → (L.getD a aZ).2.1 ≤ 30) ∧ ((L.getD a aZ).1 ≠ 7 → (L.getD a aZ).2.1 < nc) ∧ ((L.getD a aZ).1 < 7 → 1 ≤ (L.getD a aZ).2.2.1 ∧ (L.getD a aZ).2.2.1 ≤ 20)
def SgA (L : List AC) (E : List Nat) : Prop := (∀ s, s < E.length → eE E s ≤ eE E (s + 1) ∧ eE E (s + 1) ≤ L.length ∧ ∀ a, eE E s ≤ a → a < eE E (s + 1) → (L.getD a aZ).2.2.2 = s) ∧ eE E E.length ≤ L.length ∧ ∀ a, eE E E.length ≤ a → a < L.length → (L.getD a aZ).2.2.2 = E.length
theorem rg_i {lo hi v : Nat} : rgB lo hi v = true ↔ lo ≤ v ∧ v < hi := by
  unfold rgB
  simp
theorem ne_i {ns a v : Nat} : neB ns a v = true ↔ v < ns ∧ ¬ v = a := by
  unfold neB
  simp
theorem pNum_r {T : Nat → Nat} {N : Nat} {P : Nat → Bool} {k : PT} {r : Nat × PT} (h : pNum T N P k = .inr r) : P r.1 = true ∧ k.2.2 = 2 ∧ r.2 = tkA T N k.2.1 ∧ r.1 = nvA T k := by
  unfold pNum at h
  by_cases h1 : k.2.2 = 2
  · rw [if_pos h1] at h
    by_cases h2 : P (nvA T k) = true
    · rw [if_pos h2] at h
      have := Sum.inr.inj h
      rw [← this]
      exact ⟨h2, h1, rfl, rfl⟩
    · rw [if_neg h2] at h; cases h
  · rw [if_neg h1] at h; cases h
theorem pNum_l {T : Nat → Nat} {N : Nat} {P : Nat → Bool} {k : PT} {e : Nat × Nat} (h : pNum T N P k = .inl e) : 1 ≤ e.1 ∧ e.1 ≤ 3 ∧ e.2 = k.1 := by
  unfold pNum at h
  by_cases h1 : k.2.2 = 2
  · rw [if_pos h1] at h
    by_cases h2 : P (nvA T k) = true
    · rw [if_pos h2] at h; cases h
    · rw [if_neg h2] at h
      have := Sum.inl.inj h
      rw [← this]
      exact ⟨by simp, by simp, rfl⟩
  · rw [if_neg h1] at h
    have := Sum.inl.inj h
    rw [← this]
    exact ⟨by simp, by simp, rfl⟩
theorem pSgn_r {T : Nat → Nat} {N : Nat} {k r : PT} (h : pSgn T N k = .inr r) : k.2.2 = 3 ∧ r = tkA T N k.2.1 := by
  unfold pSgn at h
  by_cases h1 : k.2.2 = 3
  · rw [if_pos h1] at h
    exact ⟨h1, (Sum.inr.inj h).symm⟩
  · rw [if_neg h1] at h; cases h
theorem pAct_r {T : Nat → Nat} {N nc kd : Nat} {k : PT} {r : (Nat × Nat) × PT} (hk : TkOK T N k) (h : pAct T N nc kd k = .inr r) : (kd = 7 → r.1.1 ≤ 30) ∧ (kd ≠ 7 → r.1.1 < nc) ∧ (kd < 7 → 1 ≤ r.1.2 ∧ r.1.2 ≤ 20) ∧ TkOK T N r.2 := by
  unfold pAct at h
  cases h1 : pNum T N (if kd = 7 then rgB 1 31 else rgB 0 nc) k with
  | inl e => rw [h1] at h; cases h
  | inr q =>
    rw [h1] at h
    simp only [] at h
    obtain ⟨a1, a2, a3, a4⟩ := pNum_r h1
    have hq : TkOK T N q.2 := by rw [a3]; exact tk_ok hk.2.1
    have b1 : (kd = 7 → q.1 ≤ 30) ∧ (kd ≠ 7 → q.1 < nc) := by
      by_cases h7 : kd = 7
      · rw [if_pos h7, rg_i] at a1
        exact ⟨fun _ => by omega, fun hq => absurd h7 hq⟩
      · rw [if_neg h7, rg_i] at a1
        exact ⟨fun hq => absurd hq h7, fun _ => by omega⟩
    by_cases h7 : kd < 7
    · rw [if_pos h7] at h
      cases h2 : pNum T N (rgB 1 21) q.2 with
      | inl e => rw [h2] at h; cases h
      | inr w =>
        rw [h2] at h
        have := Sum.inr.inj h
        rw [← this]
        obtain ⟨c1, c2, c3, c4⟩ := pNum_r h2
        rw [rg_i] at c1
        refine ⟨b1.1, b1.2, fun _ => ⟨by simp only []; omega, by simp only []; omega⟩, ?_⟩
        simp only []
        rw [c3]; exact tk_ok hq.2.1
    · rw [if_neg h7] at h
      have := Sum.inr.inj h
      rw [← this]
      exact ⟨b1.1, b1.2, fun hh => absurd hh h7, hq⟩
theorem pTake_r {T : Nat → Nat} {N nc sm kd : Nat} {L : List AC} {E : List Nat} {k : PT} {r : List AC × PT} (hk : TkOK T N k) (hkd : kd < 10) (hsm : sm = E.length) (hg : GdA nc L) (hs : SgA L E) (h : pTake T N nc L sm kd k = .inr r) : r.1.length = L.length + 1 ∧ L.length < 40 ∧ TkOK T N r.2 ∧ GdA nc r.1 ∧ SgA r.1 E := by
  unfold pTake at h
  by_cases h40 : 40 ≤ L.length
  · rw [if_pos h40] at h; cases h
  · rw [if_neg h40] at h
    cases h1 : pAct T N nc kd (tkA T N k.2.1) with
    | inl e => rw [h1] at h; cases h
    | inr q =>
      rw [h1] at h
      have h2 := Sum.inr.inj h
      obtain ⟨a1, a2, a3, a4⟩ := pAct_r (tk_ok hk.2.1) h1
      rw [← h2]
      refine ⟨by simp, by omega, a4, fun a ha => ?_, ?_⟩
      · simp only [getD_app]
        by_cases hal : a = L.length
        · simp only [if_pos hal]
          exact ⟨hkd, a1, a2, a3⟩
        · simp only [if_neg hal]
          simp at ha
          exact hg a (by omega)
      · obtain ⟨s1, s2, s3⟩ := hs
        refine ⟨fun s hsl => ?_, by simp; omega, fun a h3 h4 => ?_⟩
        · obtain ⟨t1, t2, t3⟩ := s1 s hsl
          refine ⟨t1, by simp; omega, fun a h3 h4 => ?_⟩
          rw [getD_app, if_neg (by omega)]
          exact t3 a h3 h4
        · rw [getD_app]
          by_cases hal : a = L.length
          · rw [if_pos hal]; exact hsm
          · rw [if_neg hal]
            simp at h4
            exact s3 a h3 (by omega)
theorem pActs_r {T : Nat → Nat} {N nc sm : Nat} {E : List Nat} (hsm : sm = E.length) : ∀ (n : Nat) (L : List AC) (k : PT) (r : List AC × PT), TkOK T N k → L.length ≤ 40 → GdA nc L → SgA L E → pActs T N nc sm n L k = .inr r → r.1.length ≤ 40 ∧ TkOK T N r.2 ∧ GdA nc r.1 ∧ SgA r.1 E
  | 0, L, k, r, _, _, _, _, h => by rw [pActs] at h; cases h
  | n + 1, L, k, r, hk, hl, hg, hs, h => by
    rw [pActs] at h
    cases h1 : akA T k with
    | none =>
      rw [h1] at h
      have := Sum.inr.inj h
      rw [← this]
      exact ⟨hl, hk, hg, hs⟩
    | some kd =>
      rw [h1] at h
      simp only [] at h
      have hkd : kd < 10 := by
        have := ak_lt 10 0 h1
        omega
      cases h2 : pTake T N nc L sm kd k with
      | inl e => rw [h2] at h; cases h
      | inr q =>
        rw [h2] at h
        simp only [] at h
        obtain ⟨a1, a2, a3, a4, a5⟩ := pTake_r hk hkd hsm hg hs h2
        exact pActs_r hsm n q.1 q.2 r a3 (by omega) a4 a5 h
theorem pSeam_r {T : Nat → Nat} {N nc : Nat} {L : List AC} {E : List Nat} {k : PT} {r : (List AC × List Nat) × PT} (hk : TkOK T N k) (hl : L.length ≤ 40) (hg : GdA nc L) (hs : SgA L E) (hE : eE E E.length = L.length) (h : pSeam T N nc L E k = .inr r) : r.1.1.length ≤ 40 ∧ r.1.2.length = E.length + 1 ∧ E.length < 6 ∧ TkOK T N r.2 ∧ GdA nc r.1.1 ∧ SgA r.1.1 r.1.2 ∧ eE r.1.2 r.1.2.length = r.1.1.length := by
  unfold pSeam at h
  by_cases h6 : 6 ≤ E.length
  · rw [if_pos h6] at h; cases h
  · rw [if_neg h6] at h
    cases h1 : pActs T N nc E.length 41 L (tkA T N k.2.1) with
    | inl e => rw [h1] at h; cases h
    | inr q =>
      rw [h1] at h
      simp only [] at h
      obtain ⟨a1, a2, a3, a4⟩ := pActs_r rfl 41 L _ q (tk_ok hk.2.1) hl hg hs h1
      cases h2 : pSgn T N q.2 with
      | inl e => rw [h2] at h; cases h
      | inr w =>
        rw [h2] at h
        have h3 := Sum.inr.inj h
        rw [← h3]
        obtain ⟨c1, c2⟩ := pSgn_r h2
        obtain ⟨s1, s2, s3⟩ := a4
        have e1 : ∀ s, s ≤ E.length → eE (E ++ [q.1.length]) s = eE E s := fun s hs => by
          unfold eE
          by_cases h0 : s = 0
          · rw [if_pos h0, if_pos h0]
          · rw [if_neg h0, if_neg h0, getD_app, if_neg (by omega)]
        have e2 : eE (E ++ [q.1.length]) (E.length + 1) = q.1.length := by
          unfold eE
          rw [if_neg (by omega), getD_app, if_pos (by omega)]
        refine ⟨a1, by simp, by omega, by simp only []; rw [c2]; exact tk_ok a2.2.1, a3, ⟨fun s hsl => ?_, ?_, fun a h4 h5 => ?_⟩, ?_⟩
        · simp only [List.length_append, List.length_cons, List.length_nil] at hsl
          by_cases hse : s = E.length
          · rw [hse, e1 E.length (Nat.le_refl _), e2]
            exact ⟨s2, Nat.le_refl _, fun a h4 h5 => s3 a h4 h5⟩
          · rw [e1 s (by omega), e1 (s + 1) (by omega)]
            exact s1 s (by omega)
        · simp only [List.length_append, List.length_cons, List.length_nil]
          rw [e2]; exact Nat.le_refl _
        · simp only [List.length_append, List.length_cons, List.length_nil] at h4 h5
          rw [e2] at h4
          omega
        · simp only [List.length_append, List.length_cons, List.length_nil]
          exact e2
theorem pSeams_r {T : Nat → Nat} {N nc : Nat} : ∀ (n : Nat) (LE : List AC × List Nat) (k : PT) (r : (List AC × List Nat) × PT), TkOK T N k → LE.1.length ≤ 40 → LE.2.length ≤ 6 → GdA nc LE.1 → SgA LE.1 LE.2 → eE LE.2 LE.2.length = LE.1.length → pSeams T N nc n LE k = .inr r → r.1.1.length ≤ 40 ∧ r.1.2.length ≤ 6 ∧ TkOK T N r.2 ∧ GdA nc r.1.1 ∧ SgA r.1.1 r.1.2 ∧ eE r.1.2 r.1.2.length = r.1.1.length
  | 0, LE, k, r, _, _, _, _, _, _, h => by rw [pSeams] at h; cases h
  | n + 1, LE, k, r, hk, hl, h6, hg, hs, hE, h => by
    rw [pSeams] at h
    by_cases hw : wsB T k 11 = true
    · rw [if_pos hw] at h
      cases h2 : pSeam T N nc LE.1 LE.2 k with
      | inl e => rw [h2] at h; cases h
      | inr q =>
        rw [h2] at h
        simp only [] at h
        obtain ⟨a1, a2, a3, a4, a5, a6, a7⟩ := pSeam_r hk hl hg hs hE h2
        exact pSeams_r n q.1 q.2 r a4 a1 (by omega) a5 a6 a7 h
    · rw [if_neg hw] at h
      have := Sum.inr.inj h
      rw [← this]
      exact ⟨hl, h6, hk, hg, hs, hE⟩
def BfA (ns : Nat) (B : List (Nat × Nat)) : Prop := ∀ b, b < B.length → (B.getD b (0, 0)).1 < ns ∧ (B.getD b (0, 0)).2 < ns ∧ (B.getD b (0, 0)).1 ≠ (B.getD b (0, 0)).2
theorem pBef_r {T : Nat → Nat} {N ns : Nat} {B : List (Nat × Nat)} {k : PT} {r : List (Nat × Nat) × PT} (hk : TkOK T N k) (hb : BfA ns B) (h : pBef T N ns B k = .inr r) : r.1.length = B.length + 1 ∧ B.length < 10 ∧ TkOK T N r.2 ∧ BfA ns r.1 := by
  unfold pBef at h
  by_cases h10 : 10 ≤ B.length
  · rw [if_pos h10] at h; cases h
  · rw [if_neg h10] at h
    cases h1 : pNum T N (rgB 0 ns) (tkA T N k.2.1) with
    | inl e => rw [h1] at h; cases h
    | inr q =>
      rw [h1] at h
      simp only [] at h
      obtain ⟨a1, a2, a3, a4⟩ := pNum_r h1
      have hq : TkOK T N q.2 := by rw [a3]; exact tk_ok (tk_ok hk.2.1).2.1
      cases h2 : pNum T N (neB ns q.1) q.2 with
      | inl e => rw [h2] at h; cases h
      | inr w =>
        rw [h2] at h
        simp only [] at h
        obtain ⟨b1, b2, b3, b4⟩ := pNum_r h2
        have hw : TkOK T N w.2 := by rw [b3]; exact tk_ok hq.2.1
        cases h3 : pSgn T N w.2 with
        | inl e => rw [h3] at h; cases h
        | inr v =>
          rw [h3] at h
          have h4 := Sum.inr.inj h
          rw [← h4]
          obtain ⟨c1, c2⟩ := pSgn_r h3
          rw [rg_i] at a1
          rw [ne_i] at b1
          refine ⟨by simp, by omega, by simp only []; rw [c2]; exact tk_ok hw.2.1, fun b hb2 => ?_⟩
          simp only [getD_app]
          by_cases hbl : b = B.length
          · simp only [if_pos hbl]
            exact ⟨by omega, by omega, fun hq => b1.2 hq.symm⟩
          · simp only [if_neg hbl]
            simp at hb2
            exact hb b (by omega)
theorem pBefs_r {T : Nat → Nat} {N ns : Nat} : ∀ (n : Nat) (B : List (Nat × Nat)) (k : PT) (r : List (Nat × Nat) × PT), TkOK T N k → B.length ≤ 10 → BfA ns B → pBefs T N ns n B k = .inr r → r.1.length ≤ 10 ∧ TkOK T N r.2 ∧ BfA ns r.1
  | 0, B, k, r, _, _, _, h => by rw [pBefs] at h; cases h
  | n + 1, B, k, r, hk, hl, hb, h => by
    rw [pBefs] at h
    by_cases hw : wsB T k 12 = true
    · rw [if_pos hw] at h
      cases h2 : pBef T N ns B k with
      | inl e => rw [h2] at h; cases h
      | inr q =>
        rw [h2] at h
        simp only [] at h
        obtain ⟨a1, a2, a3, a4⟩ := pBef_r hk hb h2
        exact pBefs_r n q.1 q.2 r a3 (by omega) a4 h
    · rw [if_neg hw] at h
      have := Sum.inr.inj h
      rw [← this]
      exact ⟨hl, hk, hb⟩
end
section
/-! ===== the program reads a plan ===== -/
def ndL (B : List (Nat × Nat)) (s : Nat) : Nat := B.foldl (fun m q => if q.2 = s then m ||| 2 ^ q.1 else m) 0
def CPl (μ : MT) (d nc : Nat) (L : List AC) (E : List Nat) (B : List (Nat × Nat)) : Prop :=
  (μ d 0 = nI nc ∧ μ d 1 = nI E.length ∧ μ d 2 = nI L.length ∧ μ d 3 = nI B.length) ∧
  (∀ a, a < L.length → μ (d + 1) a = nI (L.getD a aZ).1 ∧ μ (d + 2) a = nI (L.getD a aZ).2.1 ∧ μ (d + 3) a = nI (L.getD a aZ).2.2.1 ∧ μ (d + 4) a = nI (L.getD a aZ).2.2.2) ∧
  (∀ s, s < E.length → μ (d + 5) s = nI (E.getD s 0)) ∧ (∀ s, s < 6 → μ (d + 6) s = nI (ndL B s))
def FrD (d : Nat) (μ ν : MT) : Prop := (∀ q, q ≠ 13 → q ≠ 15 → q < d ∨ d + 6 < q → ν q = μ q) ∧ ν 13 1 = μ 13 1
theorem FrD.refl (d : Nat) (μ : MT) : FrD d μ μ := ⟨fun _ _ _ _ => rfl, rfl⟩
theorem FrD.trans {d : Nat} {μ ν ω : MT} (h : FrD d μ ν) (h2 : FrD d ν ω) : FrD d μ ω := ⟨fun q a b c => (h2.1 q a b c).trans (h.1 q a b c), h2.2.trans h.2⟩
theorem FrD.of {d : Nat} {μ ν : MT} (h : Fr13 μ ν) : FrD d μ ν := ⟨fun q a _ _ => h.1 q a, h.2⟩
theorem FrD.tx {d : Nat} {μ ν : MT} {T : Nat → Nat} {N : Nat} (hd : isPl d) (h : FrD d μ ν) (g : TxI μ T N) : TxI ν T N := by
  have := isPl_le hd
  exact ⟨g.1, by rw [h.2]; exact g.2.1, fun j hj => by rw [h.1 14 (by omega) (by omega) (by omega)]; exact g.2.2 j hj⟩
/-- token level: rows 13 and 15 -/
def FrE (μ ν : MT) : Prop := (∀ q, q ≠ 13 → q ≠ 15 → ν q = μ q) ∧ ν 13 1 = μ 13 1
theorem FrE.refl (μ : MT) : FrE μ μ := ⟨fun _ _ _ => rfl, rfl⟩
theorem FrE.of {μ ν : MT} (h : Fr13 μ ν) : FrE μ ν := ⟨fun q a _ => h.1 q a, h.2⟩
theorem FrE.trans {μ ν ω : MT} (h : FrE μ ν) (h2 : FrE ν ω) : FrE μ ω := ⟨fun q a b => (h2.1 q a b).trans (h.1 q a b), h2.2.trans h.2⟩
theorem FrE.tx {μ ν : MT} {T : Nat → Nat} {N : Nat} (h : FrE μ ν) (g : TxI μ T N) : TxI ν T N := ⟨g.1, by rw [h.2]; exact g.2.1, fun j hj => by rw [h.1 14 (by omega) (by omega)]; exact g.2.2 j hj⟩
theorem FrE.d {d : Nat} {μ ν : MT} (h : FrE μ ν) : FrD d μ ν := ⟨fun q a b _ => h.1 q a b, h.2⟩
theorem CPl.fr {μ ν : MT} {d nc : Nat} {L : List AC} {E : List Nat} {B : List (Nat × Nat)} (hd : isPl d) (h : FrE μ ν) (g : CPl μ d nc L E B) : CPl ν d nc L E B := by
  have := isPl_le hd
  unfold CPl
  rw [h.1 d (by omega) (by omega), h.1 (d + 1) (by omega) (by omega), h.1 (d + 2) (by omega) (by omega), h.1 (d + 3) (by omega) (by omega), h.1 (d + 4) (by omega) (by omega), h.1 (d + 5) (by omega) (by omega), h.1 (d + 6) (by omega) (by omega)]
  exact g
/-- an answer: a fault with its place, or what was read -/
def CRs {α : Type} (T : Nat → Nat) (N : Nat) (q : Int32 × MT) (o : (Nat × Nat) ⊕ α) (QF : MT → Prop) (Q : α → MT → Prop) : Prop :=
  match o with
  | .inl e => q.1 = nI e.1 ∧ 1 ≤ e.1 ∧ e.1 ≤ 3 ∧ q.2 13 2 = nI e.2 ∧ (∃ k, CtI q.2 k ∧ TkOK T N k) ∧ QF q.2
  | .inr x => q.1 = 0 ∧ Q x q.2
theorem p_tNum {μ : MT} {T : Nat → Nat} {N : Nat} {k : PT} {a b : Int32} {P : Nat → Bool} (h : TxI μ T N) (hk : CtI μ k) (hok : TkOK T N k) (hP : ∀ v, v ≤ 99 → (P v = true ↔ (¬ nI v < a ∧ nI v ≤ b))) :
    Ok (m_X4_takeNumber Zc 15 a b μ) (fun q => FrE μ q.2 ∧ CRs T N q (pNum T N P k) (fun _ => True) (fun r ν => CtI ν r.2 ∧ ν 15 1 = nI r.1)) := by
  have o3 := hok.2.2.1
  unfold m_X4_takeNumber m_X7_atNumber pNum CRs
  simp only [zA]
  rw [hk.2.2]
  by_cases hs : k.2.2 = 2
  · have hnv := nv_le hok hs
    rw [if_pos (by rw [hs]; rfl), ob_s, if_neg (by decide), p_numH h hk hok hs, ob_s, ob_s, if_pos hs]
    generalize nvA T k = v at hnv ⊢
    have hPv := hP v hnv
    have e1 : u2 μ 15 1 (nI v) 15 1 = nI v := by rw [u2_r, if_pos ⟨rfl, rfl⟩]
    have f13 : u2 μ 15 1 (nI v) 13 = μ 13 := by rw [u2_w, if_neg (by omega)]
    have hfr : FrE μ (u2 μ 15 1 (nI v)) := ⟨fun q a b => by rw [u2_w, if_neg b], by rw [f13]⟩
    rw [e1]
    have hk2 : CtI (u2 μ 15 1 (nI v)) k := by unfold CtI; rw [f13]; exact hk
    by_cases hp : P v = true
    · obtain ⟨q1, q2⟩ := hPv.mp hp
      rw [if_pos hp, if_neg q1, if_pos q2]
      refine ok_b (p_toNext (hfr.tx h) hok.2.1 (by rw [f13]; exact hk.2.1)) ?_
      rintro ν ⟨g1, g2⟩
      exact ok_s ⟨hfr.trans (FrE.of g2), rfl, g1, by show ν 15 1 = _; rw [g2.1 15 (by omega)]; exact e1⟩
    · rw [if_neg hp]
      have hfault : Ok (some ((2 : Int32), u2 μ 15 1 (nI v))) (fun q => FrE μ q.2 ∧ (q.1 = nI 2 ∧ 1 ≤ 2 ∧ 2 ≤ 3 ∧ q.2 13 2 = nI k.1 ∧ (∃ k, CtI q.2 k ∧ TkOK T N k) ∧ True)) := ok_s ⟨hfr, rfl, by omega, by omega, hk2.1, ⟨k, hk2, hok⟩, trivial⟩
      by_cases q1 : nI v < a
      · rw [if_pos q1]; exact hfault
      · rw [if_neg q1]
        have q2 : ¬ nI v ≤ b := fun hq => hp (hPv.mpr ⟨q1, hq⟩)
        rw [if_neg q2]; exact hfault
  · rw [if_neg (by rw [x_eql (by omega) (by omega)]; exact hs), ob_s, if_pos rfl, if_neg hs]
    exact ok_s ⟨FrE.refl μ, rfl, by simp, by simp, hk.1, ⟨k, hk, hok⟩, trivial⟩
theorem p_tSgn {μ : MT} {T : Nat → Nat} {N : Nat} {k : PT} (h : TxI μ T N) (hk : CtI μ k) (hok : TkOK T N k) :
    Ok (m_X4_takeSign Zc 15 μ) (fun q => FrE μ q.2 ∧ CRs T N q (pSgn T N k) (fun _ => True) (fun r ν => CtI ν r)) := by
  have o3 := hok.2.2.1
  unfold m_X4_takeSign m_X7_atSign pSgn CRs
  simp only [zA]
  rw [hk.2.2]
  by_cases hs : k.2.2 = 3
  · rw [if_pos (by rw [hs]; rfl), ob_s, if_neg (by decide), if_pos hs]
    refine ok_b (p_toNext h hok.2.1 hk.2.1) ?_
    rintro ν ⟨g1, g2⟩
    exact ok_s ⟨FrE.of g2, rfl, g1⟩
  · rw [if_neg (by rw [x_eql (by omega) (by omega)]; exact hs), ob_s, if_pos rfl, if_neg hs]
    exact ok_s ⟨FrE.refl μ, rfl, by simp, by simp, hk.1, ⟨k, hk, hok⟩, trivial⟩
theorem rg_P {lo hi : Nat} {a b : Int32} (ha : a = nI lo) (hl : lo < 1000) (hh : hi < 1000) (hb : b = nI hi - 1) : ∀ v, v ≤ 99 → (rgB lo hi v = true ↔ (¬ nI v < a ∧ nI v ≤ b)) := fun v hv => by
  rw [rg_i, ha, hb, x_lt (by omega) (by omega), fa_le, ti_n (by omega), ti_n1 (by omega)]
  omega
/-! adding to the draft -/
theorem as_p {μ : MT} {p i j : Nat} {v : Int32} (hp : isPl p) (hj : 1 ≤ j) (hj2 : j ≤ 4) (hi : i < 40) : ast Zc μ (p + j) (nI i) v = some (u2 μ (p + j) i v) := by
  obtain ⟨l1, l2, l3, l4, l5, l6⟩ := zql hp
  rcases (by omega : j = 1 ∨ j = 2 ∨ j = 3 ∨ j = 4) with rfl | rfl | rfl | rfl
  · exact ast_n l1 hi (by omega)
  · exact ast_n l2 hi (by omega)
  · exact ast_n l3 hi (by omega)
  · exact ast_n l4 hi (by omega)
theorem as_p5 {μ : MT} {p i j : Nat} {v : Int32} (hp : isPl p) (hj : 5 ≤ j) (hj2 : j ≤ 6) (hi : i < 6) : ast Zc μ (p + j) (nI i) v = some (u2 μ (p + j) i v) := by
  obtain ⟨l1, l2, l3, l4, l5, l6⟩ := zql hp
  rcases (by omega : j = 5 ∨ j = 6) with rfl | rfl
  · exact ast_n l5 hi (by omega)
  · exact ast_n l6 hi (by omega)
theorem FrD.w {d : Nat} {μ ν : MT} (h : FrD d μ ν) (hd : isPl d) {k j : Nat} {v : Int32} (hk : d ≤ k ∧ k ≤ d + 6) : FrD d μ (u2 ν k j v) := by
  have := isPl_le hd
  exact ⟨fun q a b c => by rw [u2_w, if_neg (by omega)]; exact h.1 q a b c, by rw [u2_r, if_neg (by omega)]; exact h.2⟩
theorem p_addAct {μ : MT} {d nc kd pl st : Nat} {L : List AC} {E : List Nat} {B : List (Nat × Nat)} (hd : isPl d) (hc : CPl μ d nc L E B) (hl : L.length < 40) : Ok (m_X3_addAct Zc d (nI kd) (nI pl) (nI st) μ) (fun ν => CPl ν d nc (L ++ [(kd, pl, st, E.length)]) E B ∧ FrD d μ ν ∧ ν 13 = μ 13) := by
  have hdl := isPl_le hd
  obtain ⟨⟨c0, c1, c2, c3⟩, c4, c5, c6⟩ := hc
  unfold m_X3_addAct
  rw [c2, if_neg (by rw [x_lle (by omega) (by omega)]; omega), zq_4 hd, zq_5 hd, zq_6 hd, zq_7 hd, as_p hd (by omega) (by omega) hl, ob_s]
  have e2 : u2 μ (d + 1) L.length (nI kd) d 2 = nI L.length := by rw [u2_r, if_neg (by omega)]; exact c2
  rw [e2, as_p hd (by omega) (by omega) hl, ob_s]
  have e3 : u2 (u2 μ (d + 1) L.length (nI kd)) (d + 2) L.length (nI pl) d 2 = nI L.length := by rw [u2_r, if_neg (by omega)]; exact e2
  rw [e3, as_p hd (by omega) (by omega) hl, ob_s]
  have e4 : u2 (u2 (u2 μ (d + 1) L.length (nI kd)) (d + 2) L.length (nI pl)) (d + 3) L.length (nI st) d = μ d := by rw [u2_w, if_neg (by omega), u2_w, if_neg (by omega), u2_w, if_neg (by omega)]
  rw [e4, c2, c1, as_p hd (by omega) (by omega) hl, ob_s]
  have e5 : u2 (u2 (u2 (u2 μ (d + 1) L.length (nI kd)) (d + 2) L.length (nI pl)) (d + 3) L.length (nI st)) (d + 4) L.length (nI E.length) d = μ d := by rw [u2_w, if_neg (by omega)]; exact e4
  rw [e5, c2, n1, ob_s]
  refine ok_s ⟨⟨⟨?_, ?_, ?_, ?_⟩, fun a ha => ?_, fun s hs => ?_, fun s hs => ?_⟩, (((((FrD.refl d μ).w hd (by omega)).w hd (by omega)).w hd (by omega)).w hd (by omega)).w hd (by omega), ?_⟩
  · rw [u2_r, if_neg (by omega), e5]; exact c0
  · rw [u2_r, if_neg (by omega), e5]; exact c1
  · rw [u2_r, if_pos ⟨rfl, rfl⟩]; simp
  · rw [u2_r, if_neg (by omega), e5]; exact c3
  · rw [getD_app]
    by_cases hal : a = L.length
    · subst hal
      rw [if_pos rfl]
      refine ⟨?_, ?_, ?_, ?_⟩ <;> simp [u2_r]
    · rw [if_neg hal]
      have ha2 : a < L.length := by simp at ha; omega
      obtain ⟨d1, d2, d3, d4⟩ := c4 a ha2
      refine ⟨?_, ?_, ?_, ?_⟩ <;> simp [u2_r, hal, d1, d2, d3, d4]
  · have := c5 s hs
    simp [u2_r, this]
  · have := c6 s hs
    simp [u2_r, this]
  · rw [u2_w, if_neg (by omega), u2_w, if_neg (by omega), u2_w, if_neg (by omega), u2_w, if_neg (by omega), u2_w, if_neg (by omega)]
theorem p_endSeam {μ : MT} {d nc : Nat} {L : List AC} {E : List Nat} {B : List (Nat × Nat)} (hd : isPl d) (hc : CPl μ d nc L E B) (hl : E.length < 6) : Ok (m_X3_endSeam Zc d μ) (fun ν => CPl ν d nc L (E ++ [L.length]) B ∧ FrD d μ ν ∧ ν 13 = μ 13) := by
  have hdl := isPl_le hd
  obtain ⟨⟨c0, c1, c2, c3⟩, c4, c5, c6⟩ := hc
  unfold m_X3_endSeam
  rw [c1, if_neg (by rw [x_lle (by omega) (by omega)]; omega), zq_8 hd, c2, as_p5 hd (by omega) (by omega) hl, ob_s]
  have e5 : u2 μ (d + 5) E.length (nI L.length) d = μ d := by rw [u2_w, if_neg (by omega)]
  rw [e5, c1, n1, ob_s]
  refine ok_s ⟨⟨⟨?_, ?_, ?_, ?_⟩, fun a ha => ?_, fun s hs => ?_, fun s hs => ?_⟩, ((FrD.refl d μ).w hd (by omega)).w hd (by omega), ?_⟩
  · rw [u2_r, if_neg (by omega), e5]; exact c0
  · rw [u2_r, if_pos ⟨rfl, rfl⟩]; simp
  · rw [u2_r, if_neg (by omega), e5]; exact c2
  · rw [u2_r, if_neg (by omega), e5]; exact c3
  · obtain ⟨d1, d2, d3, d4⟩ := c4 a ha
    refine ⟨?_, ?_, ?_, ?_⟩ <;> simp [u2_r, d1, d2, d3, d4]
  · rw [getD_app]
    by_cases hse : s = E.length
    · subst hse
      rw [if_pos rfl]
      simp [u2_r]
    · rw [if_neg hse]
      have := c5 s (by simp at hs; omega)
      simp [u2_r, hse, this]
  · have := c6 s hs
    simp [u2_r, this]
  · rw [u2_w, if_neg (by omega), u2_w, if_neg (by omega)]
theorem ndL_s {B : List (Nat × Nat)} {x : Nat × Nat} {s : Nat} : ndL (B ++ [x]) s = if x.2 = s then ndL B s ||| 2 ^ x.1 else ndL B s := by
  unfold ndL
  rw [List.foldl_append]
  rfl
theorem p_addBef {μ : MT} {d nc f l : Nat} {L : List AC} {E : List Nat} {B : List (Nat × Nat)} (hd : isPl d) (hc : CPl μ d nc L E B) (hE : E.length ≤ 6) (hf : f < E.length) (hl : l < E.length) (hB : B.length < 100) : Ok (m_X3_addBefore Zc d (nI f) (nI l) μ) (fun ν => CPl ν d nc L E (B ++ [(f, l)]) ∧ FrD d μ ν ∧ ν 13 = μ 13) := by
  have hdl := isPl_le hd
  obtain ⟨⟨c0, c1, c2, c3⟩, c4, c5, c6⟩ := hc
  unfold m_X3_addBefore
  rw [q_hasSeam c1 (by omega), ob_s, bI_t (by rw [ti_n (by omega)]; omega), if_neg (by decide), q_hasSeam c1 (by omega), ob_s, bI_t (by rw [ti_n (by omega)]; omega), if_neg (by decide), zq_9 hd, al_p5 hd (by omega) (by omega) (by omega), ob_s, as_p5 hd (by omega) (by omega) (by omega), ob_s, c6 l (by omega), or_n (by omega)]
  have e5 : u2 μ (d + 6) l (nI (ndL B l ||| 2 ^ f)) d = μ d := by rw [u2_w, if_neg (by omega)]
  rw [e5, c3, n1, ob_s]
  refine ok_s ⟨⟨⟨?_, ?_, ?_, ?_⟩, fun a ha => ?_, fun s hs => ?_, fun s hs => ?_⟩, ((FrD.refl d μ).w hd (by omega)).w hd (by omega), ?_⟩
  · rw [u2_r, if_neg (by omega), e5]; exact c0
  · rw [u2_r, if_neg (by omega), e5]; exact c1
  · rw [u2_r, if_neg (by omega), e5]; exact c2
  · rw [u2_r, if_pos ⟨rfl, rfl⟩]; simp
  · obtain ⟨d1, d2, d3, d4⟩ := c4 a ha
    refine ⟨?_, ?_, ?_, ?_⟩ <;> simp [u2_r, d1, d2, d3, d4]
  · have := c5 s hs
    simp [u2_r, this]
  · have := c6 s hs
    rw [ndL_s, u2_r, if_neg (by omega), u2_r]
    by_cases hsl : s = l
    · rw [if_pos ⟨rfl, hsl⟩, if_pos hsl.symm, hsl]
    · rw [if_neg (fun hq => hsl hq.2), if_neg (fun hq => hsl hq.symm)]; exact this
  · rw [u2_w, if_neg (by omega), u2_w, if_neg (by omega)]
end
section
/-! ===== the program's parts of a plan ===== -/
theorem ct_13 {μ ν : MT} {k : PT} (h : ν 13 = μ 13) (g : CtI μ k) : CtI ν k := by
  unfold CtI
  rw [h]; exact g
theorem p_tAct {μ : MT} {T : Nat → Nat} {N d nc kd : Nat} {L : List AC} {E : List Nat} {B : List (Nat × Nat)} {k : PT} (hd : isPl d) (h : TxI μ T N) (hk : CtI μ k) (hok : TkOK T N k) (hc : CPl μ d nc L E B) (hkd : kd < 10) (hl : L.length ≤ 40) (hnc : nc ≤ 12) :
    Ok (m_X4_takeAct Zc 15 d (nI kd) μ) (fun q => FrD d μ q.2 ∧ CRs T N q (pTake T N nc L E.length kd k) (fun ν => CPl ν d nc L E B) (fun r ν => CtI ν r.2 ∧ CPl ν d nc r.1 E B)) := by
  have hdl := isPl_le hd
  unfold m_X4_takeAct pTake
  simp only [zA]
  rw [hc.1.2.2.1]
  by_cases h40 : 40 ≤ L.length
  · rw [if_neg (by rw [x_ltl (by omega) (by omega)]; omega), if_pos h40]
    exact ok_s ⟨FrD.refl d μ, rfl, by simp, by simp, hk.1, ⟨k, hk, hok⟩, hc⟩
  · rw [if_pos (by rw [x_ltl (by omega) (by omega)]; omega), if_neg h40]
    refine ok_b (p_toNext h hok.2.1 hk.2.1) ?_
    rintro ν2 ⟨g1, g2⟩
    have fE2 : FrE μ ν2 := FrE.of g2
    have h2 := fE2.tx h
    have hc2 := hc.fr hd fE2
    have hok1 : TkOK T N (tkA T N k.2.1) := tk_ok hok.2.1
    generalize tkA T N k.2.1 = k1 at g1 hok1 ⊢
    have hn1 : Ok (if nI kd = (7 : Int32) then (m_X4_takeNumber Zc 15 1 30 ν2).bind fun (r19, ν20) => some (r19, ν20) else (m_X4_takeNumber Zc 15 0 ((ν2 d 0) - 1) ν2).bind fun (r17, ν18) => some (r17, ν18)) (fun q => FrE ν2 q.2 ∧ CRs T N q (pNum T N (if kd = 7 then rgB 1 31 else rgB 0 nc) k1) (fun _ => True) (fun r ν => CtI ν r.2 ∧ ν 15 1 = nI r.1)) := by
      by_cases h7 : kd = 7
      · rw [if_pos (by rw [h7]; rfl), if_pos h7]
        refine ok_b (p_tNum (a := 1) (b := 30) (P := rgB 1 31) h2 g1 hok1 (rg_P (lo := 1) (hi := 31) rfl (by omega) (by omega) (by decide))) ?_
        rintro ⟨r, ν⟩ hq
        exact ok_s hq
      · rw [if_neg (by rw [x_eql (by omega) (by omega)]; exact h7), if_neg h7]
        refine ok_b (p_tNum (P := rgB 0 nc) h2 g1 hok1 (rg_P (lo := 0) (hi := nc) rfl (by omega) (by omega) (by rw [hc2.1.1]))) ?_
        rintro ⟨r, ν⟩ hq
        exact ok_s hq
    refine ok_b hn1 ?_
    rintro ⟨r, ν4⟩ ⟨f4, q4⟩
    simp only [ob_s] at f4 q4 ⊢
    have fE4 := fE2.trans f4
    have h4 := f4.tx h2
    have hc4 := hc2.fr hd f4
    unfold pAct
    cases h1 : pNum T N (if kd = 7 then rgB 1 31 else rgB 0 nc) k1 with
    | inl e =>
      rw [h1] at q4
      obtain ⟨q1, q2, q3, q5, q6, q7⟩ := q4
      simp only at q1 q5 q6
      have hr : ¬ r = 0 := by rw [q1, x_eql (by omega) (by omega)]; omega
      rw [if_neg hr, ob_s]
      simp only []
      rw [if_neg hr]
      exact ok_s ⟨fE4.d, q1, q2, q3, q5, q6, hc4⟩
    | inr w =>
      rw [h1] at q4
      obtain ⟨q1, q2, q3⟩ := q4
      simp only at q1 q2 q3
      subst q1
      simp only []
      have hokw : TkOK T N w.2 := by rw [(pNum_r h1).2.2.1]; exact tk_ok hok1.2.1
      rw [q3, if_pos trivial]
      by_cases h7 : kd < 7
      · rw [if_neg (by rw [x_llt (by omega) (by omega)]; omega), if_pos h7]
        refine ok_b (R1 := fun q => FrD d μ q.2.2 ∧ CRs T N (q.1, q.2.2) (pNum T N (rgB 1 21) w.2) (fun ν => CPl ν d nc L E B) (fun r ν => CtI ν r.2 ∧ q.2.1 = nI r.1 ∧ CPl ν d nc L E B ∧ FrE ν4 ν)) ?_ ?_
        · refine ok_b (p_tNum (a := 1) (b := 20) (P := rgB 1 21) h4 q2 hokw (rg_P (lo := 1) (hi := 21) rfl (by omega) (by omega) (by decide))) ?_
          rintro ⟨r5, ν5⟩ ⟨f5, q5⟩
          simp only [ob_s] at f5 q5 ⊢
          refine ok_s ⟨(fE4.trans f5).d, ?_⟩
          cases h3 : pNum T N (rgB 1 21) w.2 with
          | inl e =>
            rw [h3] at q5
            obtain ⟨a1, a2, a3, a4, a5, a6⟩ := q5
            exact ⟨a1, a2, a3, a4, a5, hc4.fr hd f5⟩
          | inr v =>
            rw [h3] at q5
            obtain ⟨a1, a2, a3⟩ := q5
            exact ⟨a1, a2, a3, hc4.fr hd f5, f5⟩
        · rintro ⟨y8, y9, ν10⟩ ⟨f10, q10⟩
          simp only at f10 q10 ⊢
          cases h3 : pNum T N (rgB 1 21) w.2 with
          | inl e =>
            rw [h3] at q10
            obtain ⟨a1, a2, a3, a4, a5, a6⟩ := q10
            simp only at a1 a4 a5 a6
            have hr : ¬ y8 = 0 := by rw [a1, x_eql (by omega) (by omega)]; omega
            rw [if_neg hr]
            exact ok_s ⟨f10, a1, a2, a3, a4, a5, a6⟩
          | inr v =>
            rw [h3] at q10
            obtain ⟨a1, a2, a3, a4, a5⟩ := q10
            simp only at a1 a2 a3 a4
            subst a1
            rw [if_pos rfl, a3]
            refine ok_b (p_addAct (kd := kd) (pl := w.1) (st := v.1) hd a4 (by omega)) ?_
            rintro ν13 ⟨b1, b2, b3⟩
            exact ok_s ⟨f10.trans b2, rfl, ct_13 b3 a2, b1⟩
      · rw [if_pos (by rw [x_llt (by omega) (by omega)]; omega), if_neg h7, ob_s]
        simp only []
        rw [if_pos trivial]
        refine ok_b (p_addAct (kd := kd) (pl := w.1) (st := 0) hd hc4 (by omega)) ?_
        rintro ν13 ⟨b1, b2, b3⟩
        exact ok_s ⟨fE4.d.trans b2, rfl, ct_13 b3 q2, b1⟩
theorem p_tSeam {μ : MT} {T : Nat → Nat} {N d nc : Nat} {L : List AC} {E : List Nat} {B : List (Nat × Nat)} {k : PT} (hd : isPl d) (h : TxI μ T N) (hk : CtI μ k) (hok : TkOK T N k) (hc : CPl μ d nc L E B) (hl : L.length ≤ 40) (hE : E.length ≤ 6) (hnc : nc ≤ 12) (hg : GdA nc L) (hsg : SgA L E) :
    Ok (m_X4_takeSeam Zc 15 d μ) (fun q => FrD d μ q.2 ∧ CRs T N q (pSeam T N nc L E k) (fun _ => True) (fun r ν => CtI ν r.2 ∧ CPl ν d nc r.1.1 r.1.2 B)) := by
  have hdl := isPl_le hd
  unfold m_X4_takeSeam pSeam
  simp only [zA]
  rw [hc.1.2.1]
  by_cases h6 : 6 ≤ E.length
  · rw [if_neg (by rw [x_ltl (by omega) (by omega)]; omega), if_pos h6]
    exact ok_s ⟨FrD.refl d μ, rfl, by simp, by simp, hk.1, ⟨k, hk, hok⟩, trivial⟩
  · rw [if_pos (by rw [x_ltl (by omega) (by omega)]; omega), if_neg h6]
    refine ok_b (p_toNext h hok.2.1 hk.2.1) ?_
    rintro ν2 ⟨g1, g2⟩
    have fE2 : FrE μ ν2 := FrE.of g2
    have h2 := fE2.tx h
    have hc2 := hc.fr hd fE2
    have hok1 : TkOK T N (tkA T N k.2.1) := tk_ok hok.2.1
    generalize tkA T N k.2.1 = k1 at g1 hok1 ⊢
    rw [p_actHere h2 g1 hok1, ob_s]
    generalize hpa : pActs T N nc E.length 41 L k1 = tgt
    refine ok_l (fun m s => FrD d μ s.2.2.2 ∧ ((s.1 = 0 ∧ ∃ L' k', pActs T N nc E.length m L' k' = tgt ∧ 41 ≤ L'.length + m ∧ L'.length ≤ 40 ∧ (∃ c, s.2.2.1 = nI c ∧ c ≤ L'.length) ∧ s.2.1 = akI (akA T k') ∧ CtI s.2.2.2 k' ∧ TkOK T N k' ∧ CPl s.2.2.2 d nc L' E B ∧ GdA nc L' ∧ SgA L' E) ∨ (m = 0 ∧ ¬ s.1 = 0 ∧ ∃ e : Nat × Nat, tgt = .inl e ∧ s.1 = nI e.1 ∧ 1 ≤ e.1 ∧ e.1 ≤ 3 ∧ s.2.2.2 13 2 = nI e.2 ∧ (∃ k, CtI s.2.2.2 k ∧ TkOK T N k) ∧ ∃ L', CPl s.2.2.2 d nc L' E B))) 41 (by omega) ⟨fE2.d, Or.inl ⟨rfl, L, k1, hpa, by omega, hl, ⟨0, rfl, by omega⟩, rfl, g1, hok1, hc2, hg, hsg⟩⟩ ?_
    rintro m ⟨y5, y6, y7, ν8⟩ ⟨f8, hh⟩
    simp only at f8 hh ⊢
    rcases hh with ⟨rfl, L', k', a1, a2, a3, ⟨c, a4, a4'⟩, a5, a6, a7, a8, a9, a10⟩ | ⟨rfl, hne, e, b1, b2, b3, b4, b5, ⟨kx, b6, b6'⟩, L', b7⟩
    · subst a4 a5
      obtain ⟨n, rfl⟩ : ∃ n, m = n + 1 := ⟨m - 1, by omega⟩
      rw [pActs] at a1
      rw [if_neg (by rw [x_llt (by omega) (by omega)]; omega), if_pos rfl]
      cases hak : akA T k' with
      | none =>
        rw [hak] at a1
        simp only [] at a1
        rw [if_pos (show akI none = -1 from rfl)]
        refine ok_s (Or.inl ⟨_, rfl, ?_⟩)
        rw [← a1]
        simp only []
        refine ok_b (p_endSeam hd a8 (by omega)) ?_
        rintro ν15 ⟨e1, e2, e3⟩
        rw [if_pos trivial]
        have h15 : TxI ν15 T N := FrD.tx hd (f8.trans e2) h
        refine ok_b (p_tSgn h15 (ct_13 e3 a6) a7) ?_
        rintro ⟨r16, ν17⟩ ⟨f17, q17⟩
        refine ok_s ⟨(f8.trans e2).trans f17.d, ?_⟩
        cases hsn : pSgn T N k' with
        | inl e =>
          rw [hsn] at q17
          exact q17
        | inr v =>
          rw [hsn] at q17
          exact ⟨q17.1, q17.2, e1.fr hd f17⟩
      | some kd =>
        rw [hak] at a1
        simp only [] at a1
        have hkd : kd < 10 := by
          have := ak_lt 10 0 hak
          omega
        rw [if_neg (show ¬ akI (some kd) = -1 from m1n (by omega))]
        refine ok_b (p_tAct hd (FrD.tx hd f8 h) a6 a7 a8 hkd a3 hnc) ?_
        rintro ⟨r18, ν19⟩ ⟨f19, q19⟩
        simp only at f19 q19 ⊢
        have h19 : TxI ν19 T N := FrD.tx hd (f8.trans f19) h
        cases htk : pTake T N nc L' E.length kd k' with
        | inl e =>
          rw [htk] at q19 a1
          simp only [] at a1
          obtain ⟨b1, b2, b3, b4, ⟨kx, b5, b6⟩, b7⟩ := q19
          simp only at b1 b4 b5 b7
          rw [p_actHere h19 b5 b6, ob_s, n1]
          have hr : ¬ r18 = 0 := by rw [b1, x_eql (by omega) (by omega)]; omega
          exact ok_s (Or.inr ⟨_, 0, rfl, by omega, f8.trans f19, Or.inr ⟨rfl, hr, e, a1.symm, b1, b2, b3, b4, ⟨kx, b5, b6⟩, L', b7⟩⟩)
        | inr w =>
          rw [htk] at q19 a1
          simp only [] at a1
          obtain ⟨b1, b2, b3⟩ := q19
          simp only at b1 b2 b3
          obtain ⟨t1, t2, t3, t4, t5⟩ := pTake_r a7 hkd rfl a9 a10 htk
          rw [p_actHere h19 b2 t3, ob_s, n1]
          exact ok_s (Or.inr ⟨_, n, rfl, by omega, f8.trans f19, Or.inl ⟨b1, w.1, w.2, a1, by omega, by omega, ⟨c + 1, rfl, by omega⟩, rfl, b2, t3, b3, t4, t5⟩⟩)
    · have hend : Ok ((m_X3_endSeam Zc d ν8).bind fun ν15 => (if y5 = 0 then (m_X4_takeSign Zc 15 ν15).bind fun (r16, ν17) => some (r16, ν17) else some (y5, ν15))) (fun q => FrD d μ q.2 ∧ CRs T N q (match tgt with
          | .inl e => .inl e
          | .inr q => match pSgn T N q.2 with
            | .inl e => .inl e
            | .inr r => .inr ((q.1, E ++ [q.1.length]), r)) (fun _ => True) (fun r ν => CtI ν r.2 ∧ CPl ν d nc r.1.1 r.1.2 B)) := by
        refine ok_b (p_endSeam hd b7 (by omega)) ?_
        rintro ν15 ⟨e1, e2, e3⟩
        rw [if_neg hne, b1]
        exact ok_s ⟨f8.trans e2, b2, b3, b4, by show ν15 13 2 = _; rw [e3]; exact b5, ⟨kx, ct_13 e3 b6, b6'⟩, trivial⟩
      by_cases hy : 40 < y7
      · rw [if_pos hy]
        exact ok_s (Or.inl ⟨_, rfl, hend⟩)
      · rw [if_neg hy, if_neg hne]
        exact ok_s (Or.inl ⟨_, rfl, hend⟩)
theorem p_tPan {μ : MT} {T : Nat → Nat} {N d : Nat} {k : PT} (hd : isPl d) (h : TxI μ T N) (hk : CtI μ k) (hok : TkOK T N k) (hc : CPl μ d 0 [] [] []) :
    Ok (m_X4_takePanel Zc 15 d μ) (fun q => FrD d μ q.2 ∧ CRs T N q (pPan T N k) (fun _ => True) (fun r ν => CtI ν r.2 ∧ CPl ν d r.1 [] [] [])) := by
  have hdl := isPl_le hd
  unfold m_X4_takePanel pPan
  simp only [zA]
  have haw : m_X7_atWord Zc 13 10 μ = some (bI (wsB T k 10 = true)) := p_atWord (i := 10) h hk hok (by omega)
  rw [haw, ob_s]
  by_cases hw : wsB T k 10 = true
  · rw [bI_t hw, if_neg (by decide), if_pos hw]
    refine ok_b (p_toNext h hok.2.1 hk.2.1) ?_
    rintro ν4 ⟨g1, g2⟩
    have fE4 : FrE μ ν4 := FrE.of g2
    have h4 := fE4.tx h
    have hc4 := hc.fr hd fE4
    have hok1 : TkOK T N (tkA T N k.2.1) := tk_ok hok.2.1
    generalize tkA T N k.2.1 = k1 at g1 hok1 ⊢
    refine ok_b (p_tNum (a := 4) (b := 12) (P := rgB 4 13) h4 g1 hok1 (rg_P (lo := 4) (hi := 13) rfl (by omega) (by omega) (by decide))) ?_
    rintro ⟨r5, ν6⟩ ⟨f6, q6⟩
    simp only at f6 q6 ⊢
    cases h1 : pNum T N (rgB 4 13) k1 with
    | inl e =>
      rw [h1] at q6
      have hr : ¬ r5 = 0 := by
        rw [show r5 = nI e.1 from q6.1, x_eql (by have := q6.2.2.1; omega) (by omega)]
        have := q6.2.1
        omega
      rw [if_neg hr]
      exact ok_s ⟨(fE4.trans f6).d, q6⟩
    | inr w =>
      rw [h1] at q6
      obtain ⟨q1, q2, q3⟩ := q6
      simp only at q1 q2 q3
      subst q1
      rw [if_pos rfl, ob_s, q3]
      have hokw : TkOK T N w.2 := by rw [(pNum_r h1).2.2.1]; exact tk_ok hok1.2.1
      have hfr7 : FrD d μ (u2 ν6 d 0 (nI w.1)) := (fE4.trans f6).d.w hd (by omega)
      have e13 : u2 ν6 d 0 (nI w.1) 13 = ν6 13 := by rw [u2_w, if_neg (by omega)]
      have hc7 : CPl (u2 ν6 d 0 (nI w.1)) d w.1 [] [] [] := by
        obtain ⟨⟨c0, c1, c2, c3⟩, c4, c5, c6⟩ := hc4.fr hd f6
        refine ⟨⟨?_, ?_, ?_, ?_⟩, fun a ha => by simp at ha, fun s hs => by simp at hs, fun s hs => ?_⟩
        · rw [u2_r, if_pos ⟨rfl, rfl⟩]
        · rw [u2_r, if_neg (by omega)]; exact c1
        · rw [u2_r, if_neg (by omega)]; exact c2
        · rw [u2_r, if_neg (by omega)]; exact c3
        · rw [u2_r, if_neg (by omega)]; exact c6 s hs
      refine ok_b (p_tSgn (FrD.tx hd hfr7 h) (ct_13 e13 q2) hokw) ?_
      rintro ⟨r8, ν9⟩ ⟨f9, q9⟩
      refine ok_s ⟨hfr7.trans f9.d, ?_⟩
      simp only []
      cases h3 : pSgn T N w.2 with
      | inl e => rw [h3] at q9; exact q9
      | inr v => rw [h3] at q9; exact ⟨q9.1, q9.2, hc7.fr hd f9⟩
  · rw [bI_f hw, if_pos rfl, if_neg hw]
    exact ok_s ⟨FrD.refl d μ, rfl, by simp, by simp, hk.1, ⟨k, hk, hok⟩, trivial⟩
theorem p_tBef {μ : MT} {T : Nat → Nat} {N d nc : Nat} {L : List AC} {E : List Nat} {B : List (Nat × Nat)} {k : PT} (hd : isPl d) (h : TxI μ T N) (hk : CtI μ k) (hok : TkOK T N k) (hc : CPl μ d nc L E B) (hE : E.length ≤ 6) (hB : B.length ≤ 10) :
    Ok (m_X4_takeBefore Zc 15 d μ) (fun q => FrD d μ q.2 ∧ CRs T N q (pBef T N E.length B k) (fun _ => True) (fun r ν => CtI ν r.2 ∧ CPl ν d nc L E r.1)) := by
  have hdl := isPl_le hd
  unfold m_X4_takeBefore pBef
  simp only [zA]
  rw [hc.1.2.2.2]
  by_cases h10 : 10 ≤ B.length
  · rw [if_neg (by rw [x_ltl (by omega) (by omega)]; omega), if_pos h10]
    exact ok_s ⟨FrD.refl d μ, rfl, by simp, by simp, hk.1, ⟨k, hk, hok⟩, trivial⟩
  · rw [if_pos (by rw [x_ltl (by omega) (by omega)]; omega), if_neg h10]
    refine ok_b (p_toNext h hok.2.1 hk.2.1) ?_
    rintro ν2 ⟨g1, g2⟩
    have fE2 : FrE μ ν2 := FrE.of g2
    have h2 := fE2.tx h
    have hc2 := hc.fr hd fE2
    have hok1 : TkOK T N (tkA T N k.2.1) := tk_ok hok.2.1
    generalize tkA T N k.2.1 = k1 at g1 hok1 ⊢
    refine ok_b (p_tNum (a := 0) (P := rgB 0 E.length) h2 g1 hok1 (rg_P (lo := 0) (hi := E.length) rfl (by omega) (by omega) (by rw [hc2.1.2.1]))) ?_
    rintro ⟨r3, ν4⟩ ⟨f4, q4⟩
    simp only at f4 q4 ⊢
    have fE4 := fE2.trans f4
    have h4 := f4.tx h2
    have hc4 := hc2.fr hd f4
    cases h1 : pNum T N (rgB 0 E.length) k1 with
    | inl e =>
      rw [h1] at q4
      have hr : ¬ r3 = 0 := by
        rw [show r3 = nI e.1 from q4.1, x_eql (by have := q4.2.2.1; omega) (by omega)]
        have := q4.2.1
        omega
      rw [if_neg hr]
      exact ok_s ⟨fE4.d, q4⟩
    | inr w =>
      rw [h1] at q4
      obtain ⟨q1, q2, q3⟩ := q4
      simp only at q1 q2 q3
      subst q1
      rw [if_pos rfl, ob_s, q3]
      simp only []
      obtain ⟨w1, w2, w3, w4⟩ := pNum_r h1
      rw [rg_i] at w1
      have hokw : TkOK T N w.2 := by rw [w3]; exact tk_ok hok1.2.1
      have os := hokw.2.2.1
      unfold m_X7_atNumber
      rw [q2.2.2]
      have htwo : ∀ (hne : w.2.2.2 = 2 → ¬ nvA T w.2 = w.1), Ok ((m_X4_takeNumber Zc 15 0 ((ν4 d 1) - 1) ν4).bind fun (r11, ν12) => (if r11 = 0 then (m_X3_addBefore Zc d (nI w.1) (ν12 15 1) ν12).bind fun ν13 => (m_X4_takeSign Zc 15 ν13).bind fun (r14, ν15) => some (r14, ν15) else some (r11, ν12))) (fun q => FrD d μ q.2 ∧ CRs T N q (match pNum T N (neB E.length w.1) w.2 with
          | .inl e => .inl e
          | .inr r => match pSgn T N r.2 with
            | .inl e => .inl e
            | .inr v => .inr (B ++ [(w.1, r.1)], v)) (fun _ => True) (fun r ν => CtI ν r.2 ∧ CPl ν d nc L E r.1)) := fun hne => by
        have hpe : pNum T N (neB E.length w.1) w.2 = pNum T N (rgB 0 E.length) w.2 := by
          unfold pNum
          by_cases hs : w.2.2.2 = 2
          · rw [if_pos hs, if_pos hs]
            have hv := hne hs
            by_cases hp : nvA T w.2 < E.length
            · rw [if_pos (ne_i.mpr ⟨hp, hv⟩), if_pos (rg_i.mpr ⟨by omega, hp⟩)]
            · rw [if_neg (fun hq => hp (ne_i.mp hq).1), if_neg (fun hq => hp (rg_i.mp hq).2)]
          · rw [if_neg hs, if_neg hs]
        rw [hpe]
        refine ok_b (p_tNum (a := 0) (P := rgB 0 E.length) h4 q2 hokw (rg_P (lo := 0) (hi := E.length) rfl (by omega) (by omega) (by rw [hc4.1.2.1]))) ?_
        rintro ⟨r11, ν12⟩ ⟨f12, q12⟩
        simp only at f12 q12 ⊢
        have fE12 := fE4.trans f12
        cases h3 : pNum T N (rgB 0 E.length) w.2 with
        | inl e =>
          rw [h3] at q12
          have hr : ¬ r11 = 0 := by
            rw [show r11 = nI e.1 from q12.1, x_eql (by have := q12.2.2.1; omega) (by omega)]
            have := q12.2.1
            omega
          rw [if_neg hr]
          exact ok_s ⟨fE12.d, q12⟩
        | inr v =>
          rw [h3] at q12
          obtain ⟨p1, p2, p3⟩ := q12
          simp only at p1 p2 p3
          subst p1
          obtain ⟨v1, v2, v3, v4⟩ := pNum_r h3
          rw [rg_i] at v1
          have hokv : TkOK T N v.2 := by rw [v3]; exact tk_ok hokw.2.1
          rw [if_pos rfl, p3]
          refine ok_b (p_addBef hd (hc4.fr hd f12) hE w1.2 v1.2 (by omega)) ?_
          rintro ν13 ⟨b1, b2, b3⟩
          have f13 := fE12.d.trans b2
          refine ok_b (p_tSgn (FrD.tx hd f13 h) (ct_13 b3 p2) hokv) ?_
          rintro ⟨r14, ν15⟩ ⟨f15, q15⟩
          refine ok_s ⟨f13.trans f15.d, ?_⟩
          simp only []
          cases h5 : pSgn T N v.2 with
          | inl e => rw [h5] at q15; exact q15
          | inr u => rw [h5] at q15; exact ⟨q15.1, q15.2, b1.fr hd f15⟩
      by_cases hs : w.2.2.2 = 2
      · rw [if_pos (by rw [hs]; rfl), ob_s, if_neg (by decide), p_numH h4 q2 hokw hs, ob_s]
        have hnv := nv_le hokw hs
        by_cases hv : nvA T w.2 = w.1
        · rw [if_pos (by rw [hv]), ob_s]
          have hpf : pNum T N (neB E.length w.1) w.2 = .inl (2, w.2.1) := by
            unfold pNum
            rw [if_pos hs, if_neg (fun hq => (ne_i.mp hq).2 hv)]
          rw [hpf]
          exact ok_s ⟨fE4.d, rfl, by simp, by simp, q2.1, ⟨w.2, q2, hokw⟩, trivial⟩
        · rw [if_neg (by rw [x_eq (by omega) (by have := nv_le hok1 w2; omega)]; exact hv), ob_s]
          exact htwo (fun _ => hv)
      · rw [if_neg (by rw [x_eql (by omega) (by omega)]; exact hs), ob_s, if_pos rfl, ob_s]
        exact htwo (fun hq => absurd hq hs)
end
section
/-! ===== the program reads a whole plan ===== -/
theorem p_seamL {μ : MT} {T : Nat → Nat} {N d nc : Nat} {k : PT} (hd : isPl d) (h : TxI μ T N) (hk : CtI μ k) (hok : TkOK T N k) (hc : CPl μ d nc [] [] []) (hnc : nc ≤ 12) {γ : Type} {G : Int32 × MT → Option γ} {R : γ → Prop}
    (hG : ∀ (y : Int32) (ν : MT), FrD d μ ν → CRs T N (y, ν) (pSeams T N nc 7 ([], []) k) (fun _ => True) (fun r ν => CtI ν r.2 ∧ CPl ν d nc r.1.1 r.1.2 []) → Ok (G (y, ν)) R) :
    Ok ((loop (σ := Int32 × Int32 × MT) (τ := Int32 × MT) (fun (y6, y7, ν8) => ((if 6 < y7 then some (Sum.inr (y6, ν8)) else (if y6 = 0 then (m_X7_atWord Zc 13 11 ν8).bind fun r32 => (if r32 = 0 then some (Sum.inr (y6, ν8)) else (m_X4_takeSeam Zc 15 d ν8).bind fun (r33, ν34) => (some (y7 + 1)).bind fun x35 => some (Sum.inl (r33, x35, ν34))) else some (Sum.inr (y6, ν8)))) : Option ((Int32 × Int32 × MT) ⊕ (Int32 × MT)))) LN (0, 0, μ)).bind G) R := by
  have hg0 : GdA nc [] := fun a ha => by simp at ha
  have hs0 : SgA [] [] := ⟨fun s hs => by simp at hs, Nat.le_refl _, fun a h1 h2 => by simp at h2⟩
  generalize htg : pSeams T N nc 7 ([], []) k = tgt at hG
  refine ok_l (fun m s => FrD d μ s.2.2 ∧ ((s.1 = 0 ∧ ∃ LE k', pSeams T N nc m LE k' = tgt ∧ 7 ≤ LE.2.length + m ∧ LE.2.length ≤ 6 ∧ LE.1.length ≤ 40 ∧ (∃ c, s.2.1 = nI c ∧ c ≤ LE.2.length) ∧ CtI s.2.2 k' ∧ TkOK T N k' ∧ CPl s.2.2 d nc LE.1 LE.2 [] ∧ GdA nc LE.1 ∧ SgA LE.1 LE.2 ∧ eE LE.2 LE.2.length = LE.1.length) ∨ (m = 0 ∧ ¬ s.1 = 0 ∧ ∃ e, tgt = .inl e ∧ CRs T N (s.1, s.2.2) (α := Unit) (.inl e) (fun _ => True) (fun _ _ => True)))) 7 (by omega) ⟨FrD.refl d μ, Or.inl ⟨rfl, ([], []), k, htg, by simp, by simp, by simp, ⟨0, rfl, by omega⟩, hk, hok, hc, hg0, hs0, rfl⟩⟩ ?_
  rintro m ⟨y6, y7, ν8⟩ ⟨f8, hh⟩
  simp only at f8 hh ⊢
  rcases hh with ⟨rfl, LE, k', a1, a2, a3, a4, ⟨c, a5, a5'⟩, a6, a7, a8, a9, a10, a11⟩ | ⟨rfl, hne, e, b1, b2⟩
  · subst a5
    obtain ⟨n, rfl⟩ : ∃ n, m = n + 1 := ⟨m - 1, by omega⟩
    rw [pSeams] at a1
    have h8 := FrD.tx hd f8 h
    have haw : m_X7_atWord Zc 13 11 ν8 = some (bI (wsB T k' 11 = true)) := p_atWord (i := 11) h8 a6 a7 (by omega)
    rw [if_neg (by rw [x_llt (by omega) (by omega)]; omega), if_pos rfl, haw, ob_s]
    by_cases hw : wsB T k' 11 = true
    · rw [bI_t hw, if_neg (by decide)]
      rw [if_pos hw] at a1
      refine ok_b (p_tSeam hd h8 a6 a7 a8 a4 a3 hnc a9 a10) ?_
      rintro ⟨r33, ν34⟩ ⟨f34, q34⟩
      simp only [ob_s, n1] at f34 q34 ⊢
      cases hsm : pSeam T N nc LE.1 LE.2 k' with
      | inl e =>
        rw [hsm] at q34 a1
        simp only [] at a1
        have hr : ¬ r33 = 0 := by
          rw [show r33 = nI e.1 from q34.1, x_eql (by have := q34.2.2.1; omega) (by omega)]
          have := q34.2.1
          omega
        exact ok_s (Or.inr ⟨_, 0, rfl, by omega, f8.trans f34, Or.inr ⟨rfl, hr, e, a1.symm, q34⟩⟩)
      | inr w =>
        rw [hsm] at q34 a1
        simp only [] at a1
        obtain ⟨t1, t2, t3, t4, t5, t6, t7⟩ := pSeam_r a7 a4 a9 a10 a11 hsm
        exact ok_s (Or.inr ⟨_, n, rfl, by omega, f8.trans f34, Or.inl ⟨q34.1, w.1, w.2, a1, by omega, by omega, t1, ⟨c + 1, rfl, by omega⟩, q34.2.1, t4, q34.2.2, t5, t6, t7⟩⟩)
    · rw [bI_f hw, if_pos rfl]
      rw [if_neg hw] at a1
      refine ok_s (Or.inl ⟨_, rfl, hG 0 ν8 f8 ?_⟩)
      rw [← a1]
      exact ⟨rfl, a6, a8⟩
  · have hend : Ok (G (y6, ν8)) R := hG y6 ν8 f8 (by rw [b1]; exact b2)
    by_cases hy : 6 < y7
    · rw [if_pos hy]
      exact ok_s (Or.inl ⟨_, rfl, hend⟩)
    · rw [if_neg hy, if_neg hne]
      exact ok_s (Or.inl ⟨_, rfl, hend⟩)
theorem p_seamF {μ : MT} {d : Nat} {y : Int32} (hne : ¬ y = 0) {γ : Type} {G : Int32 × MT → Option γ} {R : γ → Prop} (hG : Ok (G (y, μ)) R) :
    Ok ((loop (σ := Int32 × Int32 × MT) (τ := Int32 × MT) (fun (y6, y7, ν8) => ((if 6 < y7 then some (Sum.inr (y6, ν8)) else (if y6 = 0 then (m_X7_atWord Zc 13 11 ν8).bind fun r32 => (if r32 = 0 then some (Sum.inr (y6, ν8)) else (m_X4_takeSeam Zc 15 d ν8).bind fun (r33, ν34) => (some (y7 + 1)).bind fun x35 => some (Sum.inl (r33, x35, ν34))) else some (Sum.inr (y6, ν8)))) : Option ((Int32 × Int32 × MT) ⊕ (Int32 × MT)))) LN (y, 0, μ)).bind G) R := by
  refine ok_l (fun m s => s = (y, 0, μ)) 0 (by omega) rfl ?_
  rintro m s rfl
  simp only []
  rw [if_neg (by decide), if_neg hne]
  exact ok_s (Or.inl ⟨_, rfl, hG⟩)
theorem p_befL {μ : MT} {T : Nat → Nat} {N d nc : Nat} {L : List AC} {E : List Nat} {k : PT} (hd : isPl d) (h : TxI μ T N) (hk : CtI μ k) (hok : TkOK T N k) (hc : CPl μ d nc L E []) (hE : E.length ≤ 6) {γ : Type} {G : Int32 × MT → Option γ} {R : γ → Prop}
    (hG : ∀ (y : Int32) (ν : MT), FrD d μ ν → CRs T N (y, ν) (pBefs T N E.length 11 [] k) (fun _ => True) (fun r ν => CtI ν r.2 ∧ CPl ν d nc L E r.1) → Ok (G (y, ν)) R) :
    Ok ((loop (σ := Int32 × Int32 × MT) (τ := Int32 × MT) (fun (y15, y16, ν17) => ((if 10 < y16 then some (Sum.inr (y15, ν17)) else (if y15 = 0 then (m_X7_atWord Zc 13 12 ν17).bind fun r27 => (if r27 = 0 then some (Sum.inr (y15, ν17)) else (m_X4_takeBefore Zc 15 d ν17).bind fun (r28, ν29) => (some (y16 + 1)).bind fun x30 => some (Sum.inl (r28, x30, ν29))) else some (Sum.inr (y15, ν17)))) : Option ((Int32 × Int32 × MT) ⊕ (Int32 × MT)))) LN (0, 0, μ)).bind G) R := by
  have hb0 : BfA E.length [] := fun a ha => by simp at ha
  generalize htg : pBefs T N E.length 11 [] k = tgt at hG
  refine ok_l (fun m s => FrD d μ s.2.2 ∧ ((s.1 = 0 ∧ ∃ B k', pBefs T N E.length m B k' = tgt ∧ 11 ≤ B.length + m ∧ B.length ≤ 10 ∧ (∃ c, s.2.1 = nI c ∧ c ≤ B.length) ∧ CtI s.2.2 k' ∧ TkOK T N k' ∧ CPl s.2.2 d nc L E B ∧ BfA E.length B) ∨ (m = 0 ∧ ¬ s.1 = 0 ∧ ∃ e, tgt = .inl e ∧ CRs T N (s.1, s.2.2) (α := Unit) (.inl e) (fun _ => True) (fun _ _ => True)))) 11 (by omega) ⟨FrD.refl d μ, Or.inl ⟨rfl, [], k, htg, by simp, by simp, ⟨0, rfl, by omega⟩, hk, hok, hc, hb0⟩⟩ ?_
  rintro m ⟨y6, y7, ν8⟩ ⟨f8, hh⟩
  simp only at f8 hh ⊢
  rcases hh with ⟨rfl, B, k', a1, a2, a3, ⟨c, a5, a5'⟩, a6, a7, a8, a9⟩ | ⟨rfl, hne, e, b1, b2⟩
  · subst a5
    obtain ⟨n, rfl⟩ : ∃ n, m = n + 1 := ⟨m - 1, by omega⟩
    rw [pBefs] at a1
    have h8 := FrD.tx hd f8 h
    have haw : m_X7_atWord Zc 13 12 ν8 = some (bI (wsB T k' 12 = true)) := p_atWord (i := 12) h8 a6 a7 (by omega)
    rw [if_neg (by rw [x_llt (by omega) (by omega)]; omega), if_pos rfl, haw, ob_s]
    by_cases hw : wsB T k' 12 = true
    · rw [bI_t hw, if_neg (by decide)]
      rw [if_pos hw] at a1
      refine ok_b (p_tBef hd h8 a6 a7 a8 hE a3) ?_
      rintro ⟨r33, ν34⟩ ⟨f34, q34⟩
      simp only [ob_s, n1] at f34 q34 ⊢
      cases hsm : pBef T N E.length B k' with
      | inl e =>
        rw [hsm] at q34 a1
        simp only [] at a1
        have hr : ¬ r33 = 0 := by
          rw [show r33 = nI e.1 from q34.1, x_eql (by have := q34.2.2.1; omega) (by omega)]
          have := q34.2.1
          omega
        exact ok_s (Or.inr ⟨_, 0, rfl, by omega, f8.trans f34, Or.inr ⟨rfl, hr, e, a1.symm, q34⟩⟩)
      | inr w =>
        rw [hsm] at q34 a1
        simp only [] at a1
        obtain ⟨t1, t2, t3, t4⟩ := pBef_r a7 a9 hsm
        exact ok_s (Or.inr ⟨_, n, rfl, by omega, f8.trans f34, Or.inl ⟨q34.1, w.1, w.2, a1, by omega, by omega, ⟨c + 1, rfl, by omega⟩, q34.2.1, t3, q34.2.2, t4⟩⟩)
    · rw [bI_f hw, if_pos rfl]
      rw [if_neg hw] at a1
      refine ok_s (Or.inl ⟨_, rfl, hG 0 ν8 f8 ?_⟩)
      rw [← a1]
      exact ⟨rfl, a6, a8⟩
  · have hend : Ok (G (y6, ν8)) R := hG y6 ν8 f8 (by rw [b1]; exact b2)
    by_cases hy : 10 < y7
    · rw [if_pos hy]
      exact ok_s (Or.inl ⟨_, rfl, hend⟩)
    · rw [if_neg hy, if_neg hne]
      exact ok_s (Or.inl ⟨_, rfl, hend⟩)
theorem p_befF {μ : MT} {d : Nat} {y : Int32} (hne : ¬ y = 0) {γ : Type} {G : Int32 × MT → Option γ} {R : γ → Prop} (hG : Ok (G (y, μ)) R) :
    Ok ((loop (σ := Int32 × Int32 × MT) (τ := Int32 × MT) (fun (y15, y16, ν17) => ((if 10 < y16 then some (Sum.inr (y15, ν17)) else (if y15 = 0 then (m_X7_atWord Zc 13 12 ν17).bind fun r27 => (if r27 = 0 then some (Sum.inr (y15, ν17)) else (m_X4_takeBefore Zc 15 d ν17).bind fun (r28, ν29) => (some (y16 + 1)).bind fun x30 => some (Sum.inl (r28, x30, ν29))) else some (Sum.inr (y15, ν17)))) : Option ((Int32 × Int32 × MT) ⊕ (Int32 × MT)))) LN (y, 0, μ)).bind G) R := by
  refine ok_l (fun m s => s = (y, 0, μ)) 0 (by omega) rfl ?_
  rintro m s rfl
  simp only []
  rw [if_neg (by decide), if_neg hne]
  exact ok_s (Or.inl ⟨_, rfl, hG⟩)
theorem crs_ne {α : Type} {T : Nat → Nat} {N : Nat} {y : Int32} {ν : MT} {e : Nat × Nat} {QF : MT → Prop} {Q : α → MT → Prop} (h : CRs T N (y, ν) (.inl e) QF Q) : ¬ y = 0 := by
  have h1 : y = nI e.1 := h.1
  have h2 := h.2.1
  have h3 := h.2.2.1
  rw [h1, x_eql (by omega) (by omega)]
  omega
theorem p_read {μ : MT} {T : Nat → Nat} {N d : Nat} (hd : isPl d) (h : TxI μ T N) :
    Ok (m_X4_readInto Zc 15 d μ) (fun q => FrD d μ q.2 ∧ CRs T N q (pPlan T N) (fun _ => True) (fun r ν => CPl ν d r.1 r.2.1.1 r.2.1.2 r.2.2)) := by
  have hdl := isPl_le hd
  obtain ⟨l1, l2, l3, l4, l5, l6⟩ := zql hd
  unfold m_X4_readInto m_X3_clear m_X7_toFirst
  simp only [zA, ob_s]
  rw [zq_9 hd, q_fill l6 (by omega), ob_s, ob_s]
  have f1 : FrD d μ (u1 (u2 (u2 (u2 (u2 μ d 0 0) d 1 0) d 2 0) d 3 0) (d + 6) (fun j => if j < 6 then 0 else u2 (u2 (u2 (u2 μ d 0 0) d 1 0) d 2 0) d 3 0 (d + 6) j)) := by
    refine ⟨fun q a b c => ?_, ?_⟩
    · rw [u1_w, if_neg (by omega), u2_w, if_neg (by omega), u2_w, if_neg (by omega), u2_w, if_neg (by omega), u2_w, if_neg (by omega)]
    · rw [u1_r, if_neg (by omega), u2_r, if_neg (by omega), u2_r, if_neg (by omega), u2_r, if_neg (by omega), u2_r, if_neg (by omega)]
  have hc1 : CPl (u1 (u2 (u2 (u2 (u2 μ d 0 0) d 1 0) d 2 0) d 3 0) (d + 6) (fun j => if j < 6 then 0 else u2 (u2 (u2 (u2 μ d 0 0) d 1 0) d 2 0) d 3 0 (d + 6) j)) d 0 [] [] [] := by
    refine ⟨⟨?_, ?_, ?_, ?_⟩, fun a ha => by simp at ha, fun s hs => by simp at hs, fun s hs => ?_⟩
    · simp [u1_r, u2_r]; rfl
    · simp [u1_r, u2_r]; rfl
    · simp [u1_r, u2_r]; rfl
    · simp [u1_r, u2_r]; rfl
    · rw [u1_r, if_pos rfl, if_pos hs]; rfl
  generalize u1 (u2 (u2 (u2 (u2 μ d 0 0) d 1 0) d 2 0) d 3 0) (d + 6) (fun j => if j < 6 then 0 else u2 (u2 (u2 (u2 μ d 0 0) d 1 0) d 2 0) d 3 0 (d + 6) j) = ν1 at f1 hc1 ⊢
  have f2 : Fr13 ν1 (u2 ν1 13 3 0) := ⟨fun q a => by rw [u2_w, if_neg a], by rw [u2_r, if_neg (by omega)]⟩
  have fd2 : FrD d μ (u2 ν1 13 3 0) := f1.trans (FrD.of f2)
  refine ok_b (R1 := fun ν3 => CtI ν3 (tkA T N 0) ∧ FrD d μ ν3 ∧ CPl ν3 d 0 [] [] []) ?_ ?_
  · refine ok_b (p_toNext (e := 0) (FrD.tx hd fd2 h) (by omega) (by rw [u2_r, if_pos ⟨rfl, rfl⟩]; rfl)) ?_
    rintro ν3 ⟨g1, g2⟩
    exact ok_s ⟨g1, fd2.trans (FrD.of g2), (hc1.fr hd (FrE.of f2)).fr hd (FrE.of g2)⟩
  rintro ν3 ⟨g1, g2, g3⟩
  have hok0 : TkOK T N (tkA T N 0) := tk_ok (by omega)
  unfold pPlan
  generalize tkA T N 0 = k0 at g1 hok0 ⊢
  refine ok_b (p_tPan hd (FrD.tx hd g2 h) g1 hok0 g3) ?_
  rintro ⟨r4, ν5⟩ ⟨f5, q5⟩
  have fd5 := g2.trans f5
  simp only at f5 q5 fd5 ⊢
  have hfin : ∀ (y : Int32) (ν : MT) (e : Nat × Nat), FrD d μ ν → CRs T N (y, ν) (α := Unit) (.inl e) (fun _ => True) (fun _ _ => True) → Ok (if y = 0 then (m_X7_atEnd Zc 13 ν).bind fun r25 => (if r25 = 0 then some (1, ν) else some (y, ν)) else some (y, ν)) (fun q => FrD d μ q.2 ∧ CRs T N q (α := Nat × (List AC × List Nat) × List (Nat × Nat)) (.inl e) (fun _ => True) (fun r ν => CPl ν d r.1 r.2.1.1 r.2.1.2 r.2.2)) := fun y ν e a1 a2 => by
    rw [if_neg (crs_ne a2)]
    exact ok_s ⟨a1, a2⟩
  cases hpan : pPan T N k0 with
  | inl e =>
    rw [hpan] at q5
    have hne := crs_ne q5
    refine p_seamF hne ?_
    dsimp only
    refine p_befF hne ?_
    exact hfin r4 ν5 e fd5 q5
  | inr w =>
    rw [hpan] at q5
    obtain ⟨q1, q2, q3⟩ := q5
    simp only at q1 q2 q3
    subst q1
    have hww : w.1 ≤ 12 ∧ TkOK T N w.2 := by
      unfold pPan at hpan
      by_cases hw : wsB T k0 10 = true
      · rw [if_pos hw] at hpan
        cases h1 : pNum T N (rgB 4 13) (tkA T N k0.2.1) with
        | inl e => rw [h1] at hpan; cases hpan
        | inr v =>
          rw [h1] at hpan
          simp only [] at hpan
          obtain ⟨a1, a2, a3, a4⟩ := pNum_r h1
          rw [rg_i] at a1
          cases h2 : pSgn T N v.2 with
          | inl e => rw [h2] at hpan; cases hpan
          | inr u =>
            rw [h2] at hpan
            have h3 := Sum.inr.inj hpan
            rw [← h3]
            refine ⟨by simp only []; omega, ?_⟩
            simp only []
            rw [(pSgn_r h2).2]
            refine tk_ok ?_
            rw [a3]
            exact (tk_ok (tk_ok hok0.2.1).2.1).2.1
      · rw [if_neg hw] at hpan; cases hpan
    simp only []
    refine p_seamL hd (FrD.tx hd fd5 h) q2 hww.2 q3 hww.1 ?_
    intro y ν6 f6 q6
    have fd6 := fd5.trans f6
    cases hsm : pSeams T N w.1 7 ([], []) w.2 with
    | inl e =>
      rw [hsm] at q6
      dsimp only
      exact p_befF (crs_ne q6) (hfin y ν6 e fd6 q6)
    | inr v =>
      rw [hsm] at q6
      obtain ⟨a1, a2, a3⟩ := q6
      simp only at a1 a2 a3
      subst a1
      obtain ⟨s1, s2, s3, s4, s5, s6⟩ := pSeams_r 7 ([], []) w.2 v hww.2 (by simp) (by simp) (fun a ha => by simp at ha) ⟨fun s hs => by simp at hs, Nat.le_refl _, fun a h1 h2 => by simp at h2⟩ rfl hsm
      dsimp only
      refine p_befL hd (FrD.tx hd fd6 h) a2 s3 a3 s2 ?_
      intro y ν7 f7 q7
      have fd7 := fd6.trans f7
      cases hbf : pBefs T N v.1.2.length 11 [] v.2 with
      | inl e =>
        rw [hbf] at q7
        exact hfin y ν7 e fd7 q7
      | inr u =>
        rw [hbf] at q7
        obtain ⟨b1, b2, b3⟩ := q7
        simp only at b1 b2 b3
        subst b1
        obtain ⟨t1, t2, t3⟩ := pBefs_r 11 [] v.2 u s3 (by simp) (fun a ha => by simp at ha) hbf
        have t4 := t2.2.2.1
        unfold m_X7_atEnd
        dsimp only
        rw [if_pos rfl]
        by_cases h0 : u.2.2.2 = 0
        · rw [if_pos (show ν7 13 4 = 0 by rw [b2.2.2, h0]; rfl), ob_s, if_neg (by decide), if_pos h0]
          exact ok_s ⟨fd7, rfl, b3⟩
        · rw [if_neg (show ¬ ν7 13 4 = 0 by rw [b2.2.2, x_eql (by omega) (by omega)]; exact h0), ob_s, if_pos rfl, if_neg h0]
          exact ok_s ⟨fd7, rfl, by simp, by simp, b2.1, ⟨u.2, b2, t2⟩, trivial⟩
end
section
/-! ===== the reference's parts of a plan ===== -/
def RPl (μ : MT) (nc : Nat) (L : List AC) (E : List Nat) (B : List (Nat × Nat)) : Prop :=
  (μ 106 12 = nI nc ∧ μ 106 13 = nI E.length ∧ μ 106 14 = nI L.length ∧ μ 106 15 = nI B.length) ∧
  (∀ a, a < L.length → μ 113 (4 * a) = nI ((L.getD a aZ).1 + 1) ∧ μ 113 (4 * a + 1) = nI (L.getD a aZ).2.1 ∧ μ 113 (4 * a + 2) = (if (L.getD a aZ).1 < 7 then nI (L.getD a aZ).2.2.1 else -1000000) ∧ μ 113 (4 * a + 3) = nI (L.getD a aZ).2.2.2) ∧
  (∀ b, b < B.length → μ 114 b = nI (B.getD b (0, 0)).1 ∧ μ 115 b = nI (B.getD b (0, 0)).2)
def FrQ (μ ν : MT) : Prop := (∀ q, q ≠ 106 → q < 113 ∨ 115 < q → ν q = μ q) ∧ (∀ j, j < 12 ∨ (15 < j ∧ j < 23) ∨ 28 < j → ν 106 j = μ 106 j)
theorem FrQ.refl (μ : MT) : FrQ μ μ := ⟨fun _ _ _ => rfl, fun _ _ => rfl⟩
theorem FrQ.trans {μ ν ω : MT} (h : FrQ μ ν) (h2 : FrQ ν ω) : FrQ μ ω := ⟨fun q a b => (h2.1 q a b).trans (h.1 q a b), fun j a => (h2.2 j a).trans (h.2 j a)⟩
theorem FrQ.of {μ ν : MT} (h : FrU μ ν) : FrQ μ ν := ⟨fun q a _ => h.1 q a, fun j a => h.2 j (by omega)⟩
theorem FrQ.tr {μ ν : MT} {T : Nat → Nat} {N : Nat} (h : FrQ μ ν) (g : TrI μ T N) : TrI ν T N := ⟨g.1, by rw [h.2 22 (by omega)]; exact g.2.1, fun j hj => by rw [h.1 116 (by omega) (by omega)]; exact g.2.2 j hj⟩
theorem FrQ.w {μ ν : MT} (h : FrQ μ ν) {q j : Nat} {v : Int32} (hq : 113 ≤ q ∧ q ≤ 115) : FrQ μ (u2 ν q j v) := ⟨fun q' a b => by rw [u2_w, if_neg (by omega)]; exact h.1 q' a b, fun i a => by rw [u2_r, if_neg (by omega)]; exact h.2 i a⟩
theorem FrQ.w6 {μ ν : MT} (h : FrQ μ ν) {j : Nat} {v : Int32} (hj : 12 ≤ j ∧ j ≤ 15) : FrQ μ (u2 ν 106 j v) := ⟨fun q' a b => by rw [u2_w, if_neg a]; exact h.1 q' a b, fun i a => by rw [u2_r, if_neg (by omega)]; exact h.2 i a⟩
theorem RPl.fr {μ ν : MT} {nc : Nat} {L : List AC} {E : List Nat} {B : List (Nat × Nat)} (h : FrU μ ν) (g : RPl μ nc L E B) : RPl ν nc L E B := by
  unfold RPl
  rw [h.1 113 (by omega), h.1 114 (by omega), h.1 115 (by omega), h.2 12 (by omega), h.2 13 (by omega), h.2 14 (by omega), h.2 15 (by omega)]
  exact g
def RRs {α : Type} (T : Nat → Nat) (N : Nat) (ν : MT) (o : (Nat × Nat) ⊕ α) (Q : α → MT → Prop) : Prop :=
  match o with
  | .inl e => FsI ν T N e.1 e.2
  | .inr x => ν 106 27 = 0 ∧ Q x ν
theorem rg_Q {lo hi : Nat} {a b : Int32} (ha : a = nI lo) (hl : lo < 1000) (hh : hi < 1000) (hb : b = nI hi - 1) : ∀ v, v ≤ 99 → (rgB lo hi v = true ↔ ((a.toInt ≤ v ∧ (v : Int) ≤ b.toInt) ∧ ¬ nI v = -1000000)) := fun v hv => by
  rw [rg_i, ha, hb, ti_n (by omega), ti_n1 (by omega)]
  have : ¬ nI v = -1000000 := mNn (by omega)
  constructor
  · intro h; exact ⟨by omega, this⟩
  · intro h; omega
theorem ne_Q {ns w : Nat} {b : Int32} (hh : ns < 1000) (hw : w < 1000) (hb : b = nI ns - 1) : ∀ v, v ≤ 99 → (neB ns w v = true ↔ (((0 : Int32).toInt ≤ v ∧ (v : Int) ≤ b.toInt) ∧ ¬ nI v = nI w)) := fun v hv => by
  rw [ne_i, hb, ti_n1 (by omega), x_eq (by omega) (by omega), show (0 : Int32).toInt = 0 from rfl]
  omega
theorem fs_fr {μ ν : MT} {T : Nat → Nat} {N c pl : Nat} (h : FsI μ T N c pl) (f : ∀ q, q = 116 → ν q = μ q) (f6 : ∀ j, 22 ≤ j → j ≤ 28 → ν 106 j = μ 106 j) : FsI ν T N c pl := by
  obtain ⟨h1, h2, h3, h4, h5, k, h6, h7⟩ := h
  refine ⟨by rw [f6 27 (by omega) (by omega)]; exact h1, h2, h3, by rw [f6 28 (by omega) (by omega)]; exact h4, ⟨h5.1, by rw [f6 22 (by omega) (by omega)]; exact h5.2.1, fun j hj => by rw [f 116 rfl]; exact h5.2.2 j hj⟩, k, ?_, h7⟩
  obtain ⟨a1, a2, a3, a4⟩ := h6
  exact ⟨by rw [f6 23 (by omega) (by omega)]; exact a1, by rw [f6 24 (by omega) (by omega)]; exact a2, by rw [f6 25 (by omega) (by omega)]; exact a3, by rw [f6 26 (by omega) (by omega)]; exact a4⟩
theorem rk_fr {μ ν : MT} {k : PT} (h : RkI μ k) (f6 : ∀ j, 23 ≤ j → j ≤ 26 → ν 106 j = μ 106 j) : RkI ν k := by
  obtain ⟨a1, a2, a3, a4⟩ := h
  exact ⟨by rw [f6 23 (by omega) (by omega)]; exact a1, by rw [f6 24 (by omega) (by omega)]; exact a2, by rw [f6 25 (by omega) (by omega)]; exact a3, by rw [f6 26 (by omega) (by omega)]; exact a4⟩
theorem r_rAct {μ : MT} {T : Nat → Nat} {N nc kd : Nat} {L : List AC} {E : List Nat} {B : List (Nat × Nat)} {k : PT} (h : TrI μ T N) (hk : RkI μ k) (hok : TkOK T N k) (h27 : μ 106 27 = 0) (hc : RPl μ nc L E B) (hkd : kd < 10) (hl : L.length ≤ 40) (hnc : nc ≤ 12) :
    Ok (m_X9_readAct Zc 106 (nI (kd + 1)) μ) (fun ν => FrQ μ ν ∧ RRs T N ν (pTake T N nc L E.length kd k) (fun r ν => RkI ν r.2 ∧ RPl ν nc r.1 E B)) := by
  unfold m_X9_readAct pTake
  simp only [zA]
  rw [hc.1.2.2.1]
  have hff : ∀ (ν : MT) (c pl : Nat) (z : Int32), FsI ν T N c pl → Ok ((if (8 : Int32) ≤ nI (kd + 1) then some ((-1000000), ν) else (m_X9_numberIn Zc 106 1 20 (-1000000) ν).bind fun (r22, ν23) => some (r22, ν23) : Option (Int32 × MT)).bind (fun (z9, ν10) => (if (ν10 106 27) = 0 then (ast Zc ν10 113 (4 * (ν10 106 14)) (nI (kd + 1))).bind fun ν14 => (ast Zc ν14 113 ((4 * (ν14 106 14)) + 1) z).bind fun ν16 => (ast Zc ν16 113 ((4 * (ν16 106 14)) + 2) z9).bind fun ν18 => (ast Zc ν18 113 ((4 * (ν18 106 14)) + 3) (ν18 106 13)).bind fun ν20 => (some (u2 ν20 106 14 ((ν20 106 14) + 1))).bind fun ν21 => some ν21 else some ν10))) (fun ν' => ν' = ν) := fun ν c pl z hf => by
    rw [r_num_f hf]
    by_cases h8 : (8 : Int32) ≤ nI (kd + 1)
    · rw [if_pos h8, ob_s]
      simp only []
      rw [if_neg hf.ne.1]
      exact ok_s rfl
    · rw [if_neg h8, ob_s, ob_s]
      simp only []
      rw [if_neg hf.ne.1]
      exact ok_s rfl
  by_cases h40 : 40 ≤ L.length
  · rw [if_pos (by rw [show L.length = 40 by omega]; rfl), if_pos h40]
    refine ok_b (R1 := fun ν => FsI ν T N 3 k.1 ∧ FrU μ ν) ?_ ?_
    · refine ok_b (r_bad (c := 3) h hk hok h27 (by omega)) ?_
      rintro ν ⟨g1, g2, g3⟩
      exact ok_s ⟨g1, g2⟩
    · rintro ν1 ⟨g1, g2⟩
      rw [r_must_f g1, ob_s, r_num_f g1, r_num_f g1]
      have hif : (if nI (kd + 1) = (8 : Int32) then (some ((0 : Int32), ν1)).bind (fun (r26, ν27) => some (r26, ν27)) else (some ((0 : Int32), ν1)).bind (fun (r24, ν25) => some (r24, ν25))) = some ((0 : Int32), ν1) := by
        by_cases h8 : nI (kd + 1) = (8 : Int32)
        · rw [if_pos h8]; rfl
        · rw [if_neg h8]; rfl
      rw [hif, ob_s]
      refine ok_m (hff ν1 3 k.1 0 g1) ?_
      rintro ν' rfl
      exact ⟨FrQ.of g2, g1⟩
  · rw [if_neg (by rw [x_eql (by omega) (by omega)]; omega), if_neg h40, ob_s]
    refine ok_b (r_must1 h hk hok h27) ?_
    rintro ν4 ⟨g1, g2, g3⟩
    have h4 := g2.tr h
    have hc4 := hc.fr g2
    have hok1 : TkOK T N (tkA T N k.2.1) := tk_ok hok.2.1
    generalize tkA T N k.2.1 = k1 at g1 hok1 ⊢
    have hn1 : Ok (if nI (kd + 1) = (8 : Int32) then (m_X9_numberIn Zc 106 1 30 (-1000000) ν4).bind fun (r26, ν27) => some (r26, ν27) else (m_X9_numberIn Zc 106 0 ((ν4 106 12) - 1) (-1000000) ν4).bind fun (r24, ν25) => some (r24, ν25)) (fun q => FrU ν4 q.2 ∧ match pNum T N (if kd = 7 then rgB 1 31 else rgB 0 nc) k1 with
        | .inl e => FsI q.2 T N e.1 e.2
        | .inr r => q.1 = nI r.1 ∧ RkI q.2 r.2 ∧ q.2 106 27 = 0) := by
      by_cases h7 : kd = 7
      · rw [if_pos (by rw [h7]; rfl), if_pos h7]
        refine ok_b (r_num (a := 1) (b := 30) (P := rgB 1 31) h4 g1 hok1 g3 (rg_Q (lo := 1) (hi := 31) rfl (by omega) (by omega) (by decide))) ?_
        rintro ⟨r, ν⟩ hq
        exact ok_s hq
      · rw [if_neg (by rw [x_eql (by omega) (by omega)]; omega), if_neg h7]
        refine ok_b (r_num (P := rgB 0 nc) h4 g1 hok1 g3 (rg_Q (lo := 0) (hi := nc) rfl (by omega) (by omega) (by rw [hc4.1.1]))) ?_
        rintro ⟨r, ν⟩ hq
        exact ok_s hq
    refine ok_b hn1 ?_
    rintro ⟨r, ν6⟩ ⟨f6, q6⟩
    have fU6 := g2.trans f6
    simp only [] at f6 q6 fU6 ⊢
    unfold pAct
    cases h1 : pNum T N (if kd = 7 then rgB 1 31 else rgB 0 nc) k1 with
    | inl e =>
      rw [h1] at q6
      refine ok_m (hff ν6 e.1 e.2 r q6) ?_
      rintro ν' rfl
      exact ⟨FrQ.of fU6, q6⟩
    | inr w =>
      rw [h1] at q6
      obtain ⟨q1, q2, q3⟩ := q6
      subst q1
      simp only []
      have h6 := f6.tr h4
      have hc6 := hc4.fr f6
      have hokw : TkOK T N w.2 := by rw [(pNum_r h1).2.2.1]; exact tk_ok hok1.2.1
      have hadd : ∀ (ν : MT) (st : Nat) (z9 : Int32), FrU μ ν → RPl ν nc L E B → ν 106 27 = 0 → z9 = (if kd < 7 then nI st else -1000000) → Ok (if (ν 106 27) = 0 then (ast Zc ν 113 (4 * (ν 106 14)) (nI (kd + 1))).bind fun ν14 => (ast Zc ν14 113 ((4 * (ν14 106 14)) + 1) (nI w.1)).bind fun ν16 => (ast Zc ν16 113 ((4 * (ν16 106 14)) + 2) z9).bind fun ν18 => (ast Zc ν18 113 ((4 * (ν18 106 14)) + 3) (ν18 106 13)).bind fun ν20 => (some (u2 ν20 106 14 ((ν20 106 14) + 1))).bind fun ν21 => some ν21 else some ν) (fun ν' => FrQ μ ν' ∧ ν' 106 27 = 0 ∧ (∀ j, 23 ≤ j → j ≤ 26 → ν' 106 j = ν 106 j) ∧ RPl ν' nc (L ++ [(kd, w.1, st, E.length)]) E B) := fun ν st z9 fU hR hz hz9 => by
        obtain ⟨⟨c0, c1, c2, c3⟩, c4, c5⟩ := hR
        rw [if_pos hz, c2, x_lm, as_113 (by omega), ob_s]
        have e1 : ∀ (ω : MT) (j : Nat) (v : Int32), u2 ω 113 j v 106 = ω 106 := fun ω j v => by rw [u2_w, if_neg (by omega)]
        simp only [e1, c2, x_lm, x_al, c1]
        rw [as_113 (by omega), ob_s]
        simp only [e1, c2, x_lm, x_al, c1]
        rw [as_113 (by omega), ob_s]
        simp only [e1, c2, x_lm, x_al, c1]
        rw [as_113 (by omega), ob_s]
        simp only [e1, c2, x_lm, x_al, c1, ob_s]
        refine ok_s ⟨((((FrQ.of fU).w (by omega)).w (by omega)).w (by omega)).w (by omega) |>.w6 (by omega), ?_, fun j a b => ?_, ⟨?_, ?_, ?_, ?_⟩, fun a ha => ?_, fun b hb => ?_⟩
        · simp [u2_r, hz]
        · rw [u2_r, if_neg (by omega)]; simp only [e1]
        · simp [u2_r, c0]
        · simp [u2_r, c1]
        · simp [u2_r]
        · simp [u2_r, c3]
        · rw [getD_app]
          by_cases hal : a = L.length
          · subst hal
            rw [if_pos rfl]
            refine ⟨?_, ?_, ?_, ?_⟩ <;> simp [u2_r, hz9]
          · rw [if_neg hal]
            have ha2 : a < L.length := by simp at ha; omega
            obtain ⟨d1, d2, d3, d4⟩ := c4 a ha2
            have n0 : ¬ 4 * a = 4 * L.length := by omega
            have n1 : ¬ 4 * a = 4 * L.length + 1 := by omega
            have n2 : ¬ 4 * a = 4 * L.length + 2 := by omega
            have n3 : ¬ 4 * a = 4 * L.length + 3 := by omega
            have m0 : ¬ 4 * a + 1 = 4 * L.length := by omega
            have m2 : ¬ 4 * a + 1 = 4 * L.length + 2 := by omega
            have m3 : ¬ 4 * a + 1 = 4 * L.length + 3 := by omega
            have p0 : ¬ 4 * a + 2 = 4 * L.length := by omega
            have p1 : ¬ 4 * a + 2 = 4 * L.length + 1 := by omega
            have p3 : ¬ 4 * a + 2 = 4 * L.length + 3 := by omega
            have r0 : ¬ 4 * a + 3 = 4 * L.length := by omega
            have r1 : ¬ 4 * a + 3 = 4 * L.length + 1 := by omega
            have r2 : ¬ 4 * a + 3 = 4 * L.length + 2 := by omega
            refine ⟨?_, ?_, ?_, ?_⟩
            · rw [← d1]; simp only [u2_r, n0, n1, n2, n3, and_false, if_false, Nat.reduceEqDiff, false_and]
            · rw [← d2, u2_r, if_neg (by omega), u2_r, if_neg (by omega), u2_r, if_neg (by omega), u2_r, if_neg (by omega), u2_r, if_neg (by omega)]
            · rw [← d3, u2_r, if_neg (by omega), u2_r, if_neg (by omega), u2_r, if_neg (by omega), u2_r, if_neg (by omega), u2_r, if_neg (by omega)]
            · rw [← d4, u2_r, if_neg (by omega), u2_r, if_neg (by omega), u2_r, if_neg (by omega), u2_r, if_neg (by omega), u2_r, if_neg (by omega)]
        · have := c5 b hb
          simp [u2_r, this]
      by_cases h7 : kd < 7
      · rw [if_neg (by rw [x_lle (by omega) (by omega)]; omega), if_pos h7]
        refine ok_b (R1 := fun (q : Int32 × MT) => FrU ν6 q.2 ∧ match pNum T N (rgB 1 21) w.2 with
          | .inl e => FsI q.2 T N e.1 e.2
          | .inr r => q.1 = nI r.1 ∧ RkI q.2 r.2 ∧ q.2 106 27 = 0) ?_ ?_
        · refine ok_b (r_num (a := 1) (b := 20) (P := rgB 1 21) h6 q2 hokw q3 (rg_Q (lo := 1) (hi := 21) rfl (by omega) (by omega) (by decide))) ?_
          rintro ⟨r, ν⟩ hq
          exact ok_s hq
        · rintro ⟨z9, ν10⟩ ⟨f10, q10⟩
          simp only [] at f10 q10 ⊢
          cases h3 : pNum T N (rgB 1 21) w.2 with
          | inl e =>
            rw [h3] at q10
            rw [if_neg (FsI.ne q10).1]
            exact ok_s ⟨FrQ.of (fU6.trans f10), q10⟩
          | inr v =>
            rw [h3] at q10
            obtain ⟨a1, a2, a3⟩ := q10
            refine ok_m (hadd ν10 v.1 z9 (fU6.trans f10) (hc6.fr f10) a3 (by rw [if_pos h7]; exact a1)) ?_
            rintro ν' ⟨b1, b2, b3, b4⟩
            exact ⟨b1, b2, rk_fr a2 b3, b4⟩
      · rw [if_pos (by rw [x_lle (by omega) (by omega)]; omega), if_neg h7, ob_s]
        simp only []
        refine ok_m (hadd ν6 0 (-1000000) fU6 hc6 q3 (by rw [if_neg h7])) ?_
        rintro ν' ⟨b1, b2, b3, b4⟩
        exact ⟨b1, b2, rk_fr q2 b3, b4⟩
end
section
/-! ===== the reference's seams and befores ===== -/
theorem r_rSeam {μ : MT} {T : Nat → Nat} {N nc : Nat} {L : List AC} {E : List Nat} {B : List (Nat × Nat)} {k : PT} (h : TrI μ T N) (hk : RkI μ k) (hok : TkOK T N k) (h27 : μ 106 27 = 0) (hc : RPl μ nc L E B) (hl : L.length ≤ 40) (hE : E.length ≤ 6) (hnc : nc ≤ 12) (hg : GdA nc L) (hsg : SgA L E) :
    Ok (m_X9_readSeam Zc 106 μ) (fun ν => FrQ μ ν ∧ RRs T N ν (pSeam T N nc L E k) (fun r ν => RkI ν r.2 ∧ RPl ν nc r.1.1 r.1.2 B)) := by
  unfold m_X9_readSeam pSeam
  rw [hc.1.2.1]
  have hinc : ∀ (ν : MT) (c pl : Nat), FsI ν T N c pl → FrQ μ ν → Ok ((m_X9_mustEnd Zc 106 ν).bind fun ν13 => (some (u2 ν13 106 13 ((ν13 106 13) + 1))).bind fun ν14 => some ν14) (fun ν' => FrQ μ ν' ∧ FsI ν' T N c pl) := fun ν c pl hf hfr => by
    rw [r_end_f hf, ob_s, ob_s]
    refine ok_s ⟨hfr.w6 (by omega), fs_fr hf (fun q hq => by rw [u2_w, if_neg (by omega)]) (fun j a b => by rw [u2_r, if_neg (by omega)])⟩
  by_cases h6 : 6 ≤ E.length
  · rw [if_pos (by rw [show E.length = 6 by omega]; rfl), if_pos h6]
    refine ok_b (R1 := fun ν => FsI ν T N 3 k.1 ∧ FrU μ ν) ?_ ?_
    · refine ok_b (r_bad (c := 3) h hk hok h27 (by omega)) ?_
      rintro ν ⟨g1, g2, g3⟩
      exact ok_s ⟨g1, g2⟩
    · rintro ν1 ⟨g1, g2⟩
      rw [r_must_f g1, ob_s, r_kow_f g1, ob_s]
      refine ok_l (fun m s => s = (-1000000, ν1)) 0 (by omega) rfl ?_
      rintro m s rfl
      simp only []
      rw [if_neg g1.ne.1]
      exact ok_s (Or.inl ⟨_, rfl, hinc ν1 3 k.1 g1 (FrQ.of g2)⟩)
  · rw [if_neg (by rw [x_eql (by omega) (by omega)]; omega), if_neg h6, ob_s]
    refine ok_b (r_must1 h hk hok h27) ?_
    rintro ν4 ⟨g1, g2, g3⟩
    have h4 := g2.tr h
    have hc4 := hc.fr g2
    have hok1 : TkOK T N (tkA T N k.2.1) := tk_ok hok.2.1
    generalize tkA T N k.2.1 = k1 at g1 hok1 ⊢
    rw [r_kow h4 g1 hok1, if_pos g3, ob_s]
    generalize hpa : pActs T N nc E.length 41 L k1 = tgt
    refine ok_l (fun m s => FrQ μ s.2 ∧ ((s.2 106 27 = 0 ∧ ∃ L' k', pActs T N nc E.length m L' k' = tgt ∧ 41 ≤ L'.length + m ∧ L'.length ≤ 40 ∧ s.1 = krI (akA T k') ∧ RkI s.2 k' ∧ TkOK T N k' ∧ RPl s.2 nc L' E B ∧ GdA nc L' ∧ SgA L' E) ∨ (m = 0 ∧ ∃ e : Nat × Nat, tgt = .inl e ∧ FsI s.2 T N e.1 e.2))) 41 (by omega) ⟨FrQ.of g2, Or.inl ⟨g3, L, k1, hpa, by omega, hl, rfl, g1, hok1, hc4, hg, hsg⟩⟩ ?_
    rintro m ⟨y6, ν7⟩ ⟨f7, hh⟩
    simp only at f7 hh ⊢
    rcases hh with ⟨a0, L', k', a1, a2, a3, a4, a5, a6, a7, a8, a9⟩ | ⟨rfl, e, b1, b2⟩
    · subst a4
      obtain ⟨n, rfl⟩ : ∃ n, m = n + 1 := ⟨m - 1, by omega⟩
      rw [pActs] at a1
      rw [if_pos a0]
      cases hak : akA T k' with
      | none =>
        rw [hak] at a1
        simp only [] at a1
        rw [if_pos (show krI none = -1000000 from rfl)]
        refine ok_s (Or.inl ⟨_, rfl, ?_⟩)
        rw [← a1]
        simp only []
        refine ok_b (r_end (f7.tr h) a5 a6 a0) ?_
        rintro ν13 ⟨f13, q13⟩
        have hc13 := a7.fr f13
        rw [hc13.1.2.1, n1, ob_s]
        have fq : FrQ μ (u2 ν13 106 13 (nI (E.length + 1))) := (f7.trans (FrQ.of f13)).w6 (by omega)
        cases hsn : pSgn T N k' with
        | inl e =>
          rw [hsn] at q13
          exact ok_s ⟨fq, fs_fr q13 (fun q hq => by rw [u2_w, if_neg (by omega)]) (fun j a b => by rw [u2_r, if_neg (by omega)])⟩
        | inr v =>
          rw [hsn] at q13
          refine ok_s ⟨fq, ?_, rk_fr q13.1 (fun j a b => by rw [u2_r, if_neg (by omega)]), ?_⟩
          · rw [u2_r, if_neg (by omega)]; exact q13.2
          · obtain ⟨⟨c0, c1, c2, c3⟩, c4, c5⟩ := hc13
            refine ⟨⟨?_, ?_, ?_, ?_⟩, fun a ha => ?_, fun b hb => ?_⟩
            · rw [u2_r, if_neg (by omega)]; exact c0
            · rw [u2_r, if_pos ⟨rfl, rfl⟩]; simp
            · rw [u2_r, if_neg (by omega)]; exact c2
            · rw [u2_r, if_neg (by omega)]; exact c3
            · rw [show u2 ν13 106 13 (nI (E.length + 1)) 113 = ν13 113 by rw [u2_w, if_neg (by omega)]]
              exact c4 a ha
            · rw [show u2 ν13 106 13 (nI (E.length + 1)) 114 = ν13 114 by rw [u2_w, if_neg (by omega)], show u2 ν13 106 13 (nI (E.length + 1)) 115 = ν13 115 by rw [u2_w, if_neg (by omega)]]
              exact c5 b hb
      | some kd =>
        rw [hak] at a1
        simp only [] at a1
        have hkd : kd < 10 := by
          have := ak_lt 10 0 hak
          omega
        rw [if_neg (show ¬ krI (some kd) = -1000000 from mNn (by omega))]
        refine ok_b (r_rAct (f7.tr h) a5 a6 a0 a7 hkd a3 hnc) ?_
        rintro ν15 ⟨f15, q15⟩
        cases htk : pTake T N nc L' E.length kd k' with
        | inl e =>
          rw [htk] at q15 a1
          simp only [] at a1
          have q15' : FsI ν15 T N e.1 e.2 := q15
          rw [r_kow_f q15', ob_s]
          exact ok_s (Or.inr ⟨_, 0, rfl, by omega, f7.trans f15, Or.inr ⟨rfl, e, a1.symm, q15'⟩⟩)
        | inr w =>
          rw [htk] at q15 a1
          simp only [] at a1
          obtain ⟨b1, b2, b3⟩ := q15
          obtain ⟨t1, t2, t3, t4, t5⟩ := pTake_r a6 hkd rfl a8 a9 htk
          rw [r_kow ((f7.trans f15).tr h) b2 t3, if_pos b1, ob_s]
          exact ok_s (Or.inr ⟨_, n, rfl, by omega, f7.trans f15, Or.inl ⟨b1, w.1, w.2, a1, by omega, by omega, rfl, b2, t3, b3, t4, t5⟩⟩)
    · rw [if_neg b2.ne.1]
      refine ok_s (Or.inl ⟨_, rfl, ?_⟩)
      rw [b1]
      exact hinc ν7 e.1 e.2 b2 f7
theorem r_rBef {μ : MT} {T : Nat → Nat} {N nc : Nat} {L : List AC} {E : List Nat} {B : List (Nat × Nat)} {k : PT} (h : TrI μ T N) (hk : RkI μ k) (hok : TkOK T N k) (h27 : μ 106 27 = 0) (hc : RPl μ nc L E B) (hw : wsB T k 12 = true) (hE : E.length ≤ 6) (hB : B.length ≤ 10) :
    Ok (m_X9_readBefore Zc 106 μ) (fun ν => FrQ μ ν ∧ RRs T N ν (pBef T N E.length B k) (fun r ν => RkI ν r.2 ∧ RPl ν nc L E r.1)) := by
  obtain ⟨-, -, -, -, -, -, -, -, -, -, -, -, c12⟩ := cw_n
  unfold m_X9_readBefore pBef
  simp only [zA]
  rw [hc.1.2.2.2]
  have hfin : ∀ (ν : MT) (c pl : Nat) (r9 r11 : Int32), FsI ν T N c pl → Ok ((m_X9_mustEnd Zc 106 ν).bind fun ν13 => (if (ν13 106 27) = 0 then (ast Zc ν13 114 (ν13 106 15) r9).bind fun ν15 => (ast Zc ν15 115 (ν15 106 15) r11).bind fun ν17 => (some (u2 ν17 106 15 ((ν17 106 15) + 1))).bind fun ν18 => some ν18 else some ν13)) (fun ν' => ν' = ν) := fun ν c pl r9 r11 hf => by
    rw [r_end_f hf, ob_s, if_neg hf.ne.1]
    exact ok_s rfl
  by_cases h10 : 10 ≤ B.length
  · rw [if_pos (by rw [show B.length = 10 by omega]; rfl), if_pos h10]
    refine ok_b (R1 := fun ν => FsI ν T N 3 k.1 ∧ FrU μ ν) ?_ ?_
    · refine ok_b (r_bad (c := 3) h hk hok h27 (by omega)) ?_
      rintro ν ⟨g1, g2, g3⟩
      exact ok_s ⟨g1, g2⟩
    · rintro ν1 ⟨g1, g2⟩
      rw [r_word_f g1, ob_s, if_neg (z_c (by decide)), ob_s, r_must_f g1, ob_s, r_num_f g1, ob_s]
      dsimp only
      rw [r_num_f g1, ob_s]
      dsimp only
      refine ok_m (hfin ν1 3 k.1 0 0 g1) ?_
      rintro ν' rfl
      exact ⟨FrQ.of g2, g1⟩
  · rw [if_neg (by rw [x_eql (by omega) (by omega)]; omega), if_neg h10, ob_s, r_word h hk hok, if_pos h27, ob_s, if_pos ((wr_c hok (show 12 < 13 by omega) c12).mpr hw), ob_s]
    refine ok_b (r_must1 h hk hok h27) ?_
    rintro ν8 ⟨g1, g2, g3⟩
    have h8 := g2.tr h
    have hc8 := hc.fr g2
    have hok1 : TkOK T N (tkA T N k.2.1) := tk_ok hok.2.1
    generalize tkA T N k.2.1 = k1 at g1 hok1 ⊢
    refine ok_b (r_num (a := 0) (z := -1000000) (P := rgB 0 E.length) h8 g1 hok1 g3 (rg_Q (lo := 0) (hi := E.length) rfl (by omega) (by omega) (by rw [hc8.1.2.1]))) ?_
    rintro ⟨r9, ν10⟩ ⟨f10, q10⟩
    have fU10 := g2.trans f10
    simp only [] at f10 q10 fU10 ⊢
    cases h1 : pNum T N (rgB 0 E.length) k1 with
    | inl e =>
      rw [h1] at q10
      have q10' : FsI ν10 T N e.1 e.2 := q10
      rw [r_num_f q10', ob_s]
      dsimp only
      refine ok_m (hfin ν10 e.1 e.2 r9 0 q10') ?_
      rintro ν' rfl
      exact ⟨FrQ.of fU10, q10'⟩
    | inr w =>
      rw [h1] at q10
      obtain ⟨q1, q2, q3⟩ := q10
      subst q1
      have h10' := f10.tr h8
      have hc10 := hc8.fr f10
      obtain ⟨w1, w2, w3, w4⟩ := pNum_r h1
      have hokw : TkOK T N w.2 := by rw [w3]; exact tk_ok hok1.2.1
      have hwl : w.1 ≤ 99 := by rw [w4]; exact nv_le hok1 w2
      refine ok_b (r_num (a := 0) (z := nI w.1) (P := neB E.length w.1) h10' q2 hokw q3 (ne_Q (by omega) (by omega) (by rw [hc10.1.2.1]))) ?_
      rintro ⟨r11, ν12⟩ ⟨f12, q12⟩
      have fU12 := fU10.trans f12
      simp only [] at f12 q12 fU12 ⊢
      cases h3 : pNum T N (neB E.length w.1) w.2 with
      | inl e =>
        rw [h3] at q12
        have q12' : FsI ν12 T N e.1 e.2 := q12
        refine ok_m (hfin ν12 e.1 e.2 (nI w.1) r11 q12') ?_
        rintro ν' rfl
        exact ⟨FrQ.of fU12, q12'⟩
      | inr v =>
        rw [h3] at q12
        obtain ⟨p1, p2, p3⟩ := q12
        subst p1
        obtain ⟨v1, v2, v3, v4⟩ := pNum_r h3
        have hokv : TkOK T N v.2 := by rw [v3]; exact tk_ok hokw.2.1
        refine ok_b (r_end (f12.tr h10') p2 hokv p3) ?_
        rintro ν13 ⟨f13, q13⟩
        have fU13 := fU12.trans f13
        simp only []
        cases h5 : pSgn T N v.2 with
        | inl e =>
          rw [h5] at q13
          have q13' : FsI ν13 T N e.1 e.2 := q13
          rw [if_neg q13'.ne.1]
          exact ok_s ⟨FrQ.of fU13, q13'⟩
        | inr u =>
          rw [h5] at q13
          obtain ⟨s1, s2⟩ := q13
          have hc13 := (hc10.fr f12).fr f13
          obtain ⟨⟨c0, c1, c2, c3⟩, c4, c5⟩ := hc13
          rw [if_pos s2, c3, as_114 (by omega), ob_s]
          have e1 : u2 ν13 114 B.length (nI w.1) 106 = ν13 106 := by rw [u2_w, if_neg (by omega)]
          rw [e1, c3, as_115 (by omega), ob_s]
          have e2 : u2 (u2 ν13 114 B.length (nI w.1)) 115 B.length (nI v.1) 106 = ν13 106 := by rw [u2_w, if_neg (by omega)]; exact e1
          rw [e2, c3, n1, ob_s]
          refine ok_s ⟨(((FrQ.of fU13).w (by omega)).w (by omega)).w6 (by omega), ?_, rk_fr s1 (fun j a b => by rw [u2_r, if_neg (by omega), e2]), ⟨?_, ?_, ?_, ?_⟩, fun a ha => ?_, fun b hb => ?_⟩
          · rw [u2_r, if_neg (by omega), e2]; exact s2
          · rw [u2_r, if_neg (by omega), e2]; exact c0
          · rw [u2_r, if_neg (by omega), e2]; exact c1
          · rw [u2_r, if_neg (by omega), e2]; exact c2
          · rw [u2_r, if_pos ⟨rfl, rfl⟩]; simp
          · have : u2 (u2 (u2 ν13 114 B.length (nI w.1)) 115 B.length (nI v.1)) 106 15 (nI (B.length + 1)) 113 = ν13 113 := by rw [u2_w, if_neg (by omega), u2_w, if_neg (by omega), u2_w, if_neg (by omega)]
            rw [this]
            exact c4 a ha
          · rw [getD_app]
            by_cases hbl : b = B.length
            · subst hbl
              rw [if_pos rfl]
              refine ⟨?_, ?_⟩ <;> simp [u2_r]
            · rw [if_neg hbl]
              have := c5 b (by simp at hb; omega)
              refine ⟨?_, ?_⟩ <;> simp [u2_r, hbl, this]
end
section
/-! ===== the reference reads a whole plan ===== -/
theorem r_seamL {μ : MT} {T : Nat → Nat} {N nc : Nat} {k : PT} (h : TrI μ T N) (hk : RkI μ k) (hok : TkOK T N k) (h27 : μ 106 27 = 0) (hc : RPl μ nc [] [] []) (hnc : nc ≤ 12) {γ : Type} {G : MT → Option γ} {R : γ → Prop}
    (hG : ∀ ν, FrQ μ ν → RRs T N ν (pSeams T N nc 7 ([], []) k) (fun r ν => RkI ν r.2 ∧ RPl ν nc r.1.1 r.1.2 []) → Ok (G ν) R) :
    Ok ((loop (σ := MT) (τ := MT) (fun ν19 => ((m_X9_word Zc 106 ν19).bind fun r88 => (if (lg_cmp r88 1936023917) = 0 then (m_X9_readSeam Zc 106 ν19).bind fun ν89 => some (Sum.inl ν89) else some (Sum.inr ν19)) : Option ((MT) ⊕ (MT)))) LN μ).bind G) R := by
  obtain ⟨-, -, -, -, -, -, -, -, -, -, -, c11, -⟩ := cw_n
  have hg0 : GdA nc [] := fun a ha => by simp at ha
  have hs0 : SgA [] [] := ⟨fun s hs => by simp at hs, Nat.le_refl _, fun a h1 h2 => by simp at h2⟩
  generalize htg : pSeams T N nc 7 ([], []) k = tgt at hG
  refine ok_l (fun m ν => FrQ μ ν ∧ ((ν 106 27 = 0 ∧ ∃ LE k', pSeams T N nc m LE k' = tgt ∧ 7 ≤ LE.2.length + m ∧ LE.2.length ≤ 6 ∧ LE.1.length ≤ 40 ∧ RkI ν k' ∧ TkOK T N k' ∧ RPl ν nc LE.1 LE.2 [] ∧ GdA nc LE.1 ∧ SgA LE.1 LE.2 ∧ eE LE.2 LE.2.length = LE.1.length) ∨ (m = 0 ∧ ∃ e : Nat × Nat, tgt = .inl e ∧ FsI ν T N e.1 e.2))) 7 (by omega) ⟨FrQ.refl μ, Or.inl ⟨h27, ([], []), k, htg, by simp, by simp, by simp, hk, hok, hc, hg0, hs0, rfl⟩⟩ ?_
  rintro m ν8 ⟨f8, hh⟩
  rcases hh with ⟨a0, LE, k', a1, a2, a3, a4, a6, a7, a8, a9, a10, a11⟩ | ⟨rfl, e, b1, b2⟩
  · obtain ⟨n, rfl⟩ : ∃ n, m = n + 1 := ⟨m - 1, by omega⟩
    rw [pSeams] at a1
    have h8 := f8.tr h
    rw [r_word h8 a6 a7, if_pos a0, ob_s]
    have hwc := wr_c a7 (show 11 < 13 by omega) c11
    by_cases hw : wsB T k' 11 = true
    · rw [if_pos (hwc.mpr hw)]
      rw [if_pos hw] at a1
      refine ok_b (r_rSeam h8 a6 a7 a0 a8 a4 a3 hnc a9 a10) ?_
      rintro ν34 ⟨f34, q34⟩
      cases hsm : pSeam T N nc LE.1 LE.2 k' with
      | inl e =>
        rw [hsm] at q34 a1
        simp only [] at a1
        exact ok_s (Or.inr ⟨_, 0, rfl, by omega, f8.trans f34, Or.inr ⟨rfl, e, a1.symm, q34⟩⟩)
      | inr w =>
        rw [hsm] at q34 a1
        simp only [] at a1
        obtain ⟨t1, t2, t3, t4, t5, t6, t7⟩ := pSeam_r a7 a4 a9 a10 a11 hsm
        exact ok_s (Or.inr ⟨_, n, rfl, by omega, f8.trans f34, Or.inl ⟨q34.1, w.1, w.2, a1, by omega, by omega, t1, q34.2.1, t4, q34.2.2, t5, t6, t7⟩⟩)
    · rw [if_neg (fun hq => hw (hwc.mp hq))]
      rw [if_neg hw] at a1
      refine ok_s (Or.inl ⟨_, rfl, hG ν8 f8 ?_⟩)
      rw [← a1]
      exact ⟨a0, a6, a8⟩
  · rw [r_word_f b2, ob_s, if_neg (z_c (by decide))]
    exact ok_s (Or.inl ⟨_, rfl, hG ν8 f8 (by rw [b1]; exact b2)⟩)
theorem r_seamF {μ : MT} {T : Nat → Nat} {N c pl : Nat} (hf : FsI μ T N c pl) {γ : Type} {G : MT → Option γ} {R : γ → Prop} (hG : Ok (G μ) R) :
    Ok ((loop (σ := MT) (τ := MT) (fun ν19 => ((m_X9_word Zc 106 ν19).bind fun r88 => (if (lg_cmp r88 1936023917) = 0 then (m_X9_readSeam Zc 106 ν19).bind fun ν89 => some (Sum.inl ν89) else some (Sum.inr ν19)) : Option ((MT) ⊕ (MT)))) LN μ).bind G) R := by
  refine ok_l (fun m s => s = μ) 0 (by omega) rfl ?_
  rintro m s rfl
  rw [r_word_f hf, ob_s, if_neg (z_c (by decide))]
  exact ok_s (Or.inl ⟨_, rfl, hG⟩)
def pEnd (o : (Nat × Nat) ⊕ (List (Nat × Nat) × PT)) : (Nat × Nat) ⊕ List (Nat × Nat) := match o with
  | .inl e => .inl e
  | .inr w => if w.2.2.2 = 0 then .inr w.1 else .inl (1, w.2.1)
theorem r_befL {μ : MT} {T : Nat → Nat} {N nc : Nat} {L : List AC} {E : List Nat} {k : PT} (h : TrI μ T N) (hk : RkI μ k) (hok : TkOK T N k) (h27 : μ 106 27 = 0) (hc : RPl μ nc L E []) (hE : E.length ≤ 6) {γ : Type} {G : MT → Option γ} {R : γ → Prop}
    (hG : ∀ ν, FrQ μ ν → RRs T N ν (pEnd (pBefs T N E.length 11 [] k)) (fun B ν => RPl ν nc L E B) → Ok (G ν) R) :
    Ok ((loop (σ := MT) (τ := MT) (fun ν25 => ((if (ν25 106 27) = 0 then (if (ν25 106 24) = 1 then some (Sum.inr ν25) else (m_X9_word Zc 106 ν25).bind fun r85 => (if (lg_cmp r85 108187649798757) = 0 then (m_X9_readBefore Zc 106 ν25).bind fun ν86 => some (Sum.inl ν86) else (m_X9_bad Zc 106 1 ν25).bind fun ν87 => some (Sum.inl ν87))) else some (Sum.inr ν25)) : Option ((MT) ⊕ (MT)))) LN μ).bind G) R := by
  obtain ⟨-, -, -, -, -, -, -, -, -, -, -, -, c12⟩ := cw_n
  have hb0 : BfA E.length [] := fun a ha => by simp at ha
  generalize htg : pEnd (pBefs T N E.length 11 [] k) = tgt at hG
  refine ok_l (fun m ν => FrQ μ ν ∧ ((ν 106 27 = 0 ∧ ∃ B k', pEnd (pBefs T N E.length m B k') = tgt ∧ 11 ≤ B.length + m ∧ B.length ≤ 10 ∧ RkI ν k' ∧ TkOK T N k' ∧ RPl ν nc L E B ∧ BfA E.length B) ∨ (m = 0 ∧ ∃ e : Nat × Nat, tgt = .inl e ∧ FsI ν T N e.1 e.2))) 11 (by omega) ⟨FrQ.refl μ, Or.inl ⟨h27, [], k, htg, by simp, by simp, hk, hok, hc, hb0⟩⟩ ?_
  rintro m ν8 ⟨f8, hh⟩
  rcases hh with ⟨a0, B, k', a1, a2, a3, a6, a7, a8, a9⟩ | ⟨rfl, e, b1, b2⟩
  · obtain ⟨n, rfl⟩ : ∃ n, m = n + 1 := ⟨m - 1, by omega⟩
    rw [pBefs] at a1
    have h8 := f8.tr h
    have htc := (tc_1 a7.2.2.1).2.2.2
    have hwc := wr_c a7 (show 12 < 13 by omega) c12
    rw [if_pos a0, a6.2.1]
    by_cases hs0 : k'.2.2 = 0
    · rw [if_pos (htc.mpr hs0)]
      have hw : ¬ wsB T k' 12 = true := fun hq => by
        unfold wsB at hq
        simp only [Bool.and_eq_true, decide_eq_true_eq] at hq
        omega
      rw [if_neg hw] at a1
      refine ok_s (Or.inl ⟨_, rfl, hG ν8 f8 ?_⟩)
      rw [← a1]
      unfold pEnd
      simp only [if_pos hs0]
      exact ⟨a0, a8⟩
    · rw [if_neg (fun hq => hs0 (htc.mp hq)), r_word h8 a6 a7, if_pos a0, ob_s]
      by_cases hw : wsB T k' 12 = true
      · rw [if_pos (hwc.mpr hw)]
        rw [if_pos hw] at a1
        refine ok_b (r_rBef h8 a6 a7 a0 a8 hw hE a3) ?_
        rintro ν34 ⟨f34, q34⟩
        cases hsm : pBef T N E.length B k' with
        | inl e =>
          rw [hsm] at q34 a1
          exact ok_s (Or.inr ⟨_, 0, rfl, by omega, f8.trans f34, Or.inr ⟨rfl, e, a1.symm, q34⟩⟩)
        | inr w =>
          rw [hsm] at q34 a1
          simp only [] at a1
          obtain ⟨t1, t2, t3, t4⟩ := pBef_r a7 a9 hsm
          exact ok_s (Or.inr ⟨_, n, rfl, by omega, f8.trans f34, Or.inl ⟨q34.1, w.1, w.2, a1, by omega, by omega, q34.2.1, t3, q34.2.2, t4⟩⟩)
      · rw [if_neg (fun hq => hw (hwc.mp hq))]
        rw [if_neg hw] at a1
        refine ok_b (r_bad (c := 1) h8 a6 a7 a0 (by omega)) ?_
        rintro ν9 ⟨g1, g2, g3⟩
        refine ok_s (Or.inr ⟨_, 0, rfl, by omega, f8.trans (FrQ.of g2), Or.inr ⟨rfl, (1, k'.1), ?_, g1⟩⟩)
        rw [← a1]
        unfold pEnd
        simp only [if_neg hs0]
  · rw [if_neg b2.ne.1]
    exact ok_s (Or.inl ⟨_, rfl, hG ν8 f8 (by rw [b1]; exact b2)⟩)
theorem r_befF {μ : MT} {T : Nat → Nat} {N c pl : Nat} (hf : FsI μ T N c pl) {γ : Type} {G : MT → Option γ} {R : γ → Prop} (hG : Ok (G μ) R) :
    Ok ((loop (σ := MT) (τ := MT) (fun ν25 => ((if (ν25 106 27) = 0 then (if (ν25 106 24) = 1 then some (Sum.inr ν25) else (m_X9_word Zc 106 ν25).bind fun r85 => (if (lg_cmp r85 108187649798757) = 0 then (m_X9_readBefore Zc 106 ν25).bind fun ν86 => some (Sum.inl ν86) else (m_X9_bad Zc 106 1 ν25).bind fun ν87 => some (Sum.inl ν87))) else some (Sum.inr ν25)) : Option ((MT) ⊕ (MT)))) LN μ).bind G) R := by
  refine ok_l (fun m s => s = μ) 0 (by omega) rfl ?_
  rintro m s rfl
  rw [if_neg hf.ne.1]
  exact ok_s (Or.inl ⟨_, rfl, hG⟩)
/-- the plan as the reference keeps it -/
def RPn (ν : MT) (nc : Nat) (L : List AC) (E : List Nat) (B : List (Nat × Nat)) : Prop :=
  (ν 106 5 = nI nc ∧ ν 106 6 = nI E.length ∧ ν 106 7 = nI L.length ∧ ν 106 8 = nI B.length ∧ ν 106 31 = 0) ∧
  (∀ a, a < L.length → ν 110 (4 * a) = nI ((L.getD a aZ).1 + 1) ∧ ν 110 (4 * a + 1) = nI (L.getD a aZ).2.1 ∧ ν 110 (4 * a + 2) = (if (L.getD a aZ).1 < 7 then nI (L.getD a aZ).2.2.1 else -1000000) ∧ ν 110 (4 * a + 3) = nI (L.getD a aZ).2.2.2) ∧
  (∀ b, b < B.length → ν 111 b = nI (B.getD b (0, 0)).1 ∧ ν 112 b = nI (B.getD b (0, 0)).2) ∧ (∀ c, c < 12 → ν 117 c = 0) ∧ (∀ k, k < 6 → ν 118 k = nI k)
def FrN (μ ν : MT) : Prop := (∀ q, q < 106 ∨ (106 < q ∧ q < 110) ∨ q = 116 ∨ 118 < q → ν q = μ q) ∧ (∀ j, (0 < j ∧ j < 5) ∨ (8 < j ∧ j < 12) ∨ (15 < j ∧ j < 20) ∨ (28 < j ∧ j < 31) ∨ 31 < j → ν 106 j = μ 106 j) ∧ ν 106 20 = 0
theorem r_keep {μ : MT} {nc : Nat} {L : List AC} {E : List Nat} {B : List (Nat × Nat)} (hc : RPl μ nc L E B) (hl : L.length ≤ 40) (hB : B.length ≤ 10) (h27 : μ 106 27 = 0) :
    Ok (if (μ 106 27) ≤ 0 then (some (u2 μ 106 5 (μ 106 12))).bind fun ν31 => (some (u2 ν31 106 6 (ν31 106 13))).bind fun ν32 => (some (u2 ν32 106 7 (ν32 106 14))).bind fun ν33 => (some (u2 ν33 106 8 (ν33 106 15))).bind fun ν34 => (loop (σ := Int32 × MT) (τ := MT) (fun (y35, ν36) => ((if 160 ≤ y35 then some (Sum.inr ν36) else (ald Zc ν36 113 y35).bind fun x81 => (ast Zc ν36 110 y35 x81).bind fun ν82 => (some (y35 + 1)).bind fun x83 => some (Sum.inl (x83, ν82))) : Option ((Int32 × MT) ⊕ (MT)))) LN (0, ν34)).bind (fun ν37 => (loop (σ := Int32 × MT) (τ := MT) (fun (y42, ν43) => ((if 10 ≤ y42 then some (Sum.inr ν43) else (ald Zc ν43 114 y42).bind fun x72 => (ast Zc ν43 111 y42 x72).bind fun ν73 => (ald Zc ν73 115 y42).bind fun x76 => (ast Zc ν73 112 y42 x76).bind fun ν77 => (some (y42 + 1)).bind fun x78 => some (Sum.inl (x78, ν77))) : Option ((Int32 × MT) ⊕ (MT)))) LN (0, ν37)).bind (fun ν44 => (loop (σ := Int32 × MT) (τ := MT) (fun (y49, ν50) => ((if 12 ≤ y49 then some (Sum.inr ν50) else (ast Zc ν50 117 y49 0).bind fun ν68 => (some (y49 + 1)).bind fun x69 => some (Sum.inl (x69, ν68))) : Option ((Int32 × MT) ⊕ (MT)))) LN (0, ν44)).bind (fun ν51 => (some (u2 ν51 106 31 0)).bind fun ν56 => (loop (σ := Int32 × MT) (τ := MT) (fun (y57, ν58) => ((if 6 ≤ y57 then some (Sum.inr ν58) else (ast Zc ν58 118 y57 y57).bind fun ν65 => (some (y57 + 1)).bind fun x66 => some (Sum.inl (x66, ν65))) : Option ((Int32 × MT) ⊕ (MT)))) LN (0, ν56)).bind (fun ν59 => some (ν59 106 7, ν59))))) else (some (u2 μ 106 21 (μ 106 27))).bind fun ν84 => some ((-1000100) - (ν84 106 28), ν84))
      (fun q => q.1 = nI L.length ∧ RPn q.2 nc L E B ∧ (∀ k, k ≠ 106 → k ≠ 110 → k ≠ 111 → k ≠ 112 → k ≠ 117 → k ≠ 118 → q.2 k = μ k) ∧ (∀ j, (j < 5 ∨ 8 < j) → j ≠ 31 → q.2 106 j = μ 106 j)) := by
  obtain ⟨⟨c0, c1, c2, c3⟩, c4, c5⟩ := hc
  rw [if_pos (by rw [h27]; decide)]
  simp only [ob_s]
  have k5 : u2 (u2 (u2 (u2 μ 106 5 (μ 106 12)) 106 6 (u2 μ 106 5 (μ 106 12) 106 13)) 106 7 (u2 (u2 μ 106 5 (μ 106 12)) 106 6 (u2 μ 106 5 (μ 106 12) 106 13) 106 14)) 106 8 (u2 (u2 (u2 μ 106 5 (μ 106 12)) 106 6 (u2 μ 106 5 (μ 106 12) 106 13)) 106 7 (u2 (u2 μ 106 5 (μ 106 12)) 106 6 (u2 μ 106 5 (μ 106 12) 106 13) 106 14) 106 15) = u2 (u2 (u2 (u2 μ 106 5 (nI nc)) 106 6 (nI E.length)) 106 7 (nI L.length)) 106 8 (nI B.length) := by
    have e1 : u2 μ 106 5 (μ 106 12) 106 13 = nI E.length := by rw [u2_r, if_neg (by omega)]; exact c1
    have e2 : u2 (u2 μ 106 5 (μ 106 12)) 106 6 (nI E.length) 106 14 = nI L.length := by rw [u2_r, if_neg (by omega), u2_r, if_neg (by omega)]; exact c2
    have e3 : u2 (u2 (u2 μ 106 5 (μ 106 12)) 106 6 (nI E.length)) 106 7 (nI L.length) 106 15 = nI B.length := by rw [u2_r, if_neg (by omega), u2_r, if_neg (by omega), u2_r, if_neg (by omega)]; exact c3
    rw [e1, e2, e3, c0]
  rw [k5]
  have g5 : u2 (u2 (u2 (u2 μ 106 5 (nI nc)) 106 6 (nI E.length)) 106 7 (nI L.length)) 106 8 (nI B.length) 106 5 = nI nc := by simp [u2_r]
  have g6 : u2 (u2 (u2 (u2 μ 106 5 (nI nc)) 106 6 (nI E.length)) 106 7 (nI L.length)) 106 8 (nI B.length) 106 6 = nI E.length := by simp [u2_r]
  have g7 : u2 (u2 (u2 (u2 μ 106 5 (nI nc)) 106 6 (nI E.length)) 106 7 (nI L.length)) 106 8 (nI B.length) 106 7 = nI L.length := by simp [u2_r]
  have g8 : u2 (u2 (u2 (u2 μ 106 5 (nI nc)) 106 6 (nI E.length)) 106 7 (nI L.length)) 106 8 (nI B.length) 106 8 = nI B.length := by simp [u2_r]
  have gj : ∀ j, (j < 5 ∨ 8 < j) → u2 (u2 (u2 (u2 μ 106 5 (nI nc)) 106 6 (nI E.length)) 106 7 (nI L.length)) 106 8 (nI B.length) 106 j = μ 106 j := fun j hj => by
    rw [u2_r, if_neg (by omega), u2_r, if_neg (by omega), u2_r, if_neg (by omega), u2_r, if_neg (by omega)]
  have gk : ∀ k, k ≠ 106 → u2 (u2 (u2 (u2 μ 106 5 (nI nc)) 106 6 (nI E.length)) 106 7 (nI L.length)) 106 8 (nI B.length) k = μ k := fun k hk => by
    rw [u2_w, if_neg hk, u2_w, if_neg hk, u2_w, if_neg hk, u2_w, if_neg hk]
  generalize u2 (u2 (u2 (u2 μ 106 5 (nI nc)) 106 6 (nI E.length)) 106 7 (nI L.length)) 106 8 (nI B.length) = ω at g5 g6 g7 g8 gj gk ⊢
  refine ok_for (fun i ν => (∀ k, k ≠ 110 → ν k = ω k) ∧ ∀ j, j < i → ν 110 j = μ 113 j) 0 160 (by omega) (by omega) rfl ⟨fun _ _ => rfl, fun j hj => by omega⟩ ?_ ?_
  · rintro i ν _ hi ⟨f1, f2⟩
    simp only []
    rw [if_neg (by rw [x_lle (by omega) (by omega)]; omega), al_113 (by omega), ob_s, as_110 (by omega), ob_s, n1, f1 113 (by omega), gk 113 (by omega)]
    refine ok_s (Or.inl ⟨_, rfl, fun k hk => by rw [u2_w, if_neg hk]; exact f1 k hk, fun j hj => ?_⟩)
    rw [u2_r]
    by_cases hji : j = i
    · rw [if_pos ⟨rfl, hji⟩, hji]
    · rw [if_neg (by omega)]; exact f2 j (by omega)
  rintro ν1 ⟨f1, f2⟩
  simp only []
  rw [if_pos (by decide)]
  refine ok_s ⟨_, rfl, ?_⟩
  refine ok_for (fun i ν => (∀ k, k ≠ 111 → k ≠ 112 → ν k = ν1 k) ∧ ∀ j, j < i → ν 111 j = μ 114 j ∧ ν 112 j = μ 115 j) 0 10 (by omega) (by omega) rfl ⟨fun _ _ _ => rfl, fun j hj => by omega⟩ ?_ ?_
  · rintro i ν _ hi ⟨h1, h2⟩
    simp only []
    rw [if_neg (by rw [x_lle (by omega) (by omega)]; omega), al_114 (by omega), ob_s, as_111 (by omega), ob_s, al_115 (by omega), ob_s, as_112 (by omega), ob_s, n1, show u2 ν 111 i (ν 114 i) 115 = ν 115 by rw [u2_w, if_neg (by omega)], h1 114 (by omega) (by omega), h1 115 (by omega) (by omega), f1 114 (by omega), f1 115 (by omega), gk 114 (by omega), gk 115 (by omega)]
    refine ok_s (Or.inl ⟨_, rfl, fun k a b => by rw [u2_w, if_neg b, u2_w, if_neg a]; exact h1 k a b, fun j hj => ?_⟩)
    by_cases hji : j = i
    · subst hji
      constructor
      · rw [u2_r, if_neg (by omega), u2_r, if_pos ⟨rfl, rfl⟩]
      · rw [u2_r, if_pos ⟨rfl, rfl⟩]
    · obtain ⟨d1, d2⟩ := h2 j (by omega)
      constructor
      · rw [u2_r, if_neg (by omega), u2_r, if_neg (by omega)]; exact d1
      · rw [u2_r, if_neg (by omega), u2_r, if_neg (by omega)]; exact d2
  rintro ν2 ⟨h1, h2⟩
  simp only []
  rw [if_pos (by decide)]
  refine ok_s ⟨_, rfl, ?_⟩
  refine ok_for (fun i ν => (∀ k, k ≠ 117 → ν k = ν2 k) ∧ ∀ j, j < i → ν 117 j = 0) 0 12 (by omega) (by omega) rfl ⟨fun _ _ => rfl, fun j hj => by omega⟩ ?_ ?_
  · rintro i ν _ hi ⟨p1, p2⟩
    simp only []
    rw [if_neg (by rw [x_lle (by omega) (by omega)]; omega), as_117 (by omega), ob_s, n1]
    refine ok_s (Or.inl ⟨_, rfl, fun k hk => by rw [u2_w, if_neg hk]; exact p1 k hk, fun j hj => ?_⟩)
    rw [u2_r]
    by_cases hji : j = i
    · rw [if_pos ⟨rfl, hji⟩]
    · rw [if_neg (by omega)]; exact p2 j (by omega)
  rintro ν3 ⟨p1, p2⟩
  simp only []
  rw [if_pos (by decide)]
  refine ok_s ⟨_, rfl, ?_⟩
  have s1 : ∀ k, k ≠ 106 → u2 ν3 106 31 0 k = ν3 k := fun k hk => by rw [u2_w, if_neg hk]
  have s2 : ∀ j, j ≠ 31 → u2 ν3 106 31 0 106 j = ν3 106 j := fun j hj => by rw [u2_r, if_neg (by omega)]
  have s3 : u2 ν3 106 31 0 106 31 = 0 := by rw [u2_r, if_pos ⟨rfl, rfl⟩]
  generalize u2 ν3 106 31 0 = ν4 at s1 s2 s3 ⊢
  refine ok_for (fun i ν => (∀ k, k ≠ 118 → ν k = ν4 k) ∧ ∀ j, j < i → ν 118 j = nI j) 0 6 (by omega) (by omega) rfl ⟨fun _ _ => rfl, fun j hj => by omega⟩ ?_ ?_
  · rintro i ν _ hi ⟨t1, t2⟩
    simp only []
    rw [if_neg (by rw [x_lle (by omega) (by omega)]; omega), as_118 (by omega), ob_s, n1]
    refine ok_s (Or.inl ⟨_, rfl, fun k hk => by rw [u2_w, if_neg hk]; exact t1 k hk, fun j hj => ?_⟩)
    rw [u2_r]
    by_cases hji : j = i
    · rw [if_pos ⟨rfl, hji⟩, hji]
    · rw [if_neg (by omega)]; exact t2 j (by omega)
  rintro ν5 ⟨t1, t2⟩
  simp only []
  rw [if_pos (by decide)]
  refine ok_s ⟨_, rfl, ?_⟩
  have j6 : ∀ j, j ≠ 31 → ν5 106 j = ω 106 j := fun j hj => by rw [t1 106 (by omega), s2 j hj, p1 106 (by omega), h1 106 (by omega) (by omega), f1 106 (by omega)]
  have jk : ∀ k, k ≠ 106 → k ≠ 110 → k ≠ 111 → k ≠ 112 → k ≠ 117 → k ≠ 118 → ν5 k = μ k := fun k a b c d e f => by rw [t1 k f, s1 k a, p1 k e, h1 k c d, f1 k b, gk k a]
  have j110 : ∀ j, j < 160 → ν5 110 j = μ 113 j := fun j hj => by rw [t1 110 (by omega), s1 110 (by omega), p1 110 (by omega), h1 110 (by omega) (by omega)]; exact f2 j hj
  refine ok_s ⟨?_, ⟨⟨?_, ?_, ?_, ?_, ?_⟩, fun a ha => ?_, fun b hb => ?_, fun c hc => ?_, t2⟩, jk, fun j a b => ?_⟩
  · show ν5 106 7 = _
    rw [j6 7 (by omega)]; exact g7
  · show ν5 106 5 = _
    rw [j6 5 (by omega)]; exact g5
  · show ν5 106 6 = _
    rw [j6 6 (by omega)]; exact g6
  · show ν5 106 7 = _
    rw [j6 7 (by omega)]; exact g7
  · show ν5 106 8 = _
    rw [j6 8 (by omega)]; exact g8
  · show ν5 106 31 = _
    rw [t1 106 (by omega)]; exact s3
  · dsimp only
    rw [j110 (4 * a) (by omega), j110 (4 * a + 1) (by omega), j110 (4 * a + 2) (by omega), j110 (4 * a + 3) (by omega)]
    exact c4 a ha
  · have e1 : ν5 111 b = ν2 111 b := by rw [t1 111 (by omega), s1 111 (by omega), p1 111 (by omega)]
    have e2 : ν5 112 b = ν2 112 b := by rw [t1 112 (by omega), s1 112 (by omega), p1 112 (by omega)]
    obtain ⟨d1, d2⟩ := h2 b (by omega)
    show ν5 111 b = _ ∧ ν5 112 b = _
    rw [e1, e2, d1, d2]
    exact c5 b hb
  · show ν5 117 c = 0
    rw [t1 117 (by omega), s1 117 (by omega)]; exact p2 c hc
  · show ν5 106 j = _
    rw [j6 j b]; exact gj j a
end
section
/-! ===== the reference's plan ===== -/
theorem r_plan {μ : MT} {T : Nat → Nat} {N : Nat} (hN : N ≤ 500) (e20 : μ 106 20 = nI N) (hT : ∀ j, j < N → T j < 256 ∧ μ 116 j = nI (T j)) :
    Ok (m_X9_plan Zc 106 μ) (fun q => FrN μ q.2 ∧ match pPlan T N with
      | .inl e => q.1 = -1000100 - nI e.2 ∧ q.2 106 21 = nI e.1 ∧ (∀ j, (5 ≤ j ∧ j ≤ 8) ∨ j = 31 → q.2 106 j = μ 106 j) ∧ (∀ k, (110 ≤ k ∧ k ≤ 112) ∨ k = 117 ∨ k = 118 → q.2 k = μ k)
      | .inr r => q.1 = nI r.2.1.1.length ∧ RPn q.2 r.1 r.2.1.1 r.2.1.2 r.2.2 ∧ q.2 106 21 = μ 106 21) := by
  obtain ⟨-, -, -, -, -, -, -, -, -, -, c10, -, -⟩ := cw_n
  unfold m_X9_plan
  simp only [zA]
  rw [ob_s, ob_s, ob_s, ob_s, ob_s, ob_s, ob_s, ob_s]
  have k20 : u2 μ 106 0 0 106 20 = nI N := by rw [u2_r, if_neg (by omega)]; exact e20
  rw [k20]
  have g22 : u2 (u2 (u2 (u2 (u2 (u2 (u2 (u2 μ 106 0 0) 106 22 (nI N)) 106 20 0) 106 23 0) 106 27 0) 106 13 0) 106 14 0) 106 15 0 106 22 = nI N := by simp [u2_r]
  have g20 : u2 (u2 (u2 (u2 (u2 (u2 (u2 (u2 μ 106 0 0) 106 22 (nI N)) 106 20 0) 106 23 0) 106 27 0) 106 13 0) 106 14 0) 106 15 0 106 20 = 0 := by simp [u2_r]
  have g23 : u2 (u2 (u2 (u2 (u2 (u2 (u2 (u2 μ 106 0 0) 106 22 (nI N)) 106 20 0) 106 23 0) 106 27 0) 106 13 0) 106 14 0) 106 15 0 106 23 = nI 0 := by simp [u2_r]; rfl
  have g27 : u2 (u2 (u2 (u2 (u2 (u2 (u2 (u2 μ 106 0 0) 106 22 (nI N)) 106 20 0) 106 23 0) 106 27 0) 106 13 0) 106 14 0) 106 15 0 106 27 = 0 := by simp [u2_r]
  have g13 : u2 (u2 (u2 (u2 (u2 (u2 (u2 (u2 μ 106 0 0) 106 22 (nI N)) 106 20 0) 106 23 0) 106 27 0) 106 13 0) 106 14 0) 106 15 0 106 13 = 0 := by simp [u2_r]
  have g14 : u2 (u2 (u2 (u2 (u2 (u2 (u2 (u2 μ 106 0 0) 106 22 (nI N)) 106 20 0) 106 23 0) 106 27 0) 106 13 0) 106 14 0) 106 15 0 106 14 = 0 := by simp [u2_r]
  have g15 : u2 (u2 (u2 (u2 (u2 (u2 (u2 (u2 μ 106 0 0) 106 22 (nI N)) 106 20 0) 106 23 0) 106 27 0) 106 13 0) 106 14 0) 106 15 0 106 15 = 0 := by simp [u2_r]
  have gj : ∀ j, (0 < j ∧ j < 12) ∨ (15 < j ∧ j < 20) ∨ j = 21 ∨ 28 < j → u2 (u2 (u2 (u2 (u2 (u2 (u2 (u2 μ 106 0 0) 106 22 (nI N)) 106 20 0) 106 23 0) 106 27 0) 106 13 0) 106 14 0) 106 15 0 106 j = μ 106 j := fun j hj => by
    rw [u2_r, if_neg (by omega), u2_r, if_neg (by omega), u2_r, if_neg (by omega), u2_r, if_neg (by omega), u2_r, if_neg (by omega), u2_r, if_neg (by omega), u2_r, if_neg (by omega), u2_r, if_neg (by omega)]
  have gk : ∀ k, k ≠ 106 → u2 (u2 (u2 (u2 (u2 (u2 (u2 (u2 μ 106 0 0) 106 22 (nI N)) 106 20 0) 106 23 0) 106 27 0) 106 13 0) 106 14 0) 106 15 0 k = μ k := fun k hk => by
    rw [u2_w, if_neg hk, u2_w, if_neg hk, u2_w, if_neg hk, u2_w, if_neg hk, u2_w, if_neg hk, u2_w, if_neg hk, u2_w, if_neg hk, u2_w, if_neg hk]
  generalize u2 (u2 (u2 (u2 (u2 (u2 (u2 (u2 μ 106 0 0) 106 22 (nI N)) 106 20 0) 106 23 0) 106 27 0) 106 13 0) 106 14 0) 106 15 0 = ν8 at g22 g20 g23 g27 g13 g14 g15 gj gk ⊢
  have htr : TrI ν8 T N := ⟨hN, g22, fun j hj => by rw [gk 116 (by omega)]; exact hT j hj⟩
  have hfrn : ∀ ν, FrQ ν8 ν → FrN μ ν := fun ν f => by
    refine ⟨fun q hq => ?_, fun j hj => ?_, ?_⟩
    · by_cases h6 : q = 106
      · omega
      · rw [f.1 q h6 (by omega), gk q h6]
    · rw [f.2 j (by omega), gj j (by omega)]
    · rw [f.2 20 (by omega)]; exact g20
  refine ok_b (r_tnext htr (by omega) g23) ?_
  rintro ν9 ⟨k1, f9, k27, k28⟩
  rw [g27] at k27
  have h9 := f9.tr htr
  have hok0 : TkOK T N (tkA T N 0) := tk_ok (by omega)
  unfold pPlan
  generalize tkA T N 0 = k0 at k1 hok0 ⊢
  rw [r_word h9 k1 hok0, if_pos k27, ob_s]
  have hwc := wr_c hok0 (show 10 < 13 by omega) c10
  -- the end with a fault
  have hfault : ∀ (ν : MT) (e : Nat × Nat), FrQ ν8 ν → FsI ν T N e.1 e.2 → ∀ {X : Option (Int32 × MT)}, Ok (if (ν 106 27) ≤ 0 then X else (some (u2 ν 106 21 (ν 106 27))).bind fun ν84 => some ((-1000100) - (ν84 106 28), ν84)) (fun q => FrN μ q.2 ∧ (q.1 = -1000100 - nI e.2 ∧ q.2 106 21 = nI e.1 ∧ (∀ j, (5 ≤ j ∧ j ≤ 8) ∨ j = 31 → q.2 106 j = μ 106 j) ∧ (∀ k, (110 ≤ k ∧ k ≤ 112) ∨ k = 117 ∨ k = 118 → q.2 k = μ k))) := fun ν e f hf X => by
    rw [if_neg hf.ne.2, ob_s]
    have hq := hfrn ν f
    refine ok_s ⟨⟨fun q h1 => ?_, fun j h1 => ?_, ?_⟩, ?_, ?_, fun j h1 => ?_, fun k h1 => ?_⟩
    · show u2 ν 106 21 (ν 106 27) q = _
      rw [u2_w, if_neg (by omega)]; exact hq.1 q h1
    · show u2 ν 106 21 (ν 106 27) 106 j = _
      rw [u2_r, if_neg (by omega)]; exact hq.2.1 j h1
    · show u2 ν 106 21 (ν 106 27) 106 20 = _
      rw [u2_r, if_neg (by omega)]; exact hq.2.2
    · show -1000100 - u2 ν 106 21 (ν 106 27) 106 28 = _
      rw [u2_r, if_neg (by omega), hf.2.2.2.1]
    · show u2 ν 106 21 (ν 106 27) 106 21 = _
      rw [u2_r, if_pos ⟨rfl, rfl⟩]; exact hf.1
    · show u2 ν 106 21 (ν 106 27) 106 j = _
      rw [u2_r, if_neg (by omega), f.2 j (by omega), gj j (by omega)]
    · show u2 ν 106 21 (ν 106 27) k = _
      rw [u2_w, if_neg (by omega), f.1 k (by omega) (by omega), gk k (by omega)]
  have fq9 : FrQ ν8 ν9 := FrQ.of f9
  unfold pPan
  by_cases hw : wsB T k0 10 = true
  case neg =>
    rw [if_neg (fun hq => hw (hwc.mp hq)), ob_s, if_neg hw]
    refine ok_b (r_must0 h9 k1 hok0 k27) ?_
    rintro ν14 ⟨a1, a2⟩
    rw [r_num_f a1, ob_s]
    dsimp only
    rw [ob_s]
    have hf17 : FsI (u2 ν14 106 12 0) T N 1 k0.1 := fs_fr a1 (fun q hq => by rw [u2_w, if_neg (by omega)]) (fun j a b => by rw [u2_r, if_neg (by omega)])
    have fq17 : FrQ ν8 (u2 ν14 106 12 0) := (fq9.trans (FrQ.of a2)).w6 (by omega)
    rw [r_end_f hf17, ob_s]
    refine r_seamF hf17 ?_
    refine r_befF hf17 ?_
    exact hfault _ (1, k0.1) fq17 hf17
  rw [if_pos (hwc.mpr hw), ob_s, if_pos hw]
  refine ok_b (r_must1 h9 k1 hok0 k27) ?_
  rintro ν14 ⟨a1, a2, a3⟩
  have h14 := a2.tr h9
  have fq14 := fq9.trans (FrQ.of a2)
  have hok1 : TkOK T N (tkA T N k0.2.1) := tk_ok hok0.2.1
  generalize tkA T N k0.2.1 = k2 at a1 hok1 ⊢
  refine ok_b (r_num (a := 4) (b := 12) (z := -1000000) (P := rgB 4 13) h14 a1 hok1 a3 (rg_Q (lo := 4) (hi := 13) rfl (by omega) (by omega) (by decide))) ?_
  rintro ⟨r15, ν16⟩ ⟨f16, q16⟩
  have fq16 := fq14.trans (FrQ.of f16)
  dsimp only at f16 q16 fq16 ⊢
  rw [ob_s]
  have fq17 : FrQ ν8 (u2 ν16 106 12 r15) := fq16.w6 (by omega)
  cases h1 : pNum T N (rgB 4 13) k2 with
  | inl e =>
    rw [h1] at q16
    have hf17 : FsI (u2 ν16 106 12 r15) T N e.1 e.2 := fs_fr (show FsI ν16 T N e.1 e.2 from q16) (fun q hq => by rw [u2_w, if_neg (by omega)]) (fun j a b => by rw [u2_r, if_neg (by omega)])
    rw [r_end_f hf17, ob_s]
    refine r_seamF hf17 ?_
    refine r_befF hf17 ?_
    exact hfault _ e fq17 hf17
  | inr w =>
    rw [h1] at q16
    obtain ⟨q1, q2, q3⟩ := q16
    subst q1
    obtain ⟨w1, w2, w3, w4⟩ := pNum_r h1
    rw [rg_i] at w1
    have hokw : TkOK T N w.2 := by rw [w3]; exact tk_ok hok1.2.1
    have hR17 : RPl (u2 ν16 106 12 (nI w.1)) w.1 [] [] [] := by
      refine ⟨⟨?_, ?_, ?_, ?_⟩, fun a ha => by simp at ha, fun b hb => by simp at hb⟩
      · rw [u2_r, if_pos ⟨rfl, rfl⟩]
      · rw [u2_r, if_neg (by omega), f16.2 13 (by omega), a2.2 13 (by omega), f9.2 13 (by omega), g13]; rfl
      · rw [u2_r, if_neg (by omega), f16.2 14 (by omega), a2.2 14 (by omega), f9.2 14 (by omega), g14]; rfl
      · rw [u2_r, if_neg (by omega), f16.2 15 (by omega), a2.2 15 (by omega), f9.2 15 (by omega), g15]; rfl
    have hk17 : RkI (u2 ν16 106 12 (nI w.1)) w.2 := rk_fr q2 (fun j a b => by rw [u2_r, if_neg (by omega)])
    have h2717 : u2 ν16 106 12 (nI w.1) 106 27 = 0 := by rw [u2_r, if_neg (by omega)]; exact q3
    generalize u2 ν16 106 12 (nI w.1) = ν17 at fq17 hR17 hk17 h2717 ⊢
    dsimp only
    refine ok_b (r_end (fq17.tr htr) hk17 hokw h2717) ?_
    rintro ν18 ⟨f18, q18⟩
    have fq18 := fq17.trans (FrQ.of f18)
    cases h2 : pSgn T N w.2 with
    | inl e =>
      rw [h2] at q18
      have hf18 : FsI ν18 T N e.1 e.2 := q18
      refine r_seamF hf18 ?_
      refine r_befF hf18 ?_
      exact hfault _ e fq18 hf18
    | inr k3 =>
      rw [h2] at q18
      obtain ⟨s1, s2⟩ := q18
      have hok3 : TkOK T N k3 := by rw [(pSgn_r h2).2]; exact tk_ok hokw.2.1
      dsimp only
      refine r_seamL (fq18.tr htr) s1 hok3 s2 (hR17.fr f18) (by omega) ?_
      intro ν20 f20 q20
      have fq20 := fq18.trans f20
      cases hsm : pSeams T N w.1 7 ([], []) k3 with
      | inl e =>
        rw [hsm] at q20
        have hf20 : FsI ν20 T N e.1 e.2 := q20
        refine r_befF hf20 ?_
        exact hfault _ e fq20 hf20
      | inr v =>
        rw [hsm] at q20
        obtain ⟨d1, d2, d3⟩ := q20
        obtain ⟨t1, t2, t3, t4, t5, t6⟩ := pSeams_r 7 ([], []) k3 v hok3 (by simp) (by simp) (fun a ha => by simp at ha) ⟨fun s hs => by simp at hs, Nat.le_refl _, fun a h1 h2 => by simp at h2⟩ rfl hsm
        dsimp only
        refine r_befL (fq20.tr htr) d2 t3 d1 d3 t2 ?_
        intro ν26 f26 q26
        have fq26 := fq20.trans f26
        cases hbf : pBefs T N v.1.2.length 11 [] v.2 with
        | inl e =>
          rw [hbf] at q26
          have hf26 : FsI ν26 T N e.1 e.2 := q26
          exact hfault _ e fq26 hf26
        | inr u =>
          rw [hbf] at q26
          unfold pEnd at q26
          dsimp only at q26 ⊢
          by_cases h0 : u.2.2.2 = 0
          · rw [if_pos h0] at q26
            rw [if_pos h0]
            obtain ⟨m1, m2⟩ := q26
            obtain ⟨b1, b2, b3⟩ := pBefs_r 11 [] v.2 u t3 (by simp) (fun a ha => by simp at ha) hbf
            refine ok_m (r_keep m2 t1 b1 m1) ?_
            rintro q ⟨z1, z2, z3, z4⟩
            have hq := hfrn ν26 fq26
            refine ⟨⟨fun k hk => ?_, fun j hj => ?_, ?_⟩, z1, z2, ?_⟩
            · rw [z3 k (by omega) (by omega) (by omega) (by omega) (by omega) (by omega)]; exact hq.1 k hk
            · rw [z4 j (by omega) (by omega)]; exact hq.2.1 j hj
            · rw [z4 20 (by omega) (by omega)]; exact hq.2.2
            · rw [z4 21 (by omega) (by omega), fq26.2 21 (by omega), gj 21 (by omega)]
          · rw [if_neg h0] at q26
            rw [if_neg h0]
            exact hfault _ (1, u.2.1) fq26 q26
end
section
/-! ===== plan, kept ===== -/
theorem pPlan_r {T : Nat → Nat} {N : Nat} {r : Nat × (List AC × List Nat) × List (Nat × Nat)} (h : pPlan T N = .inr r) : (4 ≤ r.1 ∧ r.1 ≤ 12) ∧ r.2.1.1.length ≤ 40 ∧ r.2.1.2.length ≤ 6 ∧ r.2.2.length ≤ 10 ∧ GdA r.1 r.2.1.1 ∧ SgA r.2.1.1 r.2.1.2 ∧ eE r.2.1.2 r.2.1.2.length = r.2.1.1.length ∧ BfA r.2.1.2.length r.2.2 := by
  unfold pPlan at h
  have hok0 : TkOK T N (tkA T N 0) := tk_ok (by omega)
  cases h1 : pPan T N (tkA T N 0) with
  | inl e => rw [h1] at h; cases h
  | inr w =>
    rw [h1] at h
    dsimp only at h
    have hww : (4 ≤ w.1 ∧ w.1 ≤ 12) ∧ TkOK T N w.2 := by
      unfold pPan at h1
      by_cases hw : wsB T (tkA T N 0) 10 = true
      · rw [if_pos hw] at h1
        cases h2 : pNum T N (rgB 4 13) (tkA T N (tkA T N 0).2.1) with
        | inl e => rw [h2] at h1; cases h1
        | inr v =>
          rw [h2] at h1
          dsimp only at h1
          obtain ⟨a1, a2, a3, a4⟩ := pNum_r h2
          rw [rg_i] at a1
          cases h3 : pSgn T N v.2 with
          | inl e => rw [h3] at h1; cases h1
          | inr u =>
            rw [h3] at h1
            have h4 := Sum.inr.inj h1
            rw [← h4]
            refine ⟨by dsimp only; omega, ?_⟩
            dsimp only
            rw [(pSgn_r h3).2]
            refine tk_ok ?_
            rw [a3]
            exact (tk_ok (tk_ok hok0.2.1).2.1).2.1
      · rw [if_neg hw] at h1; cases h1
    cases h2 : pSeams T N w.1 7 ([], []) w.2 with
    | inl e => rw [h2] at h; cases h
    | inr v =>
      rw [h2] at h
      dsimp only at h
      obtain ⟨t1, t2, t3, t4, t5, t6⟩ := pSeams_r 7 ([], []) w.2 v hww.2 (by simp) (by simp) (fun a ha => by simp at ha) ⟨fun s hs => by simp at hs, Nat.le_refl _, fun a h1 h2 => by simp at h2⟩ rfl h2
      cases h3 : pBefs T N v.1.2.length 11 [] v.2 with
      | inl e => rw [h3] at h; cases h
      | inr u =>
        rw [h3] at h
        dsimp only at h
        obtain ⟨b1, b2, b3⟩ := pBefs_r 11 [] v.2 u t3 (by simp) (fun a ha => by simp at ha) h3
        by_cases h0 : u.2.2.2 = 0
        · rw [if_pos h0] at h
          have h4 := Sum.inr.inj h
          rw [← h4]
          exact ⟨hww.1, t1, t2, b1, t4, t5, t6, b3⟩
        · rw [if_neg h0] at h; cases h
theorem nd_bit {s f : Nat} : ∀ (B : List (Nat × Nat)) (m : Nat), (B.foldl (fun m q => if q.2 = s then m ||| 2 ^ q.1 else m) m).testBit f = (m.testBit f || B.any (fun q => decide (q.2 = s) && decide (q.1 = f)))
  | [], m => by simp
  | x :: B, m => by
    rw [List.foldl_cons, nd_bit B, List.any_cons]
    by_cases h1 : x.2 = s
    · rw [if_pos h1, Nat.testBit_or, Nat.testBit_two_pow]
      simp [h1, Bool.or_assoc]
    · rw [if_neg h1]
      simp [h1]
theorem nd_iff {B : List (Nat × Nat)} {s f : Nat} : (ndL B s).testBit f = true ↔ ∃ b, b < B.length ∧ (B.getD b (0, 0)).1 = f ∧ (B.getD b (0, 0)).2 = s := by
  unfold ndL
  rw [nd_bit]
  simp only [Nat.zero_testBit, Bool.false_or, List.any_eq_true, Bool.and_eq_true, decide_eq_true_eq]
  constructor
  · rintro ⟨x, hx, h1, h2⟩
    obtain ⟨i, hi, hii⟩ := List.getElem_of_mem hx
    refine ⟨i, hi, ?_, ?_⟩
    · simp [List.getD, hi, hii, h2]
    · simp [List.getD, hi, hii, h1]
  · rintro ⟨b, hb, h1, h2⟩
    refine ⟨B.getD b (0, 0), ?_, h2, h1⟩
    simp [List.getD, hb]
theorem nd_lt {s : Nat} : ∀ (B : List (Nat × Nat)) (m : Nat), m < 64 → (∀ q ∈ B, q.1 < 6) → (B.foldl (fun m q => if q.2 = s then m ||| 2 ^ q.1 else m) m) < 64
  | [], m, h, _ => h
  | x :: B, m, h, hB => by
    rw [List.foldl_cons]
    refine nd_lt B _ ?_ (fun q hq => hB q (List.mem_cons_of_mem _ hq))
    have := hB x List.mem_cons_self
    by_cases h1 : x.2 = s
    · rw [if_pos h1]
      exact Nat.or_lt_two_pow (n := 6) h (Nat.pow_lt_pow_right (by decide) this)
    · rw [if_neg h1]; exact h
theorem p_begP {μ : MT} {p nc : Nat} (hp : isPl p) (e11 : μ 0 11 = nI p) (e0 : μ p 0 = nI nc) (hnc : nc ≤ 12) (h1000 : μ 1000 = μf 1000) : Ok (m_X8_beginPlan Zc 127 0 μ) (fun ν => PIs ν 19 nc (bgA (fun _ => 0)) ∧ (∀ c, c < 12 → ν 16 c = 0) ∧ (∀ k, k < 6 → ν 17 k = nI k) ∧ ν 0 13 = 0 ∧ ν 33 4 = 0 ∧ ν 87 2 = 0 ∧ (∀ q, q ≠ 0 → q ≠ 16 → q ≠ 17 → q ≠ 33 → q ≠ 87 → q < 19 ∨ 25 < q → ν q = μ q) ∧ (∀ j, j ≠ 13 → ν 0 j = μ 0 j)) := by
  have hpl := isPl_le hp
  unfold m_X8_beginPlan m_X5_forget m_X1_forget
  simp only [zA]
  rw [ob_s, q_fill (n := 12) (by simp only [zA]) (by omega), ob_s]
  have g0 : ∀ j, j ≠ 13 → u1 (u2 μ 0 13 0) 16 (fun j => if j < 12 then 0 else u2 μ 0 13 0 16 j) 0 j = μ 0 j := fun j hj => by rw [u1_r, if_neg (by omega), u2_r, if_neg (by omega)]
  have g13 : u1 (u2 μ 0 13 0) 16 (fun j => if j < 12 then 0 else u2 μ 0 13 0 16 j) 0 13 = 0 := by simp [u1_r, u2_r]
  have g16 : ∀ c, c < 12 → u1 (u2 μ 0 13 0) 16 (fun j => if j < 12 then 0 else u2 μ 0 13 0 16 j) 16 c = 0 := fun c hc => by rw [u1_r, if_pos rfl, if_pos hc]
  have gk : ∀ k, k ≠ 0 → k ≠ 16 → u1 (u2 μ 0 13 0) 16 (fun j => if j < 12 then 0 else u2 μ 0 13 0 16 j) k = μ k := fun k a b => by rw [u1_w, if_neg b, u2_w, if_neg a]
  generalize u1 (u2 μ 0 13 0) 16 (fun j => if j < 12 then 0 else u2 μ 0 13 0 16 j) = ν3 at g0 g13 g16 gk ⊢
  rw [acp0 (m := 6) (v := 6) (n := 6) (n1 := 6) (by simp only [zA]) (by simp only [zA]) (by omega) (by omega) (by omega) rfl, ob_s]
  have k17 : ∀ k, k < 6 → u1 ν3 17 (fun j => if j < 6 then ν3 1000 j else ν3 17 j) 17 k = nI k := fun k hk => by rw [u1_r, if_pos rfl, if_pos hk, gk 1000 (by omega) (by omega), h1000, t1000 k hk]
  have kk : ∀ k, k ≠ 17 → u1 ν3 17 (fun j => if j < 6 then ν3 1000 j else ν3 17 j) k = ν3 k := fun k hk => by rw [u1_w, if_neg hk]
  generalize u1 ν3 17 (fun j => if j < 6 then ν3 1000 j else ν3 17 j) = ν5 at k17 kk ⊢
  rw [kk 0 (by omega), g0 11 (by omega), e11, mrd_p hp, ob_s, kk p (by omega), gk p (by omega) (by omega), e0]
  refine ok_b (p_begin (nc := nc) pn19 (k := 16) (by simp only [zA]) (by omega) hnc) ?_
  rintro ν10 ⟨h1, h2⟩
  rw [kk 16 (by omega), bgA_c (B' := fun _ => 0) (fun c hc => g16 c hc)] at h1
  simp only [ob_s]
  refine ok_s ⟨?_, fun c hc => ?_, fun k hk => ?_, ?_, ?_, ?_, fun q a b c d e f => ?_, fun j hj => ?_⟩
  · unfold PIs at h1 ⊢
    simp only [u2_w]
    simpa using h1
  · rw [u2_r, if_neg (by omega), u2_r, if_neg (by omega), h2 16 (by omega), kk 16 (by omega)]; exact g16 c hc
  · rw [u2_r, if_neg (by omega), u2_r, if_neg (by omega), h2 17 (by omega)]; exact k17 k hk
  · rw [u2_r, if_neg (by omega), u2_r, if_neg (by omega), h2 0 (by omega), kk 0 (by omega)]; exact g13
  · rw [u2_r, if_neg (by omega), u2_r, if_pos ⟨rfl, rfl⟩]
  · rw [u2_r, if_pos ⟨rfl, rfl⟩]
  · rw [u2_w, if_neg e, u2_w, if_neg d, h2 q (by omega), kk q c, gk q a b]
  · rw [u2_r, if_neg (by omega), u2_r, if_neg (by omega), h2 0 (by omega), kk 0 (by omega), g0 j hj]
theorem ipl_of {ν : MT} {d nc : Nat} {L : List AC} {E : List Nat} {B : List (Nat × Nat)} (hc : CPl ν d nc L E B) (hr : RPn ν nc L E B) (hnc : 4 ≤ nc ∧ nc ≤ 12) (hl : L.length ≤ 40) (hE : E.length ≤ 6) (hB : B.length ≤ 10) (hg : GdA nc L) (hs : SgA L E) (he : eE E E.length = L.length) (hb : BfA E.length B) : PlIs ν d nc E.length L.length B.length := by
  obtain ⟨⟨c0, c1, c2, c3⟩, c4, c5, c6⟩ := hc
  obtain ⟨-, r4, r5, -, -⟩ := hr
  have he0 : eE E 0 = 0 := rfl
  have hseg : ∀ a, a < L.length → ∃ s, s < E.length ∧ eE E s ≤ a ∧ a < eE E (s + 1) := fun a ha => seg_ex he0 E.length a (by rw [he]; exact ha)
  refine ⟨⟨c0, c1, c2, c3⟩, Or.inr ⟨hnc.1, hnc.2, hE, hl, hB⟩, fun a ha => ?_, ⟨eE E, he0, he, fun s hsl => ?_, fun a s hsl h1 h2 => ?_⟩, fun b hbl => ?_, fun s hsl => ?_⟩
  · obtain ⟨s, s1, s2, s3⟩ := hseg a ha
    have hsm := (hs.1 s s1).2.2 a s2 s3
    obtain ⟨g1, g2, g3, g4⟩ := hg a ha
    obtain ⟨d1, d2, d3, d4⟩ := c4 a ha
    obtain ⟨f1, f2, f3, f4⟩ := r4 a ha
    rw [hsm] at d4 f4
    refine ⟨(L.getD a aZ).1, (L.getD a aZ).2.1, s, (L.getD a aZ).2.2.1, g1, s1, d1, f1, d2, f2, d4, f4, g2, g3, fun h7 => ⟨(g4 h7).1, (g4 h7).2, d3, ?_⟩, fun h7 => ?_⟩
    · rw [f3, if_pos h7]
    · rw [f3, if_neg (by omega)]
  · obtain ⟨t1, t2, t3⟩ := hs.1 s hsl
    refine ⟨t1, t2, ?_⟩
    rw [c5 s hsl]
    unfold eE
    rw [if_neg (by omega), show s + 1 - 1 = s by omega]
  · have h3 : a < L.length := by
      have := (hs.1 s hsl).2.1
      omega
    rw [(r4 a h3).2.2.2, (hs.1 s hsl).2.2 a h1 h2]
  · obtain ⟨x1, x2, x3⟩ := hb b hbl
    exact ⟨_, _, x1, x2, x3, (r5 b hbl).1, (r5 b hbl).2⟩
  · refine ⟨ndL B s, ?_, c6 s (by omega), fun f hf => ?_⟩
    · refine nd_lt B 0 (by omega) (fun q hq => ?_)
      obtain ⟨i, hi, hii⟩ := List.getElem_of_mem hq
      have := (hb i hi).1
      rw [show B.getD i (0, 0) = q by simp [List.getD, hi, hii]] at this
      omega
    · rw [nd_iff]
      constructor
      · rintro ⟨b, b1, b2, b3⟩
        refine ⟨b, b1, ?_, ?_⟩
        · rw [(r5 b b1).1, b2]
        · rw [(r5 b b1).2, b3]
      · rintro ⟨b, b1, b2, b3⟩
        obtain ⟨x1, x2, x3⟩ := hb b b1
        rw [(r5 b b1).1] at b2
        rw [(r5 b b1).2] at b3
        exact ⟨b, b1, (nI_inj (by omega) (by omega)).mp b2, (nI_inj (by omega) (by omega)).mp b3⟩
theorem op_plan {ν : MT} (h : Inv ν) : OkI Inv (m_X8_plan Zc 127 0 ν) (fun μ => m_X9_plan Zc 106 μ) := by
  obtain ⟨p, d, nc, ns, na, nb, h⟩ := h
  obtain ⟨c1, c2, ⟨N, hN, t1, t2, t3⟩, ⟨hp, hd, hpd, e11, e12⟩, c5, c6, c7, c8, c9, c10, c11, c12, c13⟩ := id h
  have hpl := isPl_le hp
  have hdl := isPl_le hd
  have hpd7 : p + 6 < d ∨ d + 6 < p := by unfold isPl at hp hd; omega
  have hT : ∀ j, j < N → (ν 116 j).toNatClampNeg < 256 ∧ ν 116 j = nI (ν 116 j).toNatClampNeg ∧ ν 14 j = sbA (ν 116 j).toNatClampNeg := fun j hj => by
    obtain ⟨v, v1, v2, v3⟩ := t3 j hj
    rw [v2, x_cl (by omega)]
    exact ⟨v1, rfl, v3⟩
  generalize hTd : (fun j => (ν 116 j).toNatClampNeg) = T
  have hT' : ∀ j, j < N → T j < 256 ∧ ν 116 j = nI (T j) ∧ ν 14 j = sbA (T j) := fun j hj => by subst hTd; exact hT j hj
  have htx : TxI ν T N := ⟨hN, t1, fun j hj => ⟨(hT' j hj).1, (hT' j hj).2.2⟩⟩
  cases hpp : pPlan T N with
  | inl e =>
    refine okI_of (a := -1000100 - nI e.2) (P := fun μ => (∀ q, q ≠ 0 → q ≠ 13 → q ≠ 15 → q < d ∨ d + 6 < q → μ q = ν q) ∧ (∀ j, j ≠ 14 → μ 0 j = ν 0 j) ∧ μ 0 14 = nI e.1 ∧ μ 13 1 = 0) ?_ ?_
    · unfold m_X8_plan m_X7_tokenPlace m_X7_empty
      rw [e12, mrd_p hd, ob_s]
      simp only [zA]
      refine ok_b (p_read hd htx) ?_
      rintro ⟨r4, ν5⟩ ⟨f5, q5⟩
      rw [hpp] at q5
      have hne := crs_ne q5
      obtain ⟨q1, q2, q3, q4, -, -⟩ := q5
      dsimp only at f5 q1 q4 ⊢
      simp only [ob_s]
      rw [if_neg hne, q4, q1]
      refine ok_s ⟨rfl, fun q a b c g => ?_, fun j hj => ?_, ?_, ?_⟩
      · dsimp only
        rw [u2_w, if_neg a, u2_w, if_neg b]; exact f5.1 q b c g
      · dsimp only
        rw [u2_r, if_neg (by omega), u2_r, if_neg (by omega), f5.1 0 (by omega) (by omega) (by omega)]
      · dsimp only
        rw [u2_r, if_pos ⟨rfl, rfl⟩]
      · dsimp only
        rw [u2_r, if_neg (by omega), u2_r, if_pos ⟨rfl, rfl⟩]
    · rintro μ ⟨f1, f2, f3, f4⟩
      have m106 : μ 106 = ν 106 := f1 106 (by omega) (by omega) (by omega) (by omega)
      have m116 : μ 116 = ν 116 := f1 116 (by omega) (by omega) (by omega) (by omega)
      refine ok_m (r_plan (T := T) (N := N) hN (by rw [m106]; exact t2) (fun j hj => by rw [m116]; exact ⟨(hT' j hj).1, (hT' j hj).2.1⟩)) ?_
      rintro ⟨a, ω⟩ ⟨⟨n1', n2, n3⟩, q⟩
      rw [hpp] at q
      obtain ⟨q1, q2, q3, q4⟩ := q
      dsimp only at n1' n2 n3 q1 q2 q3 q4 ⊢
      refine ⟨q1, p, d, nc, ns, na, nb, ?_⟩
      have w0 : ω 0 = μ 0 := n1' 0 (by omega)
      have wk : ∀ k, k ≠ 0 → k ≠ 13 → k ≠ 15 → (k < d ∨ d + 6 < k) → k < 106 ∨ (106 < k ∧ k < 110) ∨ k = 116 ∨ 118 < k → ω k = ν k := fun k a b c g i => by rw [n1' k i, f1 k a b c g]
      have w6 : ∀ j, (0 < j ∧ j < 5) ∨ (8 < j ∧ j < 12) ∨ (15 < j ∧ j < 20) ∨ (28 < j ∧ j < 31) ∨ 31 < j → ω 106 j = ν 106 j := fun j hj => by rw [n2 j hj, m106]
      have w6b : ∀ j, (5 ≤ j ∧ j ≤ 8) ∨ j = 31 → ω 106 j = ν 106 j := fun j hj => by rw [q3 j hj, m106]
      have wkb : ∀ k, (110 ≤ k ∧ k ≤ 112) ∨ k = 117 ∨ k = 118 → ω k = ν k := fun k hk => by rw [q4 k hk, f1 k (by omega) (by omega) (by omega) (by omega)]
      have w00 : ∀ j, j ≠ 14 → ω 0 j = ν 0 j := fun j hj => by rw [w0, f2 j hj]
      refine c_mk h (Or.inl ⟨?_, ?_, ?_, ?_, ?_, ?_⟩) ?_ (Or.inr ?_) (Or.inr ⟨0, by omega, ?_, n3, fun j hj => by omega⟩) ⟨?_, ?_⟩ ?_ ⟨?_, ?_, ?_⟩ ⟨?_, ?_, ?_, ?_⟩ (Or.inl ⟨?_, ?_⟩) (Or.inl ⟨?_, ?_⟩) (Or.inl ⟨?_, ?_, ?_, ?_, ?_, ?_, ?_, ?_, ?_, ?_, ?_, ?_⟩) (Or.inl ⟨?_, ?_, ?_, ?_, ?_⟩) (Or.inl ⟨?_, ?_⟩) (Or.inl ⟨?_, ?_, ?_, ?_⟩) ⟨?_, ?_, ?_, ?_⟩
      case refine_7 => rw [w00 15 (by omega), w6 1 (by omega)]; exact c2.1
      case refine_8 => rw [w0, f3, q2]
      case refine_9 => rw [n1' 13 (by omega), f4]; rfl
      case refine_12 => exact fun i hi => wk _ (by omega) (by omega) (by omega) (by omega) (by omega)
      all_goals first
        | exact wk _ (by omega) (by omega) (by omega) (by omega) (by omega)
        | exact wkb _ (by omega)
        | exact w00 _ (by omega)
        | exact w6 _ (by omega)
        | exact w6b _ (by omega)
        | exact fun s hs => wk _ (by omega) (by omega) (by omega) (by omega) (by omega)
        | exact congrFun (wk _ (by omega) (by omega) (by omega) (by omega) (by omega)) _
  | inr r =>
    obtain ⟨v1, v2, v3, v4, v5, v6, v7, v8⟩ := pPlan_r hpp
    refine okI_of (a := nI r.2.1.1.length) (P := fun μ => CPl μ d r.1 r.2.1.1 r.2.1.2 r.2.2 ∧ PIs μ 19 r.1 (bgA (fun _ => 0)) ∧ (∀ c, c < 12 → μ 16 c = 0) ∧ (∀ k, k < 6 → μ 17 k = nI k) ∧ (μ 0 11 = nI d ∧ μ 0 12 = nI p ∧ μ 0 13 = 0 ∧ μ 0 14 = ν 0 14 ∧ μ 0 15 = ν 0 15) ∧ μ 33 4 = 0 ∧ μ 87 2 = 0 ∧ μ 13 1 = 0 ∧ (∀ q, q ≠ 0 → q ≠ 13 → q ≠ 15 → q ≠ 16 → q ≠ 17 → q ≠ 33 → q ≠ 87 → q < 19 ∨ 25 < q → q < d ∨ d + 6 < q → μ q = ν q)) ?_ ?_
    · unfold m_X8_plan m_X7_tokenPlace m_X7_empty
      rw [e12, mrd_p hd, ob_s]
      simp only [zA]
      refine ok_b (p_read hd htx) ?_
      rintro ⟨r4, ν5⟩ ⟨f5, q5⟩
      rw [hpp] at q5
      obtain ⟨q1, q2⟩ := q5
      dsimp only at f5 q1 q2 ⊢
      simp only [ob_s]
      subst q1
      have z0 : u2 ν5 13 1 0 0 = ν 0 := by rw [u2_w, if_neg (by omega), f5.1 0 (by omega) (by omega) (by omega)]
      rw [if_pos rfl, z0, e11, e12, mrd_p hp, ob_s, mrd_p hd, ob_s]
      have y11 : u2 (u2 (u2 ν5 13 1 0) 0 11 (Int32.ofNat d)) 0 12 (Int32.ofNat p) 0 11 = nI d := by simp [u2_r]; rfl
      have y12 : u2 (u2 (u2 ν5 13 1 0) 0 11 (Int32.ofNat d)) 0 12 (Int32.ofNat p) 0 12 = nI p := by simp [u2_r]; rfl
      have y0 : ∀ j, j ≠ 11 → j ≠ 12 → u2 (u2 (u2 ν5 13 1 0) 0 11 (Int32.ofNat d)) 0 12 (Int32.ofNat p) 0 j = ν 0 j := fun j a b => by rw [u2_r, if_neg (by omega), u2_r, if_neg (by omega), z0]
      have y13 : u2 (u2 (u2 ν5 13 1 0) 0 11 (Int32.ofNat d)) 0 12 (Int32.ofNat p) 13 1 = 0 := by simp [u2_r]
      have yk : ∀ k, k ≠ 0 → k ≠ 13 → u2 (u2 (u2 ν5 13 1 0) 0 11 (Int32.ofNat d)) 0 12 (Int32.ofNat p) k = ν5 k := fun k a b => by rw [u2_w, if_neg a, u2_w, if_neg a, u2_w, if_neg b]
      generalize u2 (u2 (u2 ν5 13 1 0) 0 11 (Int32.ofNat d)) 0 12 (Int32.ofNat p) = ν15 at y11 y12 y0 y13 yk ⊢
      have hc15 : CPl ν15 d r.1 r.2.1.1 r.2.1.2 r.2.2 := by
        unfold CPl
        rw [yk d (by omega) (by omega), yk (d + 1) (by omega) (by omega), yk (d + 2) (by omega) (by omega), yk (d + 3) (by omega) (by omega), yk (d + 4) (by omega) (by omega), yk (d + 5) (by omega) (by omega), yk (d + 6) (by omega) (by omega)]
        exact q2
      refine ok_b (p_begP hd y11 hc15.1.1 (by omega) (by rw [yk 1000 (by omega) (by omega), f5.1 1000 (by omega) (by omega) (by omega)]; exact c13.1)) ?_
      rintro ν16 ⟨b1, b2, b3, b4, b5, b6, b7, b8⟩
      have hc16 : CPl ν16 d r.1 r.2.1.1 r.2.1.2 r.2.2 := by
        have hbk : ∀ i, i ≤ 6 → ν16 (d + i) = ν15 (d + i) := fun i hi => b7 _ (by omega) (by omega) (by omega) (by omega) (by omega) (by omega)
        have hb0 := hbk 0 (by omega)
        rw [Nat.add_zero] at hb0
        unfold CPl
        rw [hb0, hbk 1 (by omega), hbk 2 (by omega), hbk 3 (by omega), hbk 4 (by omega), hbk 5 (by omega), hbk 6 (by omega)]
        exact hc15
      rw [b8 11 (by omega), y11, mrd_p hd, ob_s]
      refine ok_s ⟨hc16.1.2.2.1, hc16, b1, b2, b3, ⟨?_, ?_, b4, ?_, ?_⟩, b5, b6, ?_, fun q a b c g i j k l m => ?_⟩
      · dsimp only
        rw [b8 11 (by omega)]; exact y11
      · dsimp only
        rw [b8 12 (by omega)]; exact y12
      · dsimp only
        rw [b8 14 (by omega), y0 14 (by omega) (by omega)]
      · dsimp only
        rw [b8 15 (by omega), y0 15 (by omega) (by omega)]
      · dsimp only
        rw [b7 13 (by omega) (by omega) (by omega) (by omega) (by omega) (by omega)]; exact y13
      · dsimp only
        rw [b7 q a g i j k l, yk q a b, f5.1 q b c m]
    · rintro μ ⟨f1, f2, f3, f4, ⟨f11, f12, f13, f14, f15⟩, f33, f87, f131, fk⟩
      have m106 : μ 106 = ν 106 := fk 106 (by omega) (by omega) (by omega) (by omega) (by omega) (by omega) (by omega) (by omega) (by omega)
      have m116 : μ 116 = ν 116 := fk 116 (by omega) (by omega) (by omega) (by omega) (by omega) (by omega) (by omega) (by omega) (by omega)
      refine ok_m (r_plan (T := T) (N := N) hN (by rw [m106]; exact t2) (fun j hj => by rw [m116]; exact ⟨(hT' j hj).1, (hT' j hj).2.1⟩)) ?_
      rintro ⟨a, ω⟩ ⟨⟨n1', n2, n3⟩, q⟩
      rw [hpp] at q
      obtain ⟨q1, q2, q3⟩ := q
      dsimp only at n1' n2 n3 q1 q2 q3 ⊢
      refine ⟨q1, d, p, r.1, r.2.1.2.length, r.2.1.1.length, r.2.2.length, ?_⟩
      have wlo : ∀ k, k < 106 → ω k = μ k := fun k hk => n1' k (by omega)
      have wk : ∀ k, k ≠ 0 → k ≠ 13 → k ≠ 15 → k ≠ 16 → k ≠ 17 → k ≠ 33 → k ≠ 87 → k < 19 ∨ 25 < k → (k < d ∨ d + 6 < k) → k < 106 ∨ (106 < k ∧ k < 110) ∨ k = 116 ∨ 118 < k → ω k = ν k := fun k a b c g i j l m n o => by rw [n1' k o, fk k a b c g i j l m n]
      have w6 : ∀ j, (0 < j ∧ j < 5) ∨ (8 < j ∧ j < 12) ∨ (15 < j ∧ j < 20) ∨ (28 < j ∧ j < 31) ∨ 31 < j → ω 106 j = ν 106 j := fun j hj => by rw [n2 j hj, m106]
      have hcw : CPl ω d r.1 r.2.1.1 r.2.1.2 r.2.2 := by
        unfold CPl
        rw [wlo d (by omega), wlo (d + 1) (by omega), wlo (d + 2) (by omega), wlo (d + 3) (by omega), wlo (d + 4) (by omega), wlo (d + 5) (by omega), wlo (d + 6) (by omega)]
        exact f1
      have hz : (0 : Int32).toInt = 0 := rfl
      obtain ⟨⟨z5, z6, z7, z8, z31⟩, z110, z111, z117, z118⟩ := id q2
      refine ⟨⟨fun s hs => ?_, fun s j hs hj => ?_⟩, ⟨?_, ?_⟩, ⟨0, by omega, ?_, n3, fun j hj => by omega⟩, ⟨hd, hp, fun hq => hpd hq.symm, ?_, ?_⟩, ipl_of hcw q2 v1 v2 v3 v4 v5 v6 v7 v8, ⟨z5, z6, z7, z8⟩, fun c hc => ?_, fun k hk => ⟨k, hk, ?_, z118 k (by omega)⟩, ⟨bgA (ω 117), ?_, ?_, Or.inr ⟨?_, z31, rfl⟩⟩, Or.inl ?_, Or.inl ?_, ?_, ⟨?_, ?_, ?_, ?_⟩⟩
      · rw [wk 2 (by omega) (by omega) (by omega) (by omega) (by omega) (by omega) (by omega) (by omega) (by omega) (by omega), wk 3 (by omega) (by omega) (by omega) (by omega) (by omega) (by omega) (by omega) (by omega) (by omega) (by omega), wk 107 (by omega) (by omega) (by omega) (by omega) (by omega) (by omega) (by omega) (by omega) (by omega) (by omega), wk 108 (by omega) (by omega) (by omega) (by omega) (by omega) (by omega) (by omega) (by omega) (by omega) (by omega)]
        exact c1.1 s hs
      · have := c1.2 s j hs hj
        dsimp only at this ⊢
        rw [wk (5 + s) (by omega) (by omega) (by omega) (by omega) (by omega) (by omega) (by omega) (by omega) (by omega) (by omega), wk 109 (by omega) (by omega) (by omega) (by omega) (by omega) (by omega) (by omega) (by omega) (by omega) (by omega)]
        exact this
      · rw [wlo 0 (by omega), f15, w6 1 (by omega)]; exact c2.1
      · rw [wlo 0 (by omega), f14, q3, m106]; exact c2.2
      · rw [wlo 13 (by omega), f131]; rfl
      · rw [wlo 0 (by omega)]; exact f11
      · rw [wlo 0 (by omega)]; exact f12
      · rw [wlo 16 (by omega), f3 c hc, z117 c hc, hz]
        exact ⟨rfl, by omega, by omega⟩
      · rw [wlo 17 (by omega)]; exact f4 k (by omega)
      · rw [wlo 19 (by omega), wlo 20 (by omega), wlo 21 (by omega), wlo 22 (by omega), wlo 23 (by omega), wlo 24 (by omega), wlo 25 (by omega), bgA_c (B' := fun _ => 0) (fun c hc => z117 c hc)]
        exact f2
      · exact bd_mono (bd_bg v1.2 (fun c hc => by rw [z117 c hc, hz]; omega)) (by omega)
      · rw [wlo 0 (by omega)]; exact f13
      · rw [wlo 33 (by omega)]; exact f33
      · rw [wlo 87 (by omega)]; exact f87
      · rw [wk 90 (by omega) (by omega) (by omega) (by omega) (by omega) (by omega) (by omega) (by omega) (by omega) (by omega), wk 91 (by omega) (by omega) (by omega) (by omega) (by omega) (by omega) (by omega) (by omega) (by omega) (by omega), w6 42 (by omega), wk 126 (by omega) (by omega) (by omega) (by omega) (by omega) (by omega) (by omega) (by omega) (by omega) (by omega)]
        exact c12
      · rw [wk 1000 (by omega) (by omega) (by omega) (by omega) (by omega) (by omega) (by omega) (by omega) (by omega) (by omega)]; exact c13.1
      · rw [wk 1001 (by omega) (by omega) (by omega) (by omega) (by omega) (by omega) (by omega) (by omega) (by omega) (by omega)]; exact c13.2.1
      · rw [wk 1002 (by omega) (by omega) (by omega) (by omega) (by omega) (by omega) (by omega) (by omega) (by omega) (by omega)]; exact c13.2.2.1
      · rw [wk 1003 (by omega) (by omega) (by omega) (by omega) (by omega) (by omega) (by omega) (by omega) (by omega) (by omega)]; exact c13.2.2.2
end
section
/-! ===== every call keeps it; it holds at the start ===== -/
theorem ops : Ops Inv := by
  intro ν h
  rw [← Zc_eq]
  exact ⟨op_sheet h, op_set h, op_copy h, op_drop h, fun a0 a1 a2 => op_feed h _ a2, op_plan h, op_fault h, op_act h, op_open h, op_run h, op_runs h, op_cell h, op_height h, op_minutes h, op_gives h, op_best h, op_orders h, op_beforehand h, op_spots h, op_crack h, op_warm h, op_wire h, op_kind h, op_as h, op_ask h, op_trace h, op_count h, op_status h⟩
theorem in_sh : (∀ s, s < 8 → μf 3 s = -1 ∧ μf 107 s = -1) ∧ (∀ s, s < 8 → ∀ j, j < 40 → μf (5 + s) j = μf 109 (40 * s + j)) := by decide +kernel
theorem in_nm : μf 0 15 = μf 106 1 ∧ μf 0 14 = μf 106 21 ∧ μf 13 1 = nI 0 ∧ μf 106 20 = nI 0 ∧ μf 0 11 = nI 92 ∧ μf 0 12 = nI 99 ∧ μf 92 0 = nI 0 ∧ μf 92 1 = nI 0 ∧ μf 92 2 = nI 0 ∧ μf 92 3 = nI 0 ∧ μf 106 5 = nI 0 ∧ μf 106 6 = nI 0 ∧ μf 106 7 = nI 0 ∧ μf 106 8 = nI 0 ∧ μf 19 7 = nI 0 ∧ μf 19 8 = 0 ∧ μf 0 13 = 0 ∧ μf 106 31 = 0 ∧ μf 33 4 = 0 ∧ μf 87 2 = 0 ∧ μf 90 1 = nI 0 ∧ μf 106 42 = nI 0 := by decide +kernel
theorem in_cs : ∀ c, c < 12 → μf 16 c = μf 117 c ∧ -40 ≤ (μf 117 c).toInt ∧ (μf 117 c).toInt ≤ 40 := by decide +kernel
theorem inv0 : Inv μf := by
  obtain ⟨a1, a2, a3, a4, a5, a6, a7, a8, a9, a10, a11, a12, a13, a14, a15, a16, a17, a18, a19, a20, a21, a22⟩ := in_nm
  refine ⟨92, 99, 0, 0, 0, 0, ⟨fun s hs => Or.inl (in_sh.1 s hs), fun s j hs hj => in_sh.2 s hs j hj⟩, ⟨a1, a2⟩, ⟨0, by omega, a3, a4, fun j hj => by omega⟩, ⟨Or.inl rfl, Or.inr rfl, by omega, a5, a6⟩, ⟨⟨a7, a8, a9, a10⟩, Or.inl ⟨rfl, rfl, rfl, rfl⟩, fun a ha => by omega, ⟨fun _ => 0, rfl, rfl, fun s hs => by omega, fun a s hs => by omega⟩, fun b hb => by omega, fun s hs => by omega⟩, ⟨a11, a12, a13, a14⟩, in_cs, fun k hk => by omega, ⟨bgA (μf 117), ⟨a15, a16, ⟨0, rfl, by omega, fun c hc => by omega⟩, fun c hc => by omega⟩, ⟨⟨0, rfl, by omega⟩, fun c hc => by omega⟩, Or.inr ⟨a17, a18, rfl⟩⟩, Or.inl a19, Or.inl a20, ⟨0, by omega, a21, a22, fun j hj => by omega⟩, rfl, rfl, rfl, rfl⟩
end
