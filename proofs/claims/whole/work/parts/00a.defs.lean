/-! ===== the definitions that the pure part speaks of: the memory, the functions of class and reference, the start, the law ===== -/
def tyX0 : Nat → FieldType := fun k => match k with
  | 0 => .array .int
  | _ => .int
def tyX1 : Nat → FieldType := fun k => match k with
  | 0 => .array .int
  | 1 => .array .int
  | _ => .boolean
def tyX2 : Nat → FieldType := fun k => match k with
  | 0 => .array .int
  | 1 => .array .int
  | 2 => .array .int
  | 3 => .array .int
  | 4 => .array .int
  | 5 => .array .int
  | 6 => .int
  | 7 => .int
  | 8 => .int
  | _ => .int
def tyX3 : Nat → FieldType := fun k => match k with
  | 0 => .int
  | 1 => .int
  | 2 => .int
  | 3 => .int
  | 4 => .array .int
  | 5 => .array .int
  | 6 => .array .int
  | 7 => .array .int
  | 8 => .array .int
  | _ => .array .int
def tyX4 : Nat → FieldType := fun k => match k with
  | 0 => .object "SeamPull$Tape"
  | _ => .int
def tyX5 : Nat → FieldType := fun k => match k with
  | 0 => .array (.object "SeamPull$Panel")
  | 1 => .array .int
  | 2 => .array .int
  | 3 => .array .int
  | 4 => .boolean
  | 5 => .boolean
  | _ => .int
def tyX6 : Nat → FieldType := fun k => match k with
  | 0 => .array .int
  | 1 => .array .int
  | _ => .array (.array .int)
def tyX7 : Nat → FieldType := fun k => match k with
  | 0 => .array .byte
  | 1 => .int
  | 2 => .int
  | 3 => .int
  | _ => .int
def tyX8 : Nat → FieldType := fun k => match k with
  | 0 => .object "SeamPull$Shelf"
  | 1 => .object "SeamPull$Tape"
  | 2 => .object "SeamPull$Reader"
  | 3 => .array .int
  | 4 => .array .int
  | 5 => .array .int
  | 6 => .object "SeamPull$Panel"
  | 7 => .object "SeamPull$Panel"
  | 8 => .object "SeamPull$Search"
  | 9 => .object "SeamPull$Beforehand"
  | 10 => .object "SeamPull$Asks"
  | 11 => .object "SeamPull$Plan"
  | 12 => .object "SeamPull$Plan"
  | 13 => .boolean
  | 14 => .int
  | _ => .int
def tyX9 : Nat → FieldType := fun k => match k with
  | 0 => .int
  | 1 => .int
  | 2 => .array .int
  | 3 => .array .int
  | 4 => .array .int
  | 5 => .int
  | 6 => .int
  | 7 => .int
  | 8 => .int
  | 9 => .array .int
  | 10 => .array .int
  | 11 => .array .int
  | 12 => .int
  | 13 => .int
  | 14 => .int
  | 15 => .int
  | 16 => .array .int
  | 17 => .array .int
  | 18 => .array .int
  | 19 => .array .int
  | 20 => .int
  | 21 => .int
  | 22 => .int
  | 23 => .int
  | 24 => .int
  | 25 => .int
  | 26 => .int
  | 27 => .int
  | 28 => .int
  | 29 => .array .int
  | 30 => .array .int
  | 31 => .boolean
  | 32 => .array .int
  | 33 => .array .int
  | 34 => .array .boolean
  | 35 => .int
  | 36 => .array .int
  | 37 => .int
  | 38 => .array .int
  | 39 => .array .int
  | 40 => .array .int
  | 41 => .array .int
  | _ => .int
abbrev MT : Type := Nat → Nat → Int32
/-- of each cell its kind (a class below 20, 20 int[], 21 byte[], 22 boolean[], 23 int[][], 24 Panel[]), its length, the cells that it points to -/
abbrev ZT : Type := (Nat → Nat) × (Nat → Nat) × (Nat → Nat → Nat)
abbrev zk (Z : ZT) : Nat → Nat := Z.1
abbrev zl (Z : ZT) : Nat → Nat := Z.2.1
abbrev zr (Z : ZT) : Nat → Nat → Nat := Z.2.2
/-- the machine's side: where classes and fields lie, how many own cells, how many given tables (from number 1000 on), addresses, classes of arrays, the first own address -/
abbrev GT : Type := va_G × Nat × Nat × (Nat → Nat) × (Nat → ClassId) × Nat
/-- the type of a class's field -/
def fty (c : Nat) : Nat → FieldType := match c with
  | 0 => tyX0 | 1 => tyX1 | 2 => tyX2 | 3 => tyX3 | 4 => tyX4 | 5 => tyX5 | 6 => tyX6 | 7 => tyX7 | 8 => tyX8 | _ => tyX9
def isRefTy : FieldType → Bool
  | .array _ => true
  | .object _ => true
  | _ => false
/-- 0: an int or boolean, 1: a reference that stays, 2: a reference that changes (the two plans): the cell's number stands among the ints -/
def rk (c j : Nat) : Nat := if isRefTy (fty c j) then (if c = 8 ∧ (j = 11 ∨ j = 12) then 2 else 1) else 0
def u2 (μ : MT) (k j : Nat) (v : Int32) : MT := fun k' => if k' = k then upd (μ k) j v else μ k'
/-- a whole row anew -/
def u1 (μ : MT) (k : Nat) (f : Nat → Int32) : MT := fun k' => if k' = k then f else μ k'
abbrev CX : Type := Program × Launch × Env × Room × State × MethodId × Array Value × List Frame × Method × Code
abbrev txL : List Nat := [4, 2, 4, 4, 6, 6, 5, 4, 5, 4, 5, 4, 6, 0]
abbrev txB : List (List Int32) := [[116, 97, 99, 107], [111, 110], [98, 97, 99, 107], [115, 107, 105, 112], [115, 101, 99, 111, 110, 100], [116, 117, 114, 110, 101, 100], [102, 108, 97, 109, 101], [119, 97, 105, 116], [99, 108, 97, 109, 112], [102, 114, 101, 101], [112, 97, 110, 101, 108], [115, 101, 97, 109], [98, 101, 102, 111, 114, 101], []]
/-- the given tables -/
def roT : List (List Int32) := [[0, 1, 2, 3, 4, 5], [0, 0, 0, 2, 3, 2, 2, 0], [0, 0, 11, 12, 13, 0, 0, 14], [0, 21, 0, 0, 0, 0, 22, 23]]
def roR (i j : Nat) : Int32 := (roT.getD i []).getD j 0
section
variable {α β γ : Type} {x : CX} {G : GT} {Z : ZT} {cs : Nat × Nat} {nL : Nat} {Q : Option Value → MT → State → Prop} {J : α → Option Value × MT} {pc : Nat} {lv : List (Nat × Value)} {st : List Value} {μ : MT} {o : Option β} {f : β → Option α} {cc : ByteArray} {Ts : List Cond} {own : String}
/-- division, remainder -/
def idv (y z : Int32) : Option Int32 := if z = 0 then none else some (y / z)
def irm (y z : Int32) : Option Int32 := if z = 0 then none else some (y - y / z * z)
def inb (i : Int32) (n : Nat) : Bool := !(decide (i < 0)) && !(decide (n ≤ i.toNatClampNeg))
/-- an array's place read; written -/
def ald (Z : ZT) (μ : MT) (k : Nat) (i : Int32) : Option Int32 := if inb i (zl Z k) then some (μ k i.toNatClampNeg) else none
def ast (Z : ZT) (μ : MT) (k : Nat) (i : Int32) (v : Int32) : Option MT := if inb i (zl Z k) then some (u2 μ k i.toNatClampNeg v) else none
def ard (Z : ZT) (k : Nat) (i : Int32) : Option Nat := if inb i (zl Z k) then some (zr Z k i.toNatClampNeg) else none
/-- a field whose cell changes: the number that stands there must be a cell of the kind -/
def mrd (Z : ZT) (n t : Nat) (v : Int32) : Option Nat := if zk Z v.toNatClampNeg = t ∧ v.toNatClampNeg < n then some v.toNatClampNeg else none
/-- a boolean: 0 or 1 -/
def bz (y : Int32) : Option Int32 := if y = 0 ∨ y = 1 then some y else none
end
section
variable {α β γ : Type} {x : CX} {G : GT} {Z : ZT} {cs : Nat × Nat} {nL : Nat} {Q : Option Value → MT → State → Prop} {J : α → Option Value × MT} {pc : Nat} {lv : List (Nat × Value)} {st : List Value} {μ : MT} {o : Option β} {f : β → Option α} {cc : ByteArray} {Ts : List Cond} {own : String}
/-- a loop: a body that goes on or leaves -/
def loop {σ τ : Type} (body : σ → Option (σ ⊕ τ)) : Nat → σ → Option τ
  | 0, _ => none
  | n + 1, s => (body s).bind (fun q => match q with
    | .inl s' => loop body n s'
    | .inr t => some t)
end
section
variable {α β γ : Type} {x : CX} {G : GT} {Z : ZT} {cs : Nat × Nat} {nL : Nat} {Q : Option Value → MT → State → Prop} {J : α → Option Value × MT} {pc : Nat} {lv : List (Nat × Value)} {st : List Value} {μ : MT} {o : Option β} {f : β → Option α} {cc : ByteArray} {Ts : List Cond} {own : String}
/-- System.arraycopy between rows of ints -/
def acp (Z : ZT) (μ : MT) (k : Nat) (sp : Int32) (k1 : Nat) (dp n : Int32) : Option MT := if ¬ sp < 0 ∧ ¬ dp < 0 ∧ ¬ n < 0 ∧ sp.toNatClampNeg + n.toNatClampNeg ≤ zl Z k ∧ dp.toNatClampNeg + n.toNatClampNeg ≤ zl Z k1 then some (u1 μ k1 (va_cpy (μ k) (μ k1) sp.toNatClampNeg dp.toNatClampNeg n.toNatClampNeg)) else none
theorem ob_s {a : γ} {F : γ → Option α} : (some a).bind F = F a := rfl
/-- what a branch leaves: the whole's result, or the values at the place where branches meet -/
def jn {τ : Type} (g : τ → Option β) : β ⊕ τ → Option β := fun q => match q with
  | .inl r => some r
  | .inr t => g t
def LN : Nat := 1000000
end
def slen (k : Nat) : Nat := txL.getD (k - 2100) 0
def sch (k j : Nat) : Int32 := (txB.getD (k - 2100) []).getD j 0
def sld (k : Nat) (i : Int32) : Option Int32 := if inb i (slen k) then some (sch k i.toNatClampNeg) else none
def stc (k : Nat) : Option Nat := if 2000 ≤ k ∧ k < 2014 then some k else none
def cz (y : Int32) : Option Int32 := if (y.toUInt32 % 65536).toInt32 = y then some y else none
def imax (y z : Int32) : Int32 := if y < z then z else y
def imin (y z : Int32) : Int32 := if z < y then z else y
def iabs (y : Int32) : Int32 := if 0 ≤ y then y else 0 - y
abbrev NS : Type := Nat × ZT × MT
/-- a new object, a new array, a place set -/
def nObj (σ : NS) (c : Nat) : NS := (σ.1 + 1, (va_up (zk σ.2.1) σ.1 c, zl σ.2.1, va_up (zr σ.2.1) σ.1 (fun _ => 999)), u1 σ.2.2 σ.1 (fun j => if rk c j = 2 then 999 else 0))
def nArr (σ : NS) (t N : Nat) : NS := (σ.1 + 1, (va_up (zk σ.2.1) σ.1 t, va_up (zl σ.2.1) σ.1 N, va_up (zr σ.2.1) σ.1 (fun _ => 999)), u1 σ.2.2 σ.1 (fun _ => 0))
def nMul (σ : NS) (N K : Nat) : NS := (σ.1 + 1 + N, ((fun k => if k = σ.1 then 23 else if σ.1 < k ∧ k < σ.1 + 1 + N then 20 else zk σ.2.1 k), (fun k => if k = σ.1 then N else if σ.1 < k ∧ k < σ.1 + 1 + N then K else zl σ.2.1 k), va_up (zr σ.2.1) σ.1 (fun i => if i < N then σ.1 + 1 + i else 999)), (fun k => if σ.1 < k ∧ k < σ.1 + 1 + N then (fun _ => 0) else σ.2.2 k))
def nRef (σ : NS) (k j q : Nat) : NS := (σ.1, (zk σ.2.1, zl σ.2.1, va_up (zr σ.2.1) k (va_up (zr σ.2.1 k) j q)), σ.2.2)
def nInt (σ : NS) (k j : Nat) (v : Int32) : NS := (σ.1, σ.2.1, u2 σ.2.2 k j v)
def m_J3_checkIndex_8e157 (i n : Int32) : Option Int32 := if i < 0 then none else if i < n then some i else none
def m_J0_checkIndex_df160 (Z : ZT) (i n : Int32) (μ : MT) : Option Unit := (m_J3_checkIndex_8e157 i n).bind fun _ => some ()
def c_J7_fill_53178_s1 (σ : NS) (this : Nat) : NS := nInt σ this 0 (-1)
def c_J7_fill_53178_s2 (σ : NS) (this : Nat) : NS := nInt (c_J7_fill_53178_s1 σ this) this 1 (-1)
def c_J7_fill_53178_s3 (σ : NS) (this : Nat) : NS := nInt (c_J7_fill_53178_s2 σ this) this 2 (-1)
def c_J7_fill_53178_s4 (σ : NS) (this : Nat) : NS := nInt (c_J7_fill_53178_s3 σ this) this 3 (-1)
def c_J7_fill_53178_s5 (σ : NS) (this : Nat) : NS := nInt (c_J7_fill_53178_s4 σ this) this 4 (-1)
def c_J7_fill_53178_s6 (σ : NS) (this : Nat) : NS := nInt (c_J7_fill_53178_s5 σ this) this 5 (-1)
def c_J7_fill_53178_s7 (σ : NS) (this : Nat) : NS := nInt (c_J7_fill_53178_s6 σ this) this 6 (-1)
def c_J7_fill_53178_s8 (σ : NS) (this : Nat) : NS := nInt (c_J7_fill_53178_s7 σ this) this 7 (-1)
def c_J7_fill_53178 (σ : NS) (this : Nat) : NS := (c_J7_fill_53178_s8 σ this)
def c_X0_init_s1 (σ : NS) (this : Nat) : NS := nArr σ 20 16
def c_X0_init_s2 (σ : NS) (this : Nat) : NS := nRef (c_X0_init_s1 σ this) this 0 (σ.1)
def c_X0_init_s3 (σ : NS) (this : Nat) : NS := nInt (c_X0_init_s2 σ this) this 1 0
def c_X0_init (σ : NS) (this : Nat) : NS := (c_X0_init_s3 σ this)
def c_X1_init_s1 (σ : NS) (this : Nat) : NS := nArr σ 20 12
def c_X1_init_s2 (σ : NS) (this : Nat) : NS := nRef (c_X1_init_s1 σ this) this 0 (σ.1)
def c_X1_init_s3 (σ : NS) (this : Nat) : NS := nArr (c_X1_init_s2 σ this) 20 12
def c_X1_init_s4 (σ : NS) (this : Nat) : NS := nRef (c_X1_init_s3 σ this) this 1 (σ.1 + 1)
def c_X1_init_s5 (σ : NS) (this : Nat) : NS := nInt (c_X1_init_s4 σ this) this 2 0
def c_X1_init (σ : NS) (this : Nat) : NS := (c_X1_init_s5 σ this)
def c_X2_init_s1 (σ : NS) (this : Nat) : NS := nArr σ 20 12
def c_X2_init_s2 (σ : NS) (this : Nat) : NS := nRef (c_X2_init_s1 σ this) this 0 (σ.1)
def c_X2_init_s3 (σ : NS) (this : Nat) : NS := nArr (c_X2_init_s2 σ this) 20 12
def c_X2_init_s4 (σ : NS) (this : Nat) : NS := nRef (c_X2_init_s3 σ this) this 1 (σ.1 + 1)
def c_X2_init_s5 (σ : NS) (this : Nat) : NS := nArr (c_X2_init_s4 σ this) 20 12
def c_X2_init_s6 (σ : NS) (this : Nat) : NS := nRef (c_X2_init_s5 σ this) this 2 (σ.1 + 2)
def c_X2_init_s7 (σ : NS) (this : Nat) : NS := nArr (c_X2_init_s6 σ this) 20 12
def c_X2_init_s8 (σ : NS) (this : Nat) : NS := nRef (c_X2_init_s7 σ this) this 3 (σ.1 + 3)
def c_X2_init_s9 (σ : NS) (this : Nat) : NS := nArr (c_X2_init_s8 σ this) 20 12
def c_X2_init_s10 (σ : NS) (this : Nat) : NS := nRef (c_X2_init_s9 σ this) this 4 (σ.1 + 4)
def c_X2_init_s11 (σ : NS) (this : Nat) : NS := nArr (c_X2_init_s10 σ this) 20 12
def c_X2_init_s12 (σ : NS) (this : Nat) : NS := nRef (c_X2_init_s11 σ this) this 5 (σ.1 + 5)
def c_X2_init_s13 (σ : NS) (this : Nat) : NS := nInt (c_X2_init_s12 σ this) this 6 0
def c_X2_init_s14 (σ : NS) (this : Nat) : NS := nInt (c_X2_init_s13 σ this) this 7 0
def c_X2_init_s15 (σ : NS) (this : Nat) : NS := nInt (c_X2_init_s14 σ this) this 8 0
def c_X2_init_s16 (σ : NS) (this : Nat) : NS := nInt (c_X2_init_s15 σ this) this 9 0
def c_X2_init (σ : NS) (this : Nat) : NS := (c_X2_init_s16 σ this)
def c_X3_init_s1 (σ : NS) (this : Nat) : NS := nInt σ this 0 0
def c_X3_init_s2 (σ : NS) (this : Nat) : NS := nInt (c_X3_init_s1 σ this) this 1 0
def c_X3_init_s3 (σ : NS) (this : Nat) : NS := nInt (c_X3_init_s2 σ this) this 2 0
def c_X3_init_s4 (σ : NS) (this : Nat) : NS := nInt (c_X3_init_s3 σ this) this 3 0
def c_X3_init_s5 (σ : NS) (this : Nat) : NS := nArr (c_X3_init_s4 σ this) 20 40
def c_X3_init_s6 (σ : NS) (this : Nat) : NS := nRef (c_X3_init_s5 σ this) this 4 (σ.1)
def c_X3_init_s7 (σ : NS) (this : Nat) : NS := nArr (c_X3_init_s6 σ this) 20 40
def c_X3_init_s8 (σ : NS) (this : Nat) : NS := nRef (c_X3_init_s7 σ this) this 5 (σ.1 + 1)
def c_X3_init_s9 (σ : NS) (this : Nat) : NS := nArr (c_X3_init_s8 σ this) 20 40
def c_X3_init_s10 (σ : NS) (this : Nat) : NS := nRef (c_X3_init_s9 σ this) this 6 (σ.1 + 2)
def c_X3_init_s11 (σ : NS) (this : Nat) : NS := nArr (c_X3_init_s10 σ this) 20 40
def c_X3_init_s12 (σ : NS) (this : Nat) : NS := nRef (c_X3_init_s11 σ this) this 7 (σ.1 + 3)
def c_X3_init_s13 (σ : NS) (this : Nat) : NS := nArr (c_X3_init_s12 σ this) 20 6
def c_X3_init_s14 (σ : NS) (this : Nat) : NS := nRef (c_X3_init_s13 σ this) this 8 (σ.1 + 4)
def c_X3_init_s15 (σ : NS) (this : Nat) : NS := nArr (c_X3_init_s14 σ this) 20 6
def c_X3_init_s16 (σ : NS) (this : Nat) : NS := nRef (c_X3_init_s15 σ this) this 9 (σ.1 + 5)
def c_X3_init (σ : NS) (this : Nat) : NS := (c_X3_init_s16 σ this)
def c_X4_init_s1 (σ : NS) (this : Nat) (a0 : Nat) : NS := nInt σ this 1 0
def c_X4_init_s2 (σ : NS) (this : Nat) (a0 : Nat) : NS := nRef (c_X4_init_s1 σ this a0) this 0 a0
def c_X4_init (σ : NS) (this : Nat) (a0 : Nat) : NS := (c_X4_init_s2 σ this a0)
def c_X7_init_s1 (σ : NS) (this : Nat) : NS := nArr σ 21 500
def c_X7_init_s2 (σ : NS) (this : Nat) : NS := nRef (c_X7_init_s1 σ this) this 0 (σ.1)
def c_X7_init_s3 (σ : NS) (this : Nat) : NS := nInt (c_X7_init_s2 σ this) this 1 0
def c_X7_init_s4 (σ : NS) (this : Nat) : NS := nInt (c_X7_init_s3 σ this) this 2 0
def c_X7_init_s5 (σ : NS) (this : Nat) : NS := nInt (c_X7_init_s4 σ this) this 3 0
def c_X7_init_s6 (σ : NS) (this : Nat) : NS := nInt (c_X7_init_s5 σ this) this 4 0
def c_X7_init (σ : NS) (this : Nat) : NS := (c_X7_init_s6 σ this)
def c_X6_init_s1 (σ : NS) (this : Nat) : NS := nArr σ 20 8
def c_X6_init_s2 (σ : NS) (this : Nat) : NS := nRef (c_X6_init_s1 σ this) this 0 (σ.1)
def c_X6_init_s3 (σ : NS) (this : Nat) : NS := nArr (c_X6_init_s2 σ this) 20 8
def c_X6_init_s4 (σ : NS) (this : Nat) : NS := nRef (c_X6_init_s3 σ this) this 1 (σ.1 + 1)
def c_X6_init_s5 (σ : NS) (this : Nat) : NS := nMul (c_X6_init_s4 σ this) 8 40
def c_X6_init_s6 (σ : NS) (this : Nat) : NS := nRef (c_X6_init_s5 σ this) this 2 (σ.1 + 2)
def c_X6_init_s7 (σ : NS) (this : Nat) : NS := c_J7_fill_53178 (c_X6_init_s6 σ this) (σ.1 + 1)
def c_X6_init (σ : NS) (this : Nat) : NS := (c_X6_init_s7 σ this)
def c_X5_init_s1 (σ : NS) (this : Nat) : NS := nArr σ 24 7
def c_X5_init_s2 (σ : NS) (this : Nat) : NS := nRef (c_X5_init_s1 σ this) this 0 (σ.1)
def c_X5_init_s3 (σ : NS) (this : Nat) : NS := nArr (c_X5_init_s2 σ this) 20 6
def c_X5_init_s4 (σ : NS) (this : Nat) : NS := nRef (c_X5_init_s3 σ this) this 1 (σ.1 + 1)
def c_X5_init_s5 (σ : NS) (this : Nat) : NS := nArr (c_X5_init_s4 σ this) 20 6
def c_X5_init_s6 (σ : NS) (this : Nat) : NS := nRef (c_X5_init_s5 σ this) this 2 (σ.1 + 2)
def c_X5_init_s7 (σ : NS) (this : Nat) : NS := nArr (c_X5_init_s6 σ this) 20 64
def c_X5_init_s8 (σ : NS) (this : Nat) : NS := nRef (c_X5_init_s7 σ this) this 3 (σ.1 + 3)
def c_X5_init_s9 (σ : NS) (this : Nat) : NS := nInt (c_X5_init_s8 σ this) this 4 0
def c_X5_init_s10 (σ : NS) (this : Nat) : NS := nInt (c_X5_init_s9 σ this) this 5 0
def c_X5_init_s11 (σ : NS) (this : Nat) : NS := nInt (c_X5_init_s10 σ this) this 6 0
def c_X5_init_s12 (σ : NS) (this : Nat) : NS := nObj (c_X5_init_s11 σ this) 2
def c_X5_init_s13 (σ : NS) (this : Nat) : NS := c_X2_init (c_X5_init_s12 σ this) (σ.1 + 4)
def c_X5_init_s14 (σ : NS) (this : Nat) : NS := nRef (c_X5_init_s13 σ this) (σ.1) 0 (σ.1 + 4)
def c_X5_init_s15 (σ : NS) (this : Nat) : NS := nObj (c_X5_init_s14 σ this) 2
def c_X5_init_s16 (σ : NS) (this : Nat) : NS := c_X2_init (c_X5_init_s15 σ this) (σ.1 + 11)
def c_X5_init_s17 (σ : NS) (this : Nat) : NS := nRef (c_X5_init_s16 σ this) (σ.1) 1 (σ.1 + 11)
def c_X5_init_s18 (σ : NS) (this : Nat) : NS := nObj (c_X5_init_s17 σ this) 2
def c_X5_init_s19 (σ : NS) (this : Nat) : NS := c_X2_init (c_X5_init_s18 σ this) (σ.1 + 18)
def c_X5_init_s20 (σ : NS) (this : Nat) : NS := nRef (c_X5_init_s19 σ this) (σ.1) 2 (σ.1 + 18)
def c_X5_init_s21 (σ : NS) (this : Nat) : NS := nObj (c_X5_init_s20 σ this) 2
def c_X5_init_s22 (σ : NS) (this : Nat) : NS := c_X2_init (c_X5_init_s21 σ this) (σ.1 + 25)
def c_X5_init_s23 (σ : NS) (this : Nat) : NS := nRef (c_X5_init_s22 σ this) (σ.1) 3 (σ.1 + 25)
def c_X5_init_s24 (σ : NS) (this : Nat) : NS := nObj (c_X5_init_s23 σ this) 2
def c_X5_init_s25 (σ : NS) (this : Nat) : NS := c_X2_init (c_X5_init_s24 σ this) (σ.1 + 32)
def c_X5_init_s26 (σ : NS) (this : Nat) : NS := nRef (c_X5_init_s25 σ this) (σ.1) 4 (σ.1 + 32)
def c_X5_init_s27 (σ : NS) (this : Nat) : NS := nObj (c_X5_init_s26 σ this) 2
def c_X5_init_s28 (σ : NS) (this : Nat) : NS := c_X2_init (c_X5_init_s27 σ this) (σ.1 + 39)
def c_X5_init_s29 (σ : NS) (this : Nat) : NS := nRef (c_X5_init_s28 σ this) (σ.1) 5 (σ.1 + 39)
def c_X5_init_s30 (σ : NS) (this : Nat) : NS := nObj (c_X5_init_s29 σ this) 2
def c_X5_init_s31 (σ : NS) (this : Nat) : NS := c_X2_init (c_X5_init_s30 σ this) (σ.1 + 46)
def c_X5_init_s32 (σ : NS) (this : Nat) : NS := nRef (c_X5_init_s31 σ this) (σ.1) 6 (σ.1 + 46)
def c_X5_init (σ : NS) (this : Nat) : NS := (c_X5_init_s32 σ this)
def c_X8_init_s1 (σ : NS) (this : Nat) : NS := nObj σ 6
def c_X8_init_s2 (σ : NS) (this : Nat) : NS := c_X6_init (c_X8_init_s1 σ this) (σ.1)
def c_X8_init_s3 (σ : NS) (this : Nat) : NS := nRef (c_X8_init_s2 σ this) this 0 (σ.1)
def c_X8_init_s4 (σ : NS) (this : Nat) : NS := nObj (c_X8_init_s3 σ this) 7
def c_X8_init_s5 (σ : NS) (this : Nat) : NS := c_X7_init (c_X8_init_s4 σ this) (σ.1 + 12)
def c_X8_init_s6 (σ : NS) (this : Nat) : NS := nRef (c_X8_init_s5 σ this) this 1 (σ.1 + 12)
def c_X8_init_s7 (σ : NS) (this : Nat) : NS := nObj (c_X8_init_s6 σ this) 4
def c_X8_init_s8 (σ : NS) (this : Nat) : NS := c_X4_init (c_X8_init_s7 σ this) (σ.1 + 14) (σ.1 + 12)
def c_X8_init_s9 (σ : NS) (this : Nat) : NS := nRef (c_X8_init_s8 σ this) this 2 (σ.1 + 14)
def c_X8_init_s10 (σ : NS) (this : Nat) : NS := nArr (c_X8_init_s9 σ this) 20 12
def c_X8_init_s11 (σ : NS) (this : Nat) : NS := nRef (c_X8_init_s10 σ this) this 3 (σ.1 + 15)
def c_X8_init_s12 (σ : NS) (this : Nat) : NS := nArr (c_X8_init_s11 σ this) 20 6
def c_X8_init_s13 (σ : NS) (this : Nat) : NS := nRef (c_X8_init_s12 σ this) this 4 (σ.1 + 16)
def c_X8_init_s14 (σ : NS) (this : Nat) : NS := nArr (c_X8_init_s13 σ this) 20 12
def c_X8_init_s15 (σ : NS) (this : Nat) : NS := nRef (c_X8_init_s14 σ this) this 5 (σ.1 + 17)
def c_X8_init_s16 (σ : NS) (this : Nat) : NS := nObj (c_X8_init_s15 σ this) 2
def c_X8_init_s17 (σ : NS) (this : Nat) : NS := c_X2_init (c_X8_init_s16 σ this) (σ.1 + 18)
def c_X8_init_s18 (σ : NS) (this : Nat) : NS := nRef (c_X8_init_s17 σ this) this 6 (σ.1 + 18)
def c_X8_init_s19 (σ : NS) (this : Nat) : NS := nObj (c_X8_init_s18 σ this) 2
def c_X8_init_s20 (σ : NS) (this : Nat) : NS := c_X2_init (c_X8_init_s19 σ this) (σ.1 + 25)
def c_X8_init_s21 (σ : NS) (this : Nat) : NS := nRef (c_X8_init_s20 σ this) this 7 (σ.1 + 25)
def c_X8_init_s22 (σ : NS) (this : Nat) : NS := nObj (c_X8_init_s21 σ this) 5
def c_X8_init_s23 (σ : NS) (this : Nat) : NS := c_X5_init (c_X8_init_s22 σ this) (σ.1 + 32)
def c_X8_init_s24 (σ : NS) (this : Nat) : NS := nRef (c_X8_init_s23 σ this) this 8 (σ.1 + 32)
def c_X8_init_s25 (σ : NS) (this : Nat) : NS := nObj (c_X8_init_s24 σ this) 1
def c_X8_init_s26 (σ : NS) (this : Nat) : NS := c_X1_init (c_X8_init_s25 σ this) (σ.1 + 86)
def c_X8_init_s27 (σ : NS) (this : Nat) : NS := nRef (c_X8_init_s26 σ this) this 9 (σ.1 + 86)
def c_X8_init_s28 (σ : NS) (this : Nat) : NS := nObj (c_X8_init_s27 σ this) 0
def c_X8_init_s29 (σ : NS) (this : Nat) : NS := c_X0_init (c_X8_init_s28 σ this) (σ.1 + 89)
def c_X8_init_s30 (σ : NS) (this : Nat) : NS := nRef (c_X8_init_s29 σ this) this 10 (σ.1 + 89)
def c_X8_init_s31 (σ : NS) (this : Nat) : NS := nObj (c_X8_init_s30 σ this) 3
def c_X8_init_s32 (σ : NS) (this : Nat) : NS := c_X3_init (c_X8_init_s31 σ this) (σ.1 + 91)
def c_X8_init_s33 (σ : NS) (this : Nat) : NS := nInt (c_X8_init_s32 σ this) this 11 (Int32.ofNat (σ.1 + 91))
def c_X8_init_s34 (σ : NS) (this : Nat) : NS := nObj (c_X8_init_s33 σ this) 3
def c_X8_init_s35 (σ : NS) (this : Nat) : NS := c_X3_init (c_X8_init_s34 σ this) (σ.1 + 98)
def c_X8_init_s36 (σ : NS) (this : Nat) : NS := nInt (c_X8_init_s35 σ this) this 12 (Int32.ofNat (σ.1 + 98))
def c_X8_init_s37 (σ : NS) (this : Nat) : NS := nInt (c_X8_init_s36 σ this) this 13 0
def c_X8_init_s38 (σ : NS) (this : Nat) : NS := nInt (c_X8_init_s37 σ this) this 14 0
def c_X8_init_s39 (σ : NS) (this : Nat) : NS := nInt (c_X8_init_s38 σ this) this 15 0
def c_X8_init (σ : NS) (this : Nat) : NS := (c_X8_init_s39 σ this)
def c_X9_init_s1 (σ : NS) (this : Nat) : NS := nArr σ 20 8
def c_X9_init_s2 (σ : NS) (this : Nat) : NS := nInt (c_X9_init_s1 σ this) (σ.1) 0 (-1)
def c_X9_init_s3 (σ : NS) (this : Nat) : NS := nInt (c_X9_init_s2 σ this) (σ.1) 1 (-1)
def c_X9_init_s4 (σ : NS) (this : Nat) : NS := nInt (c_X9_init_s3 σ this) (σ.1) 2 (-1)
def c_X9_init_s5 (σ : NS) (this : Nat) : NS := nInt (c_X9_init_s4 σ this) (σ.1) 3 (-1)
def c_X9_init_s6 (σ : NS) (this : Nat) : NS := nInt (c_X9_init_s5 σ this) (σ.1) 4 (-1)
def c_X9_init_s7 (σ : NS) (this : Nat) : NS := nInt (c_X9_init_s6 σ this) (σ.1) 5 (-1)
def c_X9_init_s8 (σ : NS) (this : Nat) : NS := nInt (c_X9_init_s7 σ this) (σ.1) 6 (-1)
def c_X9_init_s9 (σ : NS) (this : Nat) : NS := nInt (c_X9_init_s8 σ this) (σ.1) 7 (-1)
def c_X9_init_s10 (σ : NS) (this : Nat) : NS := nRef (c_X9_init_s9 σ this) this 2 (σ.1)
def c_X9_init_s11 (σ : NS) (this : Nat) : NS := nArr (c_X9_init_s10 σ this) 20 8
def c_X9_init_s12 (σ : NS) (this : Nat) : NS := nRef (c_X9_init_s11 σ this) this 3 (σ.1 + 1)
def c_X9_init_s13 (σ : NS) (this : Nat) : NS := nArr (c_X9_init_s12 σ this) 20 320
def c_X9_init_s14 (σ : NS) (this : Nat) : NS := nRef (c_X9_init_s13 σ this) this 4 (σ.1 + 2)
def c_X9_init_s15 (σ : NS) (this : Nat) : NS := nArr (c_X9_init_s14 σ this) 20 160
def c_X9_init_s16 (σ : NS) (this : Nat) : NS := nRef (c_X9_init_s15 σ this) this 9 (σ.1 + 3)
def c_X9_init_s17 (σ : NS) (this : Nat) : NS := nArr (c_X9_init_s16 σ this) 20 10
def c_X9_init_s18 (σ : NS) (this : Nat) : NS := nRef (c_X9_init_s17 σ this) this 10 (σ.1 + 4)
def c_X9_init_s19 (σ : NS) (this : Nat) : NS := nArr (c_X9_init_s18 σ this) 20 10
def c_X9_init_s20 (σ : NS) (this : Nat) : NS := nRef (c_X9_init_s19 σ this) this 11 (σ.1 + 5)
def c_X9_init_s21 (σ : NS) (this : Nat) : NS := nArr (c_X9_init_s20 σ this) 20 160
def c_X9_init_s22 (σ : NS) (this : Nat) : NS := nRef (c_X9_init_s21 σ this) this 16 (σ.1 + 6)
def c_X9_init_s23 (σ : NS) (this : Nat) : NS := nArr (c_X9_init_s22 σ this) 20 10
def c_X9_init_s24 (σ : NS) (this : Nat) : NS := nRef (c_X9_init_s23 σ this) this 17 (σ.1 + 7)
def c_X9_init_s25 (σ : NS) (this : Nat) : NS := nArr (c_X9_init_s24 σ this) 20 10
def c_X9_init_s26 (σ : NS) (this : Nat) : NS := nRef (c_X9_init_s25 σ this) this 18 (σ.1 + 8)
def c_X9_init_s27 (σ : NS) (this : Nat) : NS := nArr (c_X9_init_s26 σ this) 20 500
def c_X9_init_s28 (σ : NS) (this : Nat) : NS := nRef (c_X9_init_s27 σ this) this 19 (σ.1 + 9)
def c_X9_init_s29 (σ : NS) (this : Nat) : NS := nArr (c_X9_init_s28 σ this) 20 12
def c_X9_init_s30 (σ : NS) (this : Nat) : NS := nRef (c_X9_init_s29 σ this) this 29 (σ.1 + 10)
def c_X9_init_s31 (σ : NS) (this : Nat) : NS := nArr (c_X9_init_s30 σ this) 20 6
def c_X9_init_s32 (σ : NS) (this : Nat) : NS := nRef (c_X9_init_s31 σ this) this 30 (σ.1 + 11)
def c_X9_init_s33 (σ : NS) (this : Nat) : NS := nArr (c_X9_init_s32 σ this) 20 48
def c_X9_init_s34 (σ : NS) (this : Nat) : NS := nRef (c_X9_init_s33 σ this) this 32 (σ.1 + 12)
def c_X9_init_s35 (σ : NS) (this : Nat) : NS := nArr (c_X9_init_s34 σ this) 20 12
def c_X9_init_s36 (σ : NS) (this : Nat) : NS := nRef (c_X9_init_s35 σ this) this 33 (σ.1 + 13)
def c_X9_init_s37 (σ : NS) (this : Nat) : NS := nArr (c_X9_init_s36 σ this) 22 12
def c_X9_init_s38 (σ : NS) (this : Nat) : NS := nRef (c_X9_init_s37 σ this) this 34 (σ.1 + 14)
def c_X9_init_s39 (σ : NS) (this : Nat) : NS := nArr (c_X9_init_s38 σ this) 20 48
def c_X9_init_s40 (σ : NS) (this : Nat) : NS := nRef (c_X9_init_s39 σ this) this 36 (σ.1 + 15)
def c_X9_init_s41 (σ : NS) (this : Nat) : NS := nArr (c_X9_init_s40 σ this) 20 12
def c_X9_init_s42 (σ : NS) (this : Nat) : NS := nRef (c_X9_init_s41 σ this) this 38 (σ.1 + 16)
def c_X9_init_s43 (σ : NS) (this : Nat) : NS := nArr (c_X9_init_s42 σ this) 20 6
def c_X9_init_s44 (σ : NS) (this : Nat) : NS := nRef (c_X9_init_s43 σ this) this 39 (σ.1 + 17)
def c_X9_init_s45 (σ : NS) (this : Nat) : NS := nArr (c_X9_init_s44 σ this) 20 6
def c_X9_init_s46 (σ : NS) (this : Nat) : NS := nRef (c_X9_init_s45 σ this) this 40 (σ.1 + 18)
def c_X9_init_s47 (σ : NS) (this : Nat) : NS := nArr (c_X9_init_s46 σ this) 20 16
def c_X9_init_s48 (σ : NS) (this : Nat) : NS := nRef (c_X9_init_s47 σ this) this 41 (σ.1 + 19)
def c_X9_init (σ : NS) (this : Nat) : NS := (c_X9_init_s48 σ this)
def c_L_law_s1 (σ : NS) : NS := nObj σ 8
def c_L_law_s2 (σ : NS) : NS := c_X8_init (c_L_law_s1 σ) (σ.1)
def c_L_law_s3 (σ : NS) : NS := nObj (c_L_law_s2 σ) 9
def c_L_law_s4 (σ : NS) : NS := c_X9_init (c_L_law_s3 σ) (σ.1 + 106)
def c_L_law (σ : NS) : NS := (c_L_law_s4 σ)
def m_X0_hasKind (Z : ZT) (a0 : Int32) (μ : MT) : Option (Int32) :=
  (if a0 < 0 then some 0 else (if 8 ≤ a0 then some 0 else some 1))
def m_X0_leave (Z : ZT) (this : Nat) (a0 : Int32) (μ : MT) : Option (MT) :=
  (if 16 ≤ (μ this 1) then some μ else (ast Z μ (zr Z this 0) (μ this 1) a0).bind fun ν2 => (some (u2 ν2 this 1 ((ν2 this 1) + 1))).bind fun ν3 => some ν3)
def m_X0_traced (Z : ZT) (this : Nat) (a0 : Int32) (μ : MT) : Option (Int32) :=
  (if a0 < 0 then some (-1000000) else (if (μ this 1) ≤ a0 then some (-1000000) else (ald Z μ (zr Z this 0) a0).bind fun x2 => some x2))
def m_X1_forget (Z : ZT) (this : Nat) (μ : MT) : Option (MT) :=
  (some (u2 μ this 2 0)).bind fun ν1 => some ν1
def m_X1_keepWhereFlat (Z : ZT) (this : Nat) (a0 : Nat) (a1 : Int32) (μ : MT) : Option (MT) :=
  (loop (σ := Int32 × MT) (τ := MT) (fun (y1, ν2) => ((if (ν2 a0 7) ≤ y1 then some (Sum.inr ν2) else (ald Z ν2 (zr Z this 0) y1).bind fun x9 => (((if x9 = (-1000000) then (ald Z ν2 (zr Z a0 3) y1).bind fun x15 => (if x15 = 0 then (ast Z ν2 (zr Z this 0) y1 a1).bind fun ν17 => some ν17 else some ν2) else some ν2) : Option (MT))).bind (fun ν10 => (some (y1 + 1)).bind fun x13 => some (Sum.inl (x13, ν10)))) : Option ((Int32 × MT) ⊕ (MT)))) LN (0, μ)).bind (fun ν3 => some ν3)
def m_X2_becomeAs (Z : ZT) (this : Nat) (a0 : Nat) (μ : MT) : Option (MT) :=
  (some (u2 μ this 7 (μ a0 7))).bind fun ν1 => (some (u2 ν1 this 8 (ν1 a0 8))).bind fun ν2 => (some (u2 ν2 this 9 (ν2 a0 9))).bind fun ν3 => (some (u2 ν3 this 6 (ν3 a0 6))).bind fun ν4 => (acp Z ν4 (zr Z a0 0) 0 (zr Z this 0) 0 12).bind fun ν7 => (acp Z ν7 (zr Z a0 1) 0 (zr Z this 1) 0 12).bind fun ν10 => (acp Z ν10 (zr Z a0 2) 0 (zr Z this 2) 0 12).bind fun ν13 => (acp Z ν13 (zr Z a0 3) 0 (zr Z this 3) 0 12).bind fun ν16 => (acp Z ν16 (zr Z a0 4) 0 (zr Z this 4) 0 12).bind fun ν19 => (acp Z ν19 (zr Z a0 5) 0 (zr Z this 5) 0 12).bind fun ν22 => some ν22
def m_X2_effectOf (Z : ZT) (this : Nat) (a0 : Int32) (a1 : Int32) (μ : MT) : Option (Int32) :=
  (ald Z μ (zr Z this 2) a1).bind fun x2 => (some (8 + x2)).bind fun x3 => (((if x3 ≤ 0 then some 0 else (idv (8 * a0) x3).bind fun x10 => some x10) : Option (Int32))).bind (fun z4 => (ald Z μ (zr Z this 0) a1).bind fun x8 => (if x8 < 100 then some z4 else (idv z4 2).bind fun x9 => some x9))
def m_X2_heatOfStep (Z : ZT) (a0 : Int32) (a1 : Int32) (μ : MT) : Option (Int32) :=
  (if a0 = 0 then some a1 else if a0 = 6 then some (6 * a1) else some (4 * a1))
def m_X2_holdOfStep (Z : ZT) (a0 : Int32) (μ : MT) : Option (Int32) :=
  (if a0 = 0 then some 1 else if a0 = 4 then some 1 else if a0 = 6 then some 0 else some 2)
def m_X2_has (Z : ZT) (this : Nat) (a0 : Int32) (μ : MT) : Option (Int32) :=
  (if a0 < 0 then some 0 else (if (μ this 7) ≤ a0 then some 0 else some 1))
def m_X2_holds (Z : ZT) (this : Nat) (a0 : Int32) (μ : MT) : Option (Int32) :=
  (if a0 < 0 then some 0 else (if (μ this 7) ≤ a0 then some 0 else (ald Z μ (zr Z this 2) a0).bind fun x2 => (if x2 ≤ 0 then some 0 else some 1)))
def m_X2_isClamped (Z : ZT) (this : Nat) (a0 : Int32) (μ : MT) : Option (Int32) :=
  (if (((μ this 6) >>> (a0 &&& 31)) &&& 1) = 1 then some 1 else some 0)
def m_X2_cool (Z : ZT) (this : Nat) (a0 : Int32) (μ : MT) : Option (MT) :=
  (ald Z μ (zr Z this 1) a0).bind fun x2 => (loop (σ := Int32 × MT) (τ := MT) (fun (y3, ν4) => ((if (ν4 this 8) ≤ y3 then some (Sum.inr ν4) else (ald Z ν4 (zr Z this 0) a0).bind fun x13 => (if x13 ≤ 0 then some (Sum.inr ν4) else (ald Z ν4 (zr Z this 0) a0).bind fun x16 => (idv (x16 * 3) 4).bind fun x17 => (ast Z ν4 (zr Z this 0) a0 x17).bind fun ν18 => (some (y3 + 1)).bind fun x19 => some (Sum.inl (x19, ν18)))) : Option ((Int32 × MT) ⊕ (MT)))) LN (x2, μ)).bind (fun ν5 => (ast Z ν5 (zr Z this 1) a0 (ν5 this 8)).bind fun ν11 => some ν11)
def m_X2_heightAt (Z : ZT) (this : Nat) (a0 : Int32) (μ : MT) : Option (Int32) :=
  (loop (σ := Int32 × Int32 × Int32) (τ := Int32) (fun (y1, y2, y3) => ((if a0 ≤ y3 then some (Sum.inr y2) else (if (μ this 7) ≤ y3 then some (Sum.inr y2) else (ald Z μ (zr Z this 3) y3).bind fun x10 => (some (y1 + x10)).bind fun x11 => (some (y2 + x11)).bind fun x12 => (some (y3 + 1)).bind fun x13 => some (Sum.inl (x11, x12, x13)))) : Option ((Int32 × Int32 × Int32) ⊕ (Int32)))) LN (0, 0, 0)).bind (fun y4 => some y4)
def m_X3_isNone (Z : ZT) (this : Nat) (μ : MT) : Option (Int32) :=
  (if (μ this 0) = 0 then some 1 else some 0)
def m_X3_hasCell (Z : ZT) (this : Nat) (a0 : Int32) (μ : MT) : Option (Int32) :=
  (if a0 < 0 then some 0 else (if (μ this 0) ≤ a0 then some 0 else some 1))
def m_X3_hasSeam (Z : ZT) (this : Nat) (a0 : Int32) (μ : MT) : Option (Int32) :=
  (if a0 < 0 then some 0 else (if (μ this 1) ≤ a0 then some 0 else some 1))
def m_X3_hasAct (Z : ZT) (this : Nat) (a0 : Int32) (μ : MT) : Option (Int32) :=
  (if a0 < 0 then some 0 else (if (μ this 2) ≤ a0 then some 0 else some 1))
def m_X3_stepKind (Z : ZT) (this : Nat) (a0 : Int32) (μ : MT) : Option (Int32) :=
  (ald Z μ (zr Z this 4) a0).bind fun x2 => some (x2 + 1)
def m_X3_addAct (Z : ZT) (this : Nat) (a0 : Int32) (a1 : Int32) (a2 : Int32) (μ : MT) : Option (MT) :=
  (if 40 ≤ (μ this 2) then some μ else (ast Z μ (zr Z this 4) (μ this 2) a0).bind fun ν2 => (ast Z ν2 (zr Z this 5) (ν2 this 2) a1).bind fun ν4 => (ast Z ν4 (zr Z this 6) (ν4 this 2) a2).bind fun ν6 => (ast Z ν6 (zr Z this 7) (ν6 this 2) (ν6 this 1)).bind fun ν8 => (some (u2 ν8 this 2 ((ν8 this 2) + 1))).bind fun ν9 => some ν9)
def m_X3_endSeam (Z : ZT) (this : Nat) (μ : MT) : Option (MT) :=
  (if 6 ≤ (μ this 1) then some μ else (ast Z μ (zr Z this 8) (μ this 1) (μ this 2)).bind fun ν2 => (some (u2 ν2 this 1 ((ν2 this 1) + 1))).bind fun ν3 => some ν3)
def m_X3_firstAct (Z : ZT) (this : Nat) (a0 : Int32) (μ : MT) : Option (Int32) :=
  (if a0 ≤ 0 then some 0 else (if (μ this 1) ≤ a0 then some 0 else (ald Z μ (zr Z this 8) (a0 - 1)).bind fun x2 => some x2))
def m_X5_forget (Z : ZT) (this : Nat) (μ : MT) : Option (MT) :=
  (some (u2 μ this 4 0)).bind fun ν1 => some ν1
def m_X6_hasNumber (Z : ZT) (this : Nat) (a0 : Int32) (μ : MT) : Option (Int32) :=
  (if a0 < 0 then some 0 else (if 8 ≤ a0 then some 0 else some 1))
def m_X6_isMissing (Z : ZT) (this : Nat) (a0 : Int32) (μ : MT) : Option (Int32) :=
  (((if a0 < 0 then some (Sum.inr ()) else (if 8 ≤ a0 then some (Sum.inr ()) else (ald Z μ (zr Z this 1) a0).bind fun x5 => (if x5 = (-1) then some (Sum.inr ()) else some (Sum.inl 0)))) : Option ((Int32) ⊕ (Unit)))).bind (jn (fun (_ : Unit) => some 1))
def m_X6_howMany (Z : ZT) (this : Nat) (μ : MT) : Option (Int32) :=
  (loop (σ := Int32 × Int32) (τ := Int32) (fun (y1, y2) => ((if 8 ≤ y2 then some (Sum.inr y1) else (ald Z μ (zr Z this 1) y2).bind fun x9 => (((if x9 = (-1) then some y1 else (some (y1 + 1)).bind fun x14 => some x14) : Option (Int32))).bind (fun y10 => (some (y2 + 1)).bind fun x13 => some (Sum.inl (y10, x13)))) : Option ((Int32 × Int32) ⊕ (Int32)))) LN (0, 0)).bind (fun y3 => some y3)
def m_X6_takeAway (Z : ZT) (this : Nat) (a0 : Int32) (μ : MT) : Option (Int32 × MT) :=
  (ald Z μ (zr Z this 1) a0).bind fun x2 => (ast Z μ (zr Z this 1) a0 (-1)).bind fun ν4 => some (x2, ν4)
def m_X6_narrowed (Z : ZT) (a0 : Int32) (a1 : Int32) (μ : MT) : Option (Int32) :=
  (if a0 = 0 then some ((a1 : Int32).toInt8.toInt32) else if a0 = 1 then some ((a1 : Int32).toInt16.toInt32) else some a1)
def m_X6_carry (Z : ZT) (this : Nat) (a0 : Int32) (a1 : Int32) (a2 : Int32) (a3 : Int32) (a4 : Int32) (μ : MT) : Option (MT) :=
  (ard Z (zr Z this 2) a0).bind fun q2 => (ard Z (zr Z this 2) a2).bind fun q5 => (acp Z μ q2 a1 q5 a3 a4).bind fun ν7 => some ν7
def m_X7_hasRoom (Z : ZT) (this : Nat) (a0 : Int32) (μ : MT) : Option (Int32) :=
  (if (500 - (μ this 1)) < a0 then some 0 else some 1)
def m_X7_append (Z : ZT) (this : Nat) (a0 : Int64) (a1 : Int32) (μ : MT) : Option (Int32 × MT) :=
  (some (a1 - 1)).bind fun x1 => (loop (σ := Int32 × MT) (τ := MT) (fun (y2, ν3) => ((if y2 < 0 then some (Sum.inr ν3) else (if 500 ≤ (ν3 this 1) then some (Sum.inr ν3) else (ast Z ν3 (zr Z this 0) (ν3 this 1) (vp_nar .byte (((a0 >>> ((8 * y2 : Int32).toInt64 &&& 63) : Int64).toInt32 : Int32).toInt8.toInt32))).bind fun ν10 => (some (u2 ν10 this 1 ((ν10 this 1) + 1))).bind fun ν11 => (some (y2 + (-1))).bind fun x12 => some (Sum.inl (x12, ν11)))) : Option ((Int32 × MT) ⊕ (MT)))) LN (x1, μ)).bind (fun ν4 => some (ν4 this 1, ν4))
def m_X7_empty (Z : ZT) (this : Nat) (μ : MT) : Option (MT) :=
  (some (u2 μ this 1 0)).bind fun ν1 => some ν1
def m_X7_tokenPlace (Z : ZT) (this : Nat) (μ : MT) : Option (Int32) :=
  some (μ this 2)
def m_X7_sortOf (Z : ZT) (a0 : Int32) (μ : MT) : Option (Int32) :=
  (((if a0 < 97 then some (Sum.inr ()) else (if 122 < a0 then some (Sum.inr ()) else some (Sum.inl 1))) : Option ((Int32) ⊕ (Unit)))).bind (jn (fun (_ : Unit) => (((if a0 < 48 then some (Sum.inr ()) else (if 57 < a0 then some (Sum.inr ()) else some (Sum.inl 2))) : Option ((Int32) ⊕ (Unit)))).bind (jn (fun (_ : Unit) => (if a0 = 59 then some 3 else some 4)))))
def m_X7_spelling (Z : ZT) (a0 : Int32) (μ : MT) : Option (Nat) :=
  (if a0 = 0 then some (2000 + 0) else if a0 = 1 then some (2000 + 1) else if a0 = 2 then some (2000 + 2) else if a0 = 3 then some (2000 + 3) else if a0 = 4 then some (2000 + 4) else if a0 = 5 then some (2000 + 5) else if a0 = 6 then some (2000 + 6) else if a0 = 7 then some (2000 + 7) else if a0 = 8 then some (2000 + 8) else if a0 = 9 then some (2000 + 9) else if a0 = 10 then some (2000 + 10) else if a0 = 11 then some (2000 + 11) else if a0 = 12 then some (2000 + 12) else some (2000 + 13))
def m_X7_atEnd (Z : ZT) (this : Nat) (μ : MT) : Option (Int32) :=
  (if (μ this 4) = 0 then some 1 else some 0)
def m_X7_atNumber (Z : ZT) (this : Nat) (μ : MT) : Option (Int32) :=
  (if (μ this 4) = 2 then some 1 else some 0)
def m_X7_numberHere (Z : ZT) (this : Nat) (μ : MT) : Option (Int32) :=
  (some (μ this 2)).bind fun x1 => (loop (σ := Int32 × Int32) (τ := Int32) (fun (y2, y3) => ((if (μ this 3) ≤ y3 then some (Sum.inr y2) else (if (μ this 4) = 2 then (ald Z μ (zr Z this 0) y3).bind fun x10 => (some (((y2 * 10) + x10) - 48)).bind fun x11 => (some (y3 + 1)).bind fun x12 => some (Sum.inl (x11, x12)) else some (Sum.inr y2))) : Option ((Int32 × Int32) ⊕ (Int32)))) LN (0, x1)).bind (fun y4 => some y4)
def m_X7_atSign (Z : ZT) (this : Nat) (μ : MT) : Option (Int32) :=
  (if (μ this 4) = 3 then some 1 else some 0)
def m_X8_fault (Z : ZT) (this : Nat) (μ : MT) : Option (Int32) :=
  some (μ this 14)
def m_X8_minutes (Z : ZT) (this : Nat) (μ : MT) : Option (Int32) :=
  some (μ (zr Z this 6) 8)
def m_X8_spotAt (Z : ZT) (zn : Nat) (this : Nat) (a0 : Int32) (a1 : Int32) (μ : MT) : Option (MT) :=
  (ald Z μ (zr Z this 5) a0).bind fun x2 => (((if x2 ≤ 0 then (ald Z μ (zr Z this 5) a0).bind fun x19 => (ast Z μ (zr Z this 5) a0 (imin 0 (x19 + a1))).bind fun ν20 => some ν20 else (ald Z μ (zr Z this 5) a0).bind fun x23 => (ast Z μ (zr Z this 5) a0 (imax 0 (x23 - a1))).bind fun ν24 => some ν24) : Option (MT))).bind (fun ν3 => (((if a0 ≤ 0 then some ν3 else (ald Z ν3 (zr Z this 5) (a0 - 1)).bind fun x15 => (ast Z ν3 (zr Z this 5) (a0 - 1) (x15 + 1)).bind fun ν16 => some ν16) : Option (MT))).bind (fun ν6 => (mrd Z zn 3 (ν6 this 11)).bind fun q9 => (if (ν6 q9 0) ≤ (a0 + 1) then some ν6 else (ald Z ν6 (zr Z this 5) (a0 + 1)).bind fun x12 => (ast Z ν6 (zr Z this 5) (a0 + 1) (x12 + 1)).bind fun ν13 => some ν13)))
def m_X8_status (Z : ZT) (this : Nat) (μ : MT) : Option (Int32) :=
  some (μ this 15)
def m_X8_found (Z : ZT) (this : Nat) (a0 : Int32) (μ : MT) : Option (Int32 × MT) :=
  (some (u2 μ this 15 a0)).bind fun ν1 => some ((-1000010) - a0, ν1)
def m_X8_fine (Z : ZT) (this : Nat) (a0 : Int32) (μ : MT) : Option (Int32 × MT) :=
  (some (u2 μ this 15 0)).bind fun ν1 => some (a0, ν1)
def m_X9_in (Z : ZT) (a0 : Int64) (a1 : Int64) (a2 : Int64) (μ : MT) : Option (Int32) :=
  (if (lg_cmp a0 a1) < 0 then some 0 else (if 0 < (lg_cmp a0 a2) then some 0 else some 1))
def m_X9_finding (Z : ZT) (this : Nat) (a0 : Int32) (μ : MT) : Option (Int32 × MT) :=
  (some (u2 μ this 1 a0)).bind fun ν1 => some ((-1000010) - a0, ν1)
def m_X9_byteAt (Z : ZT) (this : Nat) (a0 : Int32) (μ : MT) : Option (Int32) :=
  (if (μ this 22) ≤ a0 then some (-1000000) else (ald Z μ (zr Z this 19) a0).bind fun x2 => some x2)
def m_X9_isLetter (Z : ZT) (a0 : Int32) (μ : MT) : Option (Int32) :=
  (if a0 < 97 then some 0 else (if 122 < a0 then some 0 else some 1))
def m_X9_isFigure (Z : ZT) (a0 : Int32) (μ : MT) : Option (Int32) :=
  (if a0 < 48 then some 0 else (if 57 < a0 then some 0 else some 1))
def m_X9_bad (Z : ZT) (this : Nat) (a0 : Int32) (μ : MT) : Option (MT) :=
  (if (μ this 27) = 0 then (some (u2 μ this 27 a0)).bind fun ν1 => (some (u2 ν1 this 28 (ν1 this 25))).bind fun ν2 => some ν2 else some μ)
def m_X9_word (Z : ZT) (this : Nat) (μ : MT) : Option (Int64) :=
  (some (μ this 25)).bind fun x1 => (loop (σ := Int64 × Int32) (τ := Int64) (fun (y2, y3) => ((if (μ this 26) ≤ y3 then some (Sum.inr y2) else (if (μ this 24) = 2 then (if 8 ≤ ((μ this 26) - (μ this 25)) then some (Sum.inr y2) else (ald Z μ (zr Z this 19) y3).bind fun x10 => (some ((y2 <<< ((8 : Int32).toInt64 &&& 63)) ||| ((x10 : Int32).toInt64))).bind fun x11 => (some (y3 + 1)).bind fun x12 => some (Sum.inl (x11, x12))) else some (Sum.inr y2))) : Option ((Int64 × Int32) ⊕ (Int64)))) LN (0, x1)).bind (fun y4 => (if (μ this 27) = 0 then some y4 else some 0))
def m_X9_fault (Z : ZT) (this : Nat) (μ : MT) : Option (Int32 × MT) :=
  (some (u2 μ this 0 0)).bind fun ν1 => some (ν1 this 21, ν1)
def m_X9_minute (Z : ZT) (this : Nat) (μ : MT) : Option (MT) :=
  (loop (σ := Int32 × MT) (τ := MT) (fun (y1, ν2) => ((if (ν2 this 5) ≤ y1 then some (Sum.inr ν2) else (ald Z ν2 (zr Z this 32) (0 + y1)).bind fun x11 => (idv (3 * x11) 4).bind fun x12 => (ast Z ν2 (zr Z this 32) (0 + y1) x12).bind fun ν13 => (some (y1 + 1)).bind fun x14 => some (Sum.inl (x14, ν13))) : Option ((Int32 × MT) ⊕ (MT)))) LN (0, μ)).bind (fun ν3 => (some (u2 ν3 this 35 ((ν3 this 35) + 1))).bind fun ν8 => some ν8)
def m_X9_free (Z : ZT) (this : Nat) (a0 : Int32) (μ : MT) : Option (MT) :=
  (ald Z μ (zr Z this 34) a0).bind fun x2 => (if x2 = 0 then some μ else (ast Z μ (zr Z this 34) a0 (vp_nar .boolean 0)).bind fun ν4 => (ald Z ν4 (zr Z this 32) (24 + a0)).bind fun x6 => (ald Z ν4 (zr Z this 33) a0).bind fun x8 => (idv x8 2).bind fun x9 => (ast Z ν4 (zr Z this 32) (24 + a0) (x6 + x9)).bind fun ν10 => (ast Z ν10 (zr Z this 33) a0 0).bind fun ν12 => some ν12)
def m_X9_heightBy (Z : ZT) (this : Nat) (a0 : Nat) (a1 : Int32) (μ : MT) : Option (Int32) :=
  (loop (σ := Int32 × Int32 × Int32) (τ := Int32) (fun (y1, y2, y3) => ((if a1 ≤ y3 then some (Sum.inr y1) else (ald Z μ a0 (24 + y3)).bind fun x9 => (some (y2 + x9)).bind fun x10 => (some (y1 + x10)).bind fun x11 => (some (y3 + 1)).bind fun x12 => some (Sum.inl (x11, x10, x12))) : Option ((Int32 × Int32 × Int32) ⊕ (Int32)))) LN (0, 0, 0)).bind (fun y4 => some y4)
def m_X9_layOpened (Z : ZT) (this : Nat) (μ : MT) : Option (MT) :=
  (loop (σ := Int32 × MT) (τ := MT) (fun (y1, ν2) => ((if 12 ≤ y1 then some (Sum.inr ν2) else (ald Z ν2 (zr Z this 29) y1).bind fun x10 => (ast Z ν2 (zr Z this 38) y1 x10).bind fun ν11 => (some (y1 + 1)).bind fun x12 => some (Sum.inl (x12, ν11))) : Option ((Int32 × MT) ⊕ (MT)))) LN (0, μ)).bind (fun ν3 => some ν3)
def m_X9_stand (Z : ZT) (this : Nat) (μ : MT) : Option (MT) :=
  (loop (σ := Int32 × MT) (τ := MT) (fun (y1, ν2) => ((if 48 ≤ y1 then some (Sum.inr ν2) else (ald Z ν2 (zr Z this 32) y1).bind fun x24 => (ast Z ν2 (zr Z this 36) y1 x24).bind fun ν25 => (some (y1 + 1)).bind fun x26 => some (Sum.inl (x26, ν25))) : Option ((Int32 × MT) ⊕ (MT)))) LN (0, μ)).bind (fun ν3 => (some (u2 ν3 this 37 (ν3 this 35))).bind fun ν8 => (some (u2 ν8 this 31 1)).bind fun ν9 => (loop (σ := Int32 × MT) (τ := MT) (fun (y10, ν11) => ((if 6 ≤ y10 then some (Sum.inr ν11) else (ald Z ν11 (zr Z this 39) y10).bind fun x19 => (ast Z ν11 (zr Z this 30) y10 x19).bind fun ν20 => (some (y10 + 1)).bind fun x21 => some (Sum.inl (x21, ν20))) : Option ((Int32 × MT) ⊕ (MT)))) LN (0, ν9)).bind (fun ν12 => some ν12))
def m_X9_layNumbers (Z : ZT) (this : Nat) (μ : MT) : Option (MT) :=
  (loop (σ := Int32 × MT) (τ := MT) (fun (y1, ν2) => ((if 6 ≤ y1 then some (Sum.inr ν2) else (ast Z ν2 (zr Z this 39) y1 y1).bind fun ν9 => (some (y1 + 1)).bind fun x10 => some (Sum.inl (x10, ν9))) : Option ((Int32 × MT) ⊕ (MT)))) LN (0, μ)).bind (fun ν3 => some ν3)
def m_X9_minutes (Z : ZT) (this : Nat) (μ : MT) : Option (Int32 × MT) :=
  (some (u2 μ this 0 0)).bind fun ν1 => (if (ν1 this 31) = 0 then some (0, ν1) else some (ν1 this 37, ν1))
def m_X9_fits (Z : ZT) (this : Nat) (μ : MT) : Option (Int32) :=
  (loop (σ := Int32 × Int32) (τ := Int32) (fun (y1, y2) => ((if (μ this 8) ≤ y2 then some (Sum.inr y1) else (loop (σ := Int32 × Int32 × Int32) (τ := Int32 × Int32) (fun (y10, y11, y12) => ((if (μ this 6) ≤ y12 then some (Sum.inr (y10, y11)) else (ald Z μ (zr Z this 39) y12).bind fun x27 => (ald Z μ (zr Z this 10) y2).bind fun x29 => (((if x27 = x29 then some y12 else some y10) : Option (Int32))).bind (fun z30 => (ald Z μ (zr Z this 39) y12).bind fun x34 => (ald Z μ (zr Z this 11) y2).bind fun x36 => (((if x34 = x36 then some y12 else some y11) : Option (Int32))).bind (fun z37 => (some (y12 + 1)).bind fun x40 => some (Sum.inl (z30, z37, x40))))) : Option ((Int32 × Int32 × Int32) ⊕ (Int32 × Int32)))) LN (0, 0, 0)).bind (fun (y13, y14) => (((((if y1 = 0 then some (Sum.inr ()) else (if y14 ≤ y13 then some (Sum.inr ()) else some (Sum.inl 1))) : Option ((Int32) ⊕ (Unit)))).bind (jn (fun (_ : Unit) => some 0)) : Option (Int32))).bind (fun z19 => (some (y2 + 1)).bind fun x22 => some (Sum.inl (z19, x22))))) : Option ((Int32 × Int32) ⊕ (Int32)))) LN (1, 0)).bind (fun y3 => (bz y3).bind fun x8 => some x8)
def m_X9_nextOrder (Z : ZT) (this : Nat) (μ : MT) : Option (Int32 × MT) :=
  (some ((μ this 6) - 2)).bind fun x1 => (loop (σ := Int32) (τ := Int32) (fun y2 => ((if y2 < 0 then some (Sum.inr y2) else (ald Z μ (zr Z this 39) y2).bind fun x49 => (ald Z μ (zr Z this 39) (y2 + 1)).bind fun x51 => (if x49 ≤ x51 then some (Sum.inr y2) else (some (y2 + (-1))).bind fun x52 => some (Sum.inl x52))) : Option ((Int32) ⊕ (Int32)))) LN x1).bind (fun y3 => (if 0 ≤ y3 then (some ((μ this 6) - 1)).bind fun x8 => (loop (σ := Int32) (τ := Int32) (fun y9 => ((ald Z μ (zr Z this 39) y9).bind fun x44 => (ald Z μ (zr Z this 39) y3).bind fun x46 => (if x46 ≤ x44 then some (Sum.inr y9) else (some (y9 + (-1))).bind fun x47 => some (Sum.inl x47)) : Option ((Int32) ⊕ (Int32)))) LN x8).bind (fun y10 => (ald Z μ (zr Z this 39) y3).bind fun x16 => (ald Z μ (zr Z this 39) y10).bind fun x19 => (ast Z μ (zr Z this 39) y3 x19).bind fun ν20 => (ast Z ν20 (zr Z this 39) y10 x16).bind fun ν22 => (some (y3 + 1)).bind fun x23 => (some ((ν22 this 6) - 1)).bind fun x24 => (loop (σ := Int32 × Int32 × MT) (τ := MT) (fun (y25, y26, ν27) => ((if y26 ≤ y25 then some (Sum.inr ν27) else (ald Z ν27 (zr Z this 39) y25).bind fun x34 => (ald Z ν27 (zr Z this 39) y26).bind fun x37 => (ast Z ν27 (zr Z this 39) y25 x37).bind fun ν38 => (ast Z ν38 (zr Z this 39) y26 x34).bind fun ν40 => (some (y25 + 1)).bind fun x41 => (some (y26 + (-1))).bind fun x42 => some (Sum.inl (x41, x42, ν40))) : Option ((Int32 × Int32 × MT) ⊕ (MT)))) LN (x23, x24, ν22)).bind (fun ν28 => some (1, ν28))) else some (0, μ)))
def m_X9_flame (Z : ZT) (this : Nat) (a0 : Int32) (a1 : Int32) (μ : MT) : Option (MT) :=
  (ald Z μ (zr Z this 32) (24 + a0)).bind fun x2 => (((if x2 ≤ a1 then (if (-a1) ≤ x2 then some 0 else some (x2 + a1)) else some (x2 - a1)) : Option (Int32))).bind (fun z4 => (ast Z μ (zr Z this 32) (24 + a0) z4).bind fun ν7 => (((if a0 ≤ 0 then some ν7 else (ald Z ν7 (zr Z this 32) ((24 + a0) - 1)).bind fun x15 => (ast Z ν7 (zr Z this 32) ((24 + a0) - 1) (x15 + 1)).bind fun ν16 => some ν16) : Option (MT))).bind (fun ν8 => (if ((ν8 this 5) - 1) ≤ a0 then some ν8 else (ald Z ν8 (zr Z this 32) ((24 + a0) + 1)).bind fun x12 => (ast Z ν8 (zr Z this 32) ((24 + a0) + 1) (x12 + 1)).bind fun ν13 => some ν13)))
def m_X9_bendBy (Z : ZT) (this : Nat) (a0 : Int32) (a1 : Int32) (μ : MT) : Option (Int32) :=
  (ald Z μ (zr Z this 4) ((a0 + a1) + 1)).bind fun x2 => (ald Z μ (zr Z this 4) (a0 + a1)).bind fun x4 => (some (x2 - x4)).bind fun x5 => (if a1 = 0 then some x5 else (ald Z μ (zr Z this 4) (a0 + a1)).bind fun x7 => (ald Z μ (zr Z this 4) ((a0 + a1) - 1)).bind fun x9 => some (x5 - (x7 - x9)))
def m_X9_began (Z : ZT) (this : Nat) (a0 : Int32) (μ : MT) : Option (MT) :=
  (if 16 ≤ (μ this 42) then some μ else (ast Z μ (zr Z this 41) (μ this 42) a0).bind fun ν2 => (some (u2 ν2 this 42 ((ν2 this 42) + 1))).bind fun ν3 => some ν3)
def m_X9_count (Z : ZT) (this : Nat) (a0 : Int32) (μ : MT) : Option (Int32 × MT) :=
  (some (u2 μ this 0 0)).bind fun ν1 => (if a0 = 0 then (loop (σ := Int32 × Int32) (τ := Int32) (fun (y3, y4) => ((if 8 ≤ y4 then some (Sum.inr y3) else (ald Z ν1 (zr Z this 2) y4).bind fun x11 => (((if x11 < 0 then some 0 else some 1) : Option (Int32))).bind (fun z12 => (some (y3 + z12)).bind fun x15 => (some (y4 + 1)).bind fun x16 => some (Sum.inl (x15, x16)))) : Option ((Int32 × Int32) ⊕ (Int32)))) LN (0, 0)).bind (fun y5 => some (y5, ν1)) else if a0 = 1 then some (ν1 this 5, ν1) else if a0 = 2 then some (ν1 this 6, ν1) else if a0 = 3 then some (ν1 this 7, ν1) else if a0 = 4 then some (ν1 this 8, ν1) else if a0 = 5 then some (ν1 this 20, ν1) else some ((-1000001), ν1))
def m_X9_status (Z : ZT) (this : Nat) (μ : MT) : Option (Int32 × MT) :=
  (some (u2 μ this 0 0)).bind fun ν1 => some (ν1 this 1, ν1)
def m_J6_bitCount_0f7a4 (Z : ZT) (a0 : Int32) (μ : MT) : Option (Int32) :=
  (some (a0 - (((a0.toUInt32 >>> ((1 : Int32).toUInt32 &&& Int32.toUInt32 31)).toInt32) &&& 1431655765))).bind fun x1 => (some ((x1 &&& 858993459) + (((x1.toUInt32 >>> ((2 : Int32).toUInt32 &&& Int32.toUInt32 31)).toInt32) &&& 858993459))).bind fun x2 => (some ((x2 + ((x2.toUInt32 >>> ((4 : Int32).toUInt32 &&& Int32.toUInt32 31)).toInt32)) &&& 252645135)).bind fun x3 => (some (x3 + ((x3.toUInt32 >>> ((8 : Int32).toUInt32 &&& Int32.toUInt32 31)).toInt32))).bind fun x4 => (some (x4 + ((x4.toUInt32 >>> ((16 : Int32).toUInt32 &&& Int32.toUInt32 31)).toInt32))).bind fun x5 => some (x5 &&& 63)
def m_J0_coder_7d493 (Z : ZT) (this : Nat) (μ : MT) : Option (Int32) :=
  (if (1 : Int32) = 0 then some 1 else some 0)
def m_J0_isLatin1_aae02 (Z : ZT) (this : Nat) (μ : MT) : Option (Int32) :=
  (if (1 : Int32) = 0 then some 0 else (if (0 : Int32) = 0 then some 1 else some 0))
def m_J1_charAt_3b067 (Z : ZT) (a0 : Nat) (a1 : Int32) (μ : MT) : Option (Int32) :=
  (m_J0_checkIndex_df160 Z a1 (Int32.ofNat (slen a0)) μ).bind fun _ => (sld a0 a1).bind fun x1 => some (((x1 &&& 255).toUInt32 % 65536).toInt32)
def m_J7_fill_53178 (Z : ZT) (a0 : Nat) (a1 : Int32) (μ : MT) : Option (MT) :=
  (some (Int32.ofNat (zl Z a0))).bind fun x1 => (loop (σ := Int32 × MT) (τ := MT) (fun (y2, ν3) => ((if x1 ≤ y2 then some (Sum.inr ν3) else (ast Z ν3 a0 y2 a1).bind fun ν9 => (some (y2 + 1)).bind fun x10 => some (Sum.inl (x10, ν9))) : Option ((Int32 × MT) ⊕ (MT)))) LN (0, μ)).bind (fun ν4 => some ν4)
def m_X0_isOfKind (Z : ZT) (a0 : Int32) (a1 : Int32) (μ : MT) : Option (Int32) :=
  (loop (σ := Int32 × Int32) (τ := Int32) (fun (y1, y2) => ((if 8 ≤ y2 then some (Sum.inr y1) else (m_X0_hasKind Z y1 μ).bind fun r8 => (if r8 = 0 then some (Sum.inr y1) else (if y1 = 0 then some (Sum.inr y1) else (if y1 = a1 then some (Sum.inr y1) else (ald Z μ 1001 y1).bind fun x9 => (some (y2 + 1)).bind fun x10 => some (Sum.inl (x9, x10)))))) : Option ((Int32 × Int32) ⊕ (Int32)))) LN (a0, 0)).bind (fun y3 => (if y3 = a1 then some 1 else some 0))
def m_X0_bodyFor (Z : ZT) (a0 : Int32) (a1 : Int32) (μ : MT) : Option (Int32) :=
  (loop (σ := Int32 × Int32) (τ := (Int32) ⊕ (Unit)) (fun (y1, y2) => ((if 8 ≤ y2 then some (Sum.inr (Sum.inr ())) else (m_X0_hasKind Z y1 μ).bind fun r8 => (if r8 = 0 then some (Sum.inr (Sum.inr ())) else (if y1 = 0 then some (Sum.inr (Sum.inr ())) else (((if a1 = 0 then (ald Z μ 1002 y1).bind fun x15 => some x15 else (ald Z μ 1003 y1).bind fun x14 => some x14) : Option (Int32))).bind (fun z9 => (if z9 = 0 then (ald Z μ 1001 y1).bind fun x12 => (some (y2 + 1)).bind fun x13 => some (Sum.inl (x12, x13)) else some (Sum.inr (Sum.inl z9))))))) : Option ((Int32 × Int32) ⊕ ((Int32) ⊕ (Unit))))) LN (a0, 0)).bind (jn (fun (_ : Unit) => (if a1 = 0 then some 10 else some 20)))
def m_X2_begin (Z : ZT) (this : Nat) (a0 : Int32) (a1 : Nat) (μ : MT) : Option (MT) :=
  (some (u2 μ this 7 (imin a0 12))).bind fun ν1 => (some (u2 ν1 this 8 0)).bind fun ν2 => (some (u2 ν2 this 9 0)).bind fun ν3 => (some (u2 ν3 this 6 0)).bind fun ν4 => (m_J7_fill_53178 Z (zr Z this 0) 0 ν4).bind fun ν6 => (m_J7_fill_53178 Z (zr Z this 1) 0 ν6).bind fun ν8 => (m_J7_fill_53178 Z (zr Z this 2) 0 ν8).bind fun ν10 => (m_J7_fill_53178 Z (zr Z this 4) 0 ν10).bind fun ν12 => (m_J7_fill_53178 Z (zr Z this 5) 0 ν12).bind fun ν14 => (acp Z ν14 a1 0 (zr Z this 3) 0 12).bind fun ν16 => some ν16
def m_X2_shrinkageOf (Z : ZT) (this : Nat) (a0 : Int32) (a1 : Int32) (a2 : Int32) (μ : MT) : Option (Int32) :=
  (m_X2_holds Z this (a1 + 1) μ).bind fun r1 => (((if r1 = 0 then some a2 else some (a2 - 1)) : Option (Int32))).bind (fun z2 => (if a0 = 0 then some 1 else if a0 = 2 then some z2 else if a0 = 3 then (m_X2_holds Z this (a1 - 1) μ).bind fun r8 => (((if r8 = 0 then (m_X2_holds Z this (a1 + 1) μ).bind fun r12 => (if r12 = 0 then some (Sum.inl (z2 - 1)) else some (Sum.inr ())) else some (Sum.inr ())) : Option ((Int32) ⊕ (Unit)))).bind (jn (fun (_ : Unit) => some z2)) else if a0 = 4 then (m_X2_holds Z this a1 μ).bind fun r14 => (if r14 = 0 then some a2 else (idv a2 2).bind fun x15 => some x15) else if a0 = 5 then some (-a2) else if a0 = 6 then (ald Z μ (zr Z this 3) a1).bind fun x19 => (if x19 ≤ 0 then some a2 else some (-a2)) else some a2))
def m_X2_freeOne (Z : ZT) (this : Nat) (a0 : Int32) (μ : MT) : Option (MT) :=
  (m_X2_has Z this a0 μ).bind fun r1 => (if r1 = 0 then some μ else (m_X2_isClamped Z this a0 μ).bind fun r2 => (if r2 = 0 then some μ else (some (u2 μ this 6 ((μ this 6) &&& ((1 <<< (a0 &&& 31)) ^^^ (-1))))).bind fun ν3 => (ald Z ν3 (zr Z this 3) a0).bind fun x5 => (ald Z ν3 (zr Z this 4) a0).bind fun x7 => (idv x7 2).bind fun x8 => (ast Z ν3 (zr Z this 3) a0 (x5 + x8)).bind fun ν9 => (ast Z ν9 (zr Z this 4) a0 0).bind fun ν11 => some ν11))
def m_X2_heatOf (Z : ZT) (this : Nat) (a0 : Int32) (μ : MT) : Option (Int32 × MT) :=
  (m_X2_has Z this a0 μ).bind fun r1 => (if r1 = 0 then some (0, μ) else (m_X2_cool Z this a0 μ).bind fun ν2 => (ald Z ν2 (zr Z this 0) a0).bind fun x4 => some (x4, ν2))
def m_X2_pullOf (Z : ZT) (this : Nat) (a0 : Int32) (μ : MT) : Option (Int32) :=
  (m_X2_has Z this a0 μ).bind fun r1 => (if r1 = 0 then some 0 else (ald Z μ (zr Z this 5) a0).bind fun x3 => some (((μ this 7) * x3) - (μ this 9)))
def m_X2_off (Z : ZT) (this : Nat) (μ : MT) : Option (Int32) :=
  (m_X2_heightAt Z this (μ this 7) μ).bind fun r1 => (loop (σ := Int32 × Int32 × Int32 × Int32) (τ := Int32) (fun (y2, y3, y4, y5) => ((if (μ this 7) ≤ y5 then some (Sum.inr y4) else (ald Z μ (zr Z this 3) y5).bind fun x13 => (some (y2 + x13)).bind fun x14 => (some (y3 + x14)).bind fun x15 => (some (imax y4 (iabs (((μ this 7) * x15) - ((y5 + 1) * r1))))).bind fun x16 => (some (y5 + 1)).bind fun x17 => some (Sum.inl (x14, x15, x16, x17))) : Option ((Int32 × Int32 × Int32 × Int32) ⊕ (Int32)))) LN (0, 0, 0, 0)).bind (fun y6 => (if (μ this 7) ≤ 0 then some 0 else (idv y6 (μ this 7)).bind fun x11 => some x11))
def m_X3_clear (Z : ZT) (this : Nat) (μ : MT) : Option (MT) :=
  (some (u2 μ this 0 0)).bind fun ν1 => (some (u2 ν1 this 1 0)).bind fun ν2 => (some (u2 ν2 this 2 0)).bind fun ν3 => (some (u2 ν3 this 3 0)).bind fun ν4 => (m_J7_fill_53178 Z (zr Z this 9) 0 ν4).bind fun ν6 => some ν6
def m_X3_isStep (Z : ZT) (this : Nat) (a0 : Int32) (μ : MT) : Option (Int32) :=
  (m_X3_hasAct Z this a0 μ).bind fun r1 => (if r1 = 0 then some 0 else (ald Z μ (zr Z this 4) a0).bind fun x3 => (if 6 < x3 then some 0 else some 1))
def m_X3_addBefore (Z : ZT) (this : Nat) (a0 : Int32) (a1 : Int32) (μ : MT) : Option (MT) :=
  (m_X3_hasSeam Z this a0 μ).bind fun r1 => (if r1 = 0 then some μ else (m_X3_hasSeam Z this a1 μ).bind fun r2 => (if r2 = 0 then some μ else (ald Z μ (zr Z this 9) a1).bind fun x4 => (ast Z μ (zr Z this 9) a1 (x4 ||| (1 <<< (a0 &&& 31)))).bind fun ν5 => (some (u2 ν5 this 3 ((ν5 this 3) + 1))).bind fun ν6 => some ν6))
def m_X3_endOfActs (Z : ZT) (this : Nat) (a0 : Int32) (μ : MT) : Option (Int32) :=
  (m_X3_hasSeam Z this a0 μ).bind fun r1 => (if r1 = 0 then some 0 else (ald Z μ (zr Z this 8) a0).bind fun x3 => some x3)
def m_X3_mayFollow (Z : ZT) (this : Nat) (a0 : Int32) (a1 : Int32) (μ : MT) : Option (Int32) :=
  (m_X3_hasSeam Z this a0 μ).bind fun r1 => (if r1 = 0 then some 0 else (if ((a1 >>> (a0 &&& 31)) &&& 1) = 0 then (ald Z μ (zr Z this 9) a0).bind fun x3 => (if (x3 &&& (a1 ^^^ (-1))) = 0 then some 1 else some 0) else some 0))
def m_X6_findingAt (Z : ZT) (this : Nat) (a0 : Int32) (a1 : Int32) (a2 : Int32) (μ : MT) : Option (Int32) :=
  (m_X6_isMissing Z this a0 μ).bind fun r1 => (if r1 = 0 then (((if a1 < 0 then some (Sum.inr ()) else (if a2 < 0 then some (Sum.inr ()) else (ald Z μ (zr Z this 1) a0).bind fun x6 => (if a1 ≤ (x6 - a2) then some (Sum.inl 0) else some (Sum.inr ())))) : Option ((Int32) ⊕ (Unit)))).bind (jn (fun (_ : Unit) => some 2)) else some 1)
def m_X6_findingBetween (Z : ZT) (this : Nat) (a0 : Int32) (a1 : Int32) (μ : MT) : Option (Int32) :=
  (m_X6_isMissing Z this a0 μ).bind fun r1 => (if r1 = 0 then (m_X6_isMissing Z this a1 μ).bind fun r2 => (if r2 = 0 then (ald Z μ (zr Z this 0) a0).bind fun x4 => (ald Z μ (zr Z this 0) a1).bind fun x6 => (if x4 = x6 then some 0 else some 5) else some 1) else some 1)
def m_X6_lay (Z : ZT) (this : Nat) (a0 : Int32) (a1 : Int32) (a2 : Int32) (μ : MT) : Option (MT) :=
  (ast Z μ (zr Z this 0) a0 a1).bind fun ν2 => (ast Z ν2 (zr Z this 1) a0 a2).bind fun ν4 => (ard Z (zr Z this 2) a0).bind fun q6 => (m_J7_fill_53178 Z q6 0 ν4).bind fun ν8 => some ν8
def m_X6_put (Z : ZT) (this : Nat) (a0 : Int32) (a1 : Int32) (a2 : Int32) (μ : MT) : Option (Int32 × MT) :=
  (ard Z (zr Z this 2) a0).bind fun q2 => (ald Z μ (zr Z this 0) a0).bind fun x5 => (m_X6_narrowed Z x5 a2 μ).bind fun r6 => (ast Z μ q2 a1 r6).bind fun ν7 => (ard Z (zr Z this 2) a0).bind fun q9 => (ald Z ν7 q9 a1).bind fun x11 => some (x11, ν7)
def m_X7_toNext (Z : ZT) (this : Nat) (μ : MT) : Option (MT) :=
  (some (u2 μ this 2 (μ this 3))).bind fun ν1 => (loop (σ := MT) (τ := MT) (fun ν2 => ((if (ν2 this 1) ≤ (ν2 this 2) then some (Sum.inr ν2) else (ald Z ν2 (zr Z this 0) (ν2 this 2)).bind fun x34 => (((if x34 = 32 then some (Sum.inr ()) else (ald Z ν2 (zr Z this 0) (ν2 this 2)).bind fun x40 => (if x40 = 10 then some (Sum.inr ()) else some (Sum.inl (Sum.inr ν2)))) : Option (((MT) ⊕ (MT)) ⊕ (Unit)))).bind (jn (fun (_ : Unit) => (some (u2 ν2 this 2 ((ν2 this 2) + 1))).bind fun ν38 => some (Sum.inl ν38)))) : Option ((MT) ⊕ (MT)))) LN ν1).bind (fun ν3 => (((if (ν3 this 1) ≤ (ν3 this 2) then some 0 else (ald Z ν3 (zr Z this 0) (ν3 this 2)).bind fun x31 => (m_X7_sortOf Z x31 ν3).bind fun r32 => some r32) : Option (Int32))).bind (fun z8 => (some (u2 ν3 this 4 z8)).bind fun ν11 => (((if (ν11 this 1) ≤ (ν11 this 2) then some (ν11 this 2) else some ((ν11 this 2) + 1)) : Option (Int32))).bind (fun z12 => (some (u2 ν11 this 3 z12)).bind fun ν15 => (loop (σ := MT) (τ := MT) (fun ν16 => ((if (ν16 this 1) ≤ (ν16 this 3) then some (Sum.inr ν16) else (((if (ν16 this 4) = 1 then some (Sum.inr ()) else (if (ν16 this 4) = 2 then some (Sum.inr ()) else some (Sum.inl (Sum.inr ν16)))) : Option (((MT) ⊕ (MT)) ⊕ (Unit)))).bind (jn (fun (_ : Unit) => (ald Z ν16 (zr Z this 0) (ν16 this 3)).bind fun x27 => (m_X7_sortOf Z x27 ν16).bind fun r28 => (if r28 = (ν16 this 4) then (some (u2 ν16 this 3 ((ν16 this 3) + 1))).bind fun ν29 => some (Sum.inl ν29) else some (Sum.inr ν16))))) : Option ((MT) ⊕ (MT)))) LN ν15).bind (fun ν17 => (if (ν17 this 4) = 2 then (if ((ν17 this 3) - (ν17 this 2)) ≤ 2 then some ν17 else (some (u2 ν17 this 4 4)).bind fun ν22 => some ν22) else some ν17)))))
def m_X8_drop (Z : ZT) (this : Nat) (a0 : Int32) (μ : MT) : Option (Int32 × MT) :=
  (m_X6_hasNumber Z (zr Z this 0) a0 μ).bind fun r2 => (if r2 = 0 then some ((-1000001), μ) else (m_X6_isMissing Z (zr Z this 0) a0 μ).bind fun r4 => (if r4 = 0 then (m_X6_takeAway Z (zr Z this 0) a0 μ).bind fun (r6, ν7) => (m_X8_fine Z this r6 ν7).bind fun (r8, ν9) => some (r8, ν9) else (m_X8_found Z this 1 μ).bind fun (r10, ν11) => some (r10, ν11)))
def m_X8_feed (Z : ZT) (this : Nat) (a0 : Int64) (a1 : Int32) (μ : MT) : Option (Int32 × MT) :=
  (if a1 < 1 then some ((-1000001), μ) else (if a1 ≤ 8 then (m_X7_hasRoom Z (zr Z this 1) a1 μ).bind fun r2 => (if r2 = 0 then some ((-1000003), μ) else (m_X7_append Z (zr Z this 1) a0 a1 μ).bind fun (r4, ν5) => some (r4, ν5)) else some ((-1000001), μ)))
def m_X8_height (Z : ZT) (zn : Nat) (this : Nat) (a0 : Int32) (μ : MT) : Option (Int32) :=
  (mrd Z zn 3 (μ this 11)).bind fun q1 => (m_X3_isNone Z q1 μ).bind fun r3 => (if r3 = 0 then (if a0 < 0 then some (-1000001) else (mrd Z zn 3 (μ this 11)).bind fun q4 => (if a0 ≤ (μ q4 0) then (m_X2_heightAt Z (zr Z this 6) a0 μ).bind fun r7 => some r7 else some (-1000001))) else some (-1000002))
def m_X8_drawDown (Z : ZT) (zn : Nat) (this : Nat) (a0 : Int32) (a1 : Int32) (a2 : Int32) (μ : MT) : Option (Int32 × MT) :=
  (acp Z μ (zr Z (zr Z this 6) 3) 0 (zr Z this 5) 0 12).bind fun ν4 => (loop (σ := Int32 × MT) (τ := MT) (fun (y5, ν6) => ((mrd Z zn 3 (ν6 this 11)).bind fun q23 => (if (ν6 q23 0) ≤ y5 then some (Sum.inr ν6) else (((if ((a0 >>> (y5 &&& 31)) &&& 1) = 1 then (m_X8_spotAt Z zn this y5 a1 ν6).bind fun ν29 => some ν29 else some ν6) : Option (MT))).bind (fun ν25 => (some (y5 + 1)).bind fun x28 => some (Sum.inl (x28, ν25)))) : Option ((Int32 × MT) ⊕ (MT)))) LN (0, ν4)).bind (fun ν7 => (loop (σ := Int32) (τ := (Int32 × MT) ⊕ (Unit)) (fun y12 => ((mrd Z zn 3 (ν7 this 11)).bind fun q18 => (if (ν7 q18 0) ≤ y12 then some (Sum.inr (Sum.inr ())) else (ald Z ν7 (zr Z this 5) y12).bind fun x21 => (if (iabs x21) ≤ a2 then (some (y12 + 1)).bind fun x22 => some (Sum.inl x22) else some (Sum.inr (Sum.inl (0, ν7))))) : Option ((Int32) ⊕ ((Int32 × MT) ⊕ (Unit))))) LN 0).bind (jn (fun (_ : Unit) => some (1, ν7))))
def m_X8_trace (Z : ZT) (this : Nat) (a0 : Int32) (μ : MT) : Option (Int32) :=
  (m_X0_traced Z (zr Z this 10) a0 μ).bind fun r2 => some r2
def m_X8_count (Z : ZT) (zn : Nat) (this : Nat) (a0 : Int32) (μ : MT) : Option (Int32) :=
  (if a0 = 0 then (m_X6_howMany Z (zr Z this 0) μ).bind fun r3 => some r3 else if a0 = 1 then (mrd Z zn 3 (μ this 11)).bind fun q5 => some (μ q5 0) else if a0 = 2 then (mrd Z zn 3 (μ this 11)).bind fun q8 => some (μ q8 1) else if a0 = 3 then (mrd Z zn 3 (μ this 11)).bind fun q11 => some (μ q11 2) else if a0 = 4 then (mrd Z zn 3 (μ this 11)).bind fun q14 => some (μ q14 3) else if a0 = 5 then some (μ (zr Z this 1) 1) else some (-1000001))
def m_X9_isSheet (Z : ZT) (a0 : Int32) (μ : MT) : Option (Int32) :=
  (m_X9_in Z ((a0 : Int32).toInt64) 0 7 μ).bind fun r1 => (bz r1).bind fun x2 => some x2
def m_X9_feed (Z : ZT) (this : Nat) (a0 : Int64) (a1 : Int32) (μ : MT) : Option (Int32 × MT) :=
  (some (u2 μ this 0 0)).bind fun ν1 => (m_X9_in Z ((a1 : Int32).toInt64) 1 8 ν1).bind fun r2 => (if r2 = 0 then some ((-1000001), ν1) else (if ((ν1 this 20) + a1) ≤ 500 then (some (a1 - 1)).bind fun x3 => (loop (σ := Int32 × MT) (τ := MT) (fun (y4, ν5) => ((if y4 < 0 then some (Sum.inr ν5) else (ast Z ν5 (zr Z this 19) (ν5 this 20) (((a0 >>> ((8 * y4 : Int32).toInt64 &&& 63)) &&& 255 : Int64).toInt32)).bind fun ν12 => (some (u2 ν12 this 20 ((ν12 this 20) + 1))).bind fun ν13 => (some (y4 + (-1))).bind fun x14 => some (Sum.inl (x14, ν13))) : Option ((Int32 × MT) ⊕ (MT)))) LN (x3, ν1)).bind (fun ν6 => some (ν6 this 20, ν6)) else some ((-1000003), ν1)))
def m_X9_next (Z : ZT) (this : Nat) (μ : MT) : Option (MT) :=
  (loop (σ := MT) (τ := MT) (fun ν1 => ((m_X9_byteAt Z this (ν1 this 23) ν1).bind fun r44 => (((if r44 = 32 then some (Sum.inr ()) else (m_X9_byteAt Z this (ν1 this 23) ν1).bind fun r49 => (if r49 = 10 then some (Sum.inr ()) else some (Sum.inl (Sum.inr ν1)))) : Option (((MT) ⊕ (MT)) ⊕ (Unit)))).bind (jn (fun (_ : Unit) => (some (u2 ν1 this 23 ((ν1 this 23) + 1))).bind fun ν48 => some (Sum.inl ν48))) : Option ((MT) ⊕ (MT)))) LN μ).bind (fun ν2 => (some (u2 ν2 this 25 (ν2 this 23))).bind fun ν7 => (m_X9_byteAt Z this (ν7 this 23) ν7).bind fun r8 => (((if r8 = (-1000000) then (some (u2 ν7 this 24 1)).bind fun ν43 => some ν43 else (m_X9_isLetter Z r8 ν7).bind fun r13 => (if r13 = 0 then (m_X9_isFigure Z r8 ν7).bind fun r14 => (if r14 = 0 then (some (u2 ν7 this 23 ((ν7 this 23) + 1))).bind fun ν15 => (((if r8 = 59 then some 4 else some 0) : Option (Int32))).bind (fun z16 => (some (u2 ν15 this 24 z16)).bind fun ν19 => some ν19) else (loop (σ := MT) (τ := MT) (fun ν20 => ((m_X9_byteAt Z this (ν20 this 23) ν20).bind fun r30 => (m_X9_isFigure Z r30 ν20).bind fun r31 => (if r31 = 0 then some (Sum.inr ν20) else (some (u2 ν20 this 23 ((ν20 this 23) + 1))).bind fun ν32 => some (Sum.inl ν32)) : Option ((MT) ⊕ (MT)))) LN ν7).bind (fun ν21 => (((if ((ν21 this 23) - (ν21 this 25)) ≤ 2 then some 3 else some 0) : Option (Int32))).bind (fun z26 => (some (u2 ν21 this 24 z26)).bind fun ν29 => some ν29))) else (loop (σ := MT) (τ := MT) (fun ν33 => ((m_X9_byteAt Z this (ν33 this 23) ν33).bind fun r40 => (m_X9_isLetter Z r40 ν33).bind fun r41 => (if r41 = 0 then some (Sum.inr ν33) else (some (u2 ν33 this 23 ((ν33 this 23) + 1))).bind fun ν42 => some (Sum.inl ν42)) : Option ((MT) ⊕ (MT)))) LN ν7).bind (fun ν34 => (some (u2 ν34 this 24 2)).bind fun ν39 => some ν39))) : Option (MT))).bind (fun ν9 => (some (u2 ν9 this 26 (ν9 this 23))).bind fun ν12 => some ν12))
def m_X9_kindOfWord (Z : ZT) (this : Nat) (μ : MT) : Option (Int32) :=
  (m_X9_word Z this μ).bind fun r1 => (if (lg_cmp r1 1952539499) = 0 then some 1 else (if (lg_cmp r1 28526) = 0 then some 2 else (if (lg_cmp r1 1650549611) = 0 then some 3 else (if (lg_cmp r1 1936419184) = 0 then some 4 else (if (lg_cmp r1 126879297138276) = 0 then some 5 else (if (lg_cmp r1 128047779833188) = 0 then some 6 else (if (lg_cmp r1 439904988517) = 0 then some 7 else (if (lg_cmp r1 2002872692) = 0 then some 8 else (if (lg_cmp r1 427020086640) = 0 then some 9 else (if (lg_cmp r1 1718773093) = 0 then some 10 else some (-1000000)))))))))))
def m_X9_isAct (Z : ZT) (this : Nat) (a0 : Int32) (μ : MT) : Option (Int32) :=
  (m_X9_in Z ((a0 : Int32).toInt64) 0 (((μ this 7) - 1 : Int32).toInt64) μ).bind fun r1 => (bz r1).bind fun x2 => some x2
def m_X9_isCell (Z : ZT) (this : Nat) (a0 : Int32) (μ : MT) : Option (Int32) :=
  (m_X9_in Z ((a0 : Int32).toInt64) 0 (((μ this 5) - 1 : Int32).toInt64) μ).bind fun r1 => (bz r1).bind fun x2 => some x2
def m_X9_offBy (Z : ZT) (this : Nat) (μ : MT) : Option (Int32) :=
  (m_X9_heightBy Z this (zr Z this 32) (μ this 5) μ).bind fun r2 => (loop (σ := Int32 × Int32) (τ := Int32) (fun (y3, y4) => ((if (μ this 5) < y4 then some (Sum.inr y3) else (m_X9_heightBy Z this (zr Z this 32) y4 μ).bind fun r12 => (some (((μ this 5) * r12) - (y4 * r2))).bind fun x13 => (((if 0 ≤ x13 then some x13 else some (-x13)) : Option (Int32))).bind (fun z14 => (((if z14 ≤ y3 then some y3 else some z14) : Option (Int32))).bind (fun z17 => (some (y4 + 1)).bind fun x20 => some (Sum.inl (z17, x20))))) : Option ((Int32 × Int32) ⊕ (Int32)))) LN (0, 0)).bind (fun y5 => (idv y5 (μ this 5)).bind fun x10 => some x10)
def m_X9_layStanding (Z : ZT) (this : Nat) (μ : MT) : Option (MT) :=
  (loop (σ := Int32 × MT) (τ := MT) (fun (y1, ν2) => ((if 48 ≤ y1 then some (Sum.inr ν2) else (((if (ν2 this 31) = 0 then (m_X9_in Z ((y1 : Int32).toInt64) 24 35 ν2).bind fun r14 => (if r14 = 0 then some 0 else (ald Z ν2 (zr Z this 29) (y1 - 24)).bind fun x16 => some x16) else (ald Z ν2 (zr Z this 36) y1).bind fun x18 => some x18) : Option (Int32))).bind (fun z9 => (ast Z ν2 (zr Z this 32) y1 z9).bind fun ν12 => (some (y1 + 1)).bind fun x13 => some (Sum.inl (x13, ν12)))) : Option ((Int32 × MT) ⊕ (MT)))) LN (0, μ)).bind (fun ν3 => some ν3)
def m_X9_orders (Z : ZT) (this : Nat) (μ : MT) : Option (Int32 × MT) :=
  (some (u2 μ this 0 0)).bind fun ν1 => (if (ν1 this 5) = 0 then some ((-1000002), ν1) else (m_X9_layNumbers Z this ν1).bind fun ν2 => (loop (σ := Int32 × Int32 × MT) (τ := Int32 × MT) (fun (y3, y4, ν5) => ((if y4 = 0 then some (Sum.inr (y3, ν5)) else (m_X9_fits Z this ν5).bind fun r12 => (((if r12 = 0 then some 0 else some 1) : Option (Int32))).bind (fun z13 => (some (y3 + z13)).bind fun x16 => (m_X9_nextOrder Z this ν5).bind fun (r17, ν18) => some (Sum.inl (x16, r17, ν18)))) : Option ((Int32 × Int32 × MT) ⊕ (Int32 × MT)))) LN (0, 1, ν2)).bind (fun (y6, ν7) => some (y6, ν7)))
def m_X9_isOf (Z : ZT) (a0 : Int32) (a1 : Int32) (μ : MT) : Option (Int32) :=
  (((if a1 = 0 then some (Sum.inr ()) else (if a0 = a1 then some (Sum.inr ()) else (((if a1 = 2 then (m_X9_in Z ((a0 : Int32).toInt64) 3 6 μ).bind fun r7 => (if r7 = 0 then some (Sum.inr ()) else some (Sum.inl (Sum.inr ()))) else some (Sum.inr ())) : Option (((Int32) ⊕ (Unit)) ⊕ (Unit)))).bind (jn (fun (_ : Unit) => (if a1 = 3 then (if a0 = 4 then some (Sum.inr ()) else some (Sum.inl 0)) else some (Sum.inl 0)))))) : Option ((Int32) ⊕ (Unit)))).bind (jn (fun (_ : Unit) => some 1))
def m_X9_flameSize (Z : ZT) (this : Nat) (a0 : Int32) (μ : MT) : Option (Int32 × MT) :=
  (m_X9_began Z this 14 μ).bind fun ν1 => (m_X9_began Z this 10 ν1).bind fun ν2 => (ald Z ν2 (zr Z this 9) ((4 * a0) + 2)).bind fun x4 => some (-x4, ν2)
def m_X9_trace (Z : ZT) (this : Nat) (a0 : Int32) (μ : MT) : Option (Int32 × MT) :=
  (some (u2 μ this 0 0)).bind fun ν1 => (m_X9_in Z ((a0 : Int32).toInt64) 0 (((ν1 this 42) - 1 : Int32).toInt64) ν1).bind fun r2 => (if r2 = 0 then some ((-1000000), ν1) else (ald Z ν1 (zr Z this 41) a0).bind fun x4 => some (x4, ν1))
def m_J0_length_8abf5 (Z : ZT) (this : Nat) (μ : MT) : Option (Int32) :=
  (m_J0_coder_7d493 Z this μ).bind fun r1 => some ((Int32.ofNat (slen (this + 100))) >>> (r1 &&& 31))
def m_J0_charAt_5068e (Z : ZT) (this : Nat) (a0 : Int32) (μ : MT) : Option (Int32) :=
  (m_J0_isLatin1_aae02 Z this μ).bind fun r1 => (if r1 = 0 then none else (m_J1_charAt_3b067 Z (this + 100) a0 μ).bind fun r2 => (cz r2).bind fun x3 => some x3)
def m_X2_doStep (Z : ZT) (this : Nat) (a0 : Int32) (a1 : Int32) (a2 : Int32) (μ : MT) : Option (MT) :=
  (m_X2_has Z this a1 μ).bind fun r1 => (if r1 = 0 then some μ else (m_X2_cool Z this a1 μ).bind fun ν2 => (m_X2_shrinkageOf Z this a0 a1 a2 ν2).bind fun r3 => (m_X2_effectOf Z this r3 a1 ν2).bind fun r4 => (m_X2_isClamped Z this a1 ν2).bind fun r5 => (((if r5 = 0 then (ald Z ν2 (zr Z this 3) a1).bind fun x23 => (ast Z ν2 (zr Z this 3) a1 (x23 + r4)).bind fun ν24 => some ν24 else (ald Z ν2 (zr Z this 4) a1).bind fun x26 => (ast Z ν2 (zr Z this 4) a1 (x26 + r4)).bind fun ν27 => some ν27) : Option (MT))).bind (fun ν6 => (ald Z ν6 (zr Z this 5) a1).bind fun x10 => (ast Z ν6 (zr Z this 5) a1 (x10 + r4)).bind fun ν11 => (some (u2 ν11 this 9 ((ν11 this 9) + r4))).bind fun ν12 => (ald Z ν12 (zr Z this 0) a1).bind fun x14 => (m_X2_heatOfStep Z a0 a2 ν12).bind fun r15 => (ast Z ν12 (zr Z this 0) a1 (x14 + r15)).bind fun ν16 => (ald Z ν16 (zr Z this 2) a1).bind fun x18 => (m_X2_holdOfStep Z a0 ν16).bind fun r19 => (ast Z ν16 (zr Z this 2) a1 (x18 + r19)).bind fun ν20 => (some (u2 ν20 this 8 ((ν20 this 8) + 1))).bind fun ν21 => some ν21))
def m_X2_freeAll (Z : ZT) (this : Nat) (μ : MT) : Option (MT) :=
  (loop (σ := Int32 × MT) (τ := MT) (fun (y1, ν2) => ((if (ν2 this 7) ≤ y1 then some (Sum.inr ν2) else (m_X2_freeOne Z this y1 ν2).bind fun ν8 => (some (y1 + 1)).bind fun x9 => some (Sum.inl (x9, ν8))) : Option ((Int32 × MT) ⊕ (MT)))) LN (0, μ)).bind (fun ν3 => some ν3)
def m_X2_firstAbove (Z : ZT) (this : Nat) (a0 : Int32) (μ : MT) : Option (Int32) :=
  (loop (σ := Int32) (τ := (Int32) ⊕ (Unit)) (fun y1 => ((if (μ this 7) ≤ y1 then some (Sum.inr (Sum.inr ())) else (m_X2_pullOf Z this y1 μ).bind fun r7 => (if r7 ≤ a0 then (some (y1 + 1)).bind fun x8 => some (Sum.inl x8) else some (Sum.inr (Sum.inl y1)))) : Option ((Int32) ⊕ ((Int32) ⊕ (Unit))))) LN 0).bind (jn (fun (_ : Unit) => some (-1000000)))
def m_X4_takeNumber (Z : ZT) (this : Nat) (a0 : Int32) (a1 : Int32) (μ : MT) : Option (Int32 × MT) :=
  (m_X7_atNumber Z (zr Z this 0) μ).bind fun r2 => (if r2 = 0 then some (1, μ) else (m_X7_numberHere Z (zr Z this 0) μ).bind fun r4 => (some (u2 μ this 1 r4)).bind fun ν5 => (if (ν5 this 1) < a0 then some (2, ν5) else (if (ν5 this 1) ≤ a1 then (m_X7_toNext Z (zr Z this 0) ν5).bind fun ν7 => some (0, ν7) else some (2, ν5))))
def m_X4_takeSign (Z : ZT) (this : Nat) (μ : MT) : Option (Int32 × MT) :=
  (m_X7_atSign Z (zr Z this 0) μ).bind fun r2 => (if r2 = 0 then some (1, μ) else (m_X7_toNext Z (zr Z this 0) μ).bind fun ν4 => some (0, ν4))
def m_X5_howManyFit (Z : ZT) (this : Nat) (a0 : Nat) (μ : MT) : Option (Int32 × MT) :=
  (some ((1 <<< ((μ a0 1) &&& 31)) - 1)).bind fun x1 => (m_J7_fill_53178 Z (zr Z this 3) 0 μ).bind fun ν3 => (ast Z ν3 (zr Z this 3) 0 1).bind fun ν5 => (loop (σ := Int32 × MT) (τ := MT) (fun (y6, ν7) => ((if x1 ≤ y6 then some (Sum.inr ν7) else (loop (σ := Int32 × MT) (τ := MT) (fun (y15, ν16) => ((if (ν16 a0 1) ≤ y15 then some (Sum.inr ν16) else (m_X3_mayFollow Z a0 y15 y6 ν16).bind fun r23 => (((if r23 = 0 then some ν16 else (ald Z ν16 (zr Z this 3) (y6 ||| (1 <<< (y15 &&& 31)))).bind fun x29 => (ald Z ν16 (zr Z this 3) y6).bind fun x31 => (ast Z ν16 (zr Z this 3) (y6 ||| (1 <<< (y15 &&& 31))) (x29 + x31)).bind fun ν32 => some ν32) : Option (MT))).bind (fun ν24 => (some (y15 + 1)).bind fun x27 => some (Sum.inl (x27, ν24)))) : Option ((Int32 × MT) ⊕ (MT)))) LN (0, ν7)).bind (fun ν17 => (some (y6 + 1)).bind fun x22 => some (Sum.inl (x22, ν17)))) : Option ((Int32 × MT) ⊕ (MT)))) LN (0, ν5)).bind (fun ν8 => (ald Z ν8 (zr Z this 3) x1).bind fun x14 => some (x14, ν8))
def m_X6_itemAt (Z : ZT) (this : Nat) (a0 : Int32) (a1 : Int32) (μ : MT) : Option (Int32) :=
  (m_X6_findingAt Z this a0 a1 1 μ).bind fun r1 => (if r1 = 0 then (ard Z (zr Z this 2) a0).bind fun q3 => (ald Z μ q3 a1).bind fun x5 => some x5 else some 0)
def m_X7_toFirst (Z : ZT) (this : Nat) (μ : MT) : Option (MT) :=
  (some (u2 μ this 3 0)).bind fun ν1 => (m_X7_toNext Z this ν1).bind fun ν2 => some ν2
def m_X7_spells (Z : ZT) (this : Nat) (a0 : Nat) (μ : MT) : Option (Int32) :=
  (m_J0_length_8abf5 Z a0 μ).bind fun r1 => (if r1 = ((μ this 3) - (μ this 2)) then (loop (σ := Int32) (τ := (Int32) ⊕ (Unit)) (fun y2 => ((m_J0_length_8abf5 Z a0 μ).bind fun r8 => (if r8 ≤ y2 then some (Sum.inr (Sum.inr ())) else (m_J0_charAt_5068e Z a0 y2 μ).bind fun r9 => (ald Z μ (zr Z this 0) ((μ this 2) + y2)).bind fun x11 => (if r9 = x11 then (some (y2 + 1)).bind fun x12 => some (Sum.inl x12) else some (Sum.inr (Sum.inl 0)))) : Option ((Int32) ⊕ ((Int32) ⊕ (Unit))))) LN 0).bind (jn (fun (_ : Unit) => some 1)) else some 0)
def m_X8_sheet (Z : ZT) (this : Nat) (a0 : Int32) (a1 : Int32) (a2 : Int32) (μ : MT) : Option (Int32 × MT) :=
  (m_X6_hasNumber Z (zr Z this 0) a0 μ).bind fun r2 => (if r2 = 0 then some ((-1000001), μ) else (if a1 < 0 then some ((-1000001), μ) else (if 3 ≤ a1 then some ((-1000001), μ) else (if a2 ≤ 40 then (if 0 ≤ a2 then (m_X6_lay Z (zr Z this 0) a0 a1 a2 μ).bind fun ν4 => (m_X8_fine Z this a2 ν4).bind fun (r5, ν6) => some (r5, ν6) else (m_X8_found Z this 4 μ).bind fun (r7, ν8) => some (r7, ν8)) else some ((-1000001), μ)))))
def m_X8_set (Z : ZT) (this : Nat) (a0 : Int32) (a1 : Int32) (a2 : Int32) (μ : MT) : Option (Int32 × MT) :=
  (m_X6_hasNumber Z (zr Z this 0) a0 μ).bind fun r2 => (if r2 = 0 then some ((-1000001), μ) else (m_X6_findingAt Z (zr Z this 0) a0 a1 1 μ).bind fun r4 => (if r4 = 0 then (m_X6_put Z (zr Z this 0) a0 a1 a2 μ).bind fun (r6, ν7) => (m_X8_fine Z this r6 ν7).bind fun (r8, ν9) => some (r8, ν9) else (m_X8_found Z this r4 μ).bind fun (r10, ν11) => some (r10, ν11)))
def m_X8_copy (Z : ZT) (this : Nat) (a0 : Int32) (a1 : Int32) (a2 : Int32) (a3 : Int32) (a4 : Int32) (μ : MT) : Option (Int32 × MT) :=
  (m_X6_hasNumber Z (zr Z this 0) a0 μ).bind fun r2 => (if r2 = 0 then some ((-1000001), μ) else (m_X6_hasNumber Z (zr Z this 0) a2 μ).bind fun r4 => (if r4 = 0 then some ((-1000001), μ) else (m_X6_findingBetween Z (zr Z this 0) a0 a2 μ).bind fun r6 => (((if r6 = 0 then (m_X6_findingAt Z (zr Z this 0) a0 a1 a4 μ).bind fun r22 => some r22 else some r6) : Option (Int32))).bind (fun y7 => (((if y7 = 0 then (m_X6_findingAt Z (zr Z this 0) a2 a3 a4 μ).bind fun r20 => some r20 else some y7) : Option (Int32))).bind (fun y10 => (if y10 = 0 then (m_X6_carry Z (zr Z this 0) a0 a1 a2 a3 a4 μ).bind fun ν14 => (m_X8_fine Z this a4 ν14).bind fun (r15, ν16) => some (r15, ν16) else (m_X8_found Z this y10 μ).bind fun (r17, ν18) => some (r17, ν18))))))
def m_X8_beginPlan (Z : ZT) (zn : Nat) (this : Nat) (μ : MT) : Option (MT) :=
  (some (u2 μ this 13 0)).bind fun ν1 => (m_J7_fill_53178 Z (zr Z this 3) 0 ν1).bind fun ν3 => (acp Z ν3 1000 0 (zr Z this 4) 0 6).bind fun ν5 => (mrd Z zn 3 (ν5 this 11)).bind fun q7 => (m_X2_begin Z (zr Z this 6) (ν5 q7 0) (zr Z this 3) ν5).bind fun ν10 => (m_X5_forget Z (zr Z this 8) ν10).bind fun ν12 => (m_X1_forget Z (zr Z this 9) ν12).bind fun ν14 => some ν14
def m_X8_act (Z : ZT) (zn : Nat) (this : Nat) (a0 : Int32) (a1 : Int32) (μ : MT) : Option (Int32) :=
  (mrd Z zn 3 (μ this 11)).bind fun q1 => (m_X3_hasAct Z q1 a0 μ).bind fun r3 => (if r3 = 0 then some (-1000001) else (if a1 = 0 then (mrd Z zn 3 (μ this 11)).bind fun q5 => (ald Z μ (zr Z q5 4) a0).bind fun x8 => some x8 else if a1 = 1 then (mrd Z zn 3 (μ this 11)).bind fun q10 => (ald Z μ (zr Z q10 5) a0).bind fun x13 => some x13 else if a1 = 2 then (mrd Z zn 3 (μ this 11)).bind fun q15 => (m_X3_isStep Z q15 a0 μ).bind fun r17 => (if r17 = 0 then some (-1000000) else (mrd Z zn 3 (μ this 11)).bind fun q18 => (ald Z μ (zr Z q18 6) a0).bind fun x21 => some x21) else if a1 = 3 then (mrd Z zn 3 (μ this 11)).bind fun q23 => (ald Z μ (zr Z q23 7) a0).bind fun x26 => some x26 else some (-1000001)))
def m_X8_open (Z : ZT) (zn : Nat) (this : Nat) (a0 : Int32) (a1 : Int32) (μ : MT) : Option (Int32 × MT) :=
  (mrd Z zn 3 (μ this 11)).bind fun q1 => (m_X3_hasCell Z q1 a0 μ).bind fun r3 => (if r3 = 0 then some ((-1000001), μ) else (if a1 < (-40) then some ((-1000001), μ) else (if a1 ≤ 40 then (ald Z μ (zr Z this 3) a0).bind fun x5 => (ast Z μ (zr Z this 3) a0 a1).bind fun ν7 => (m_X5_forget Z (zr Z this 8) ν7).bind fun ν9 => (if (ν9 this 13) = 0 then (mrd Z zn 3 (ν9 this 11)).bind fun q11 => (m_X2_begin Z (zr Z this 6) (ν9 q11 0) (zr Z this 3) ν9).bind fun ν14 => some (x5, ν14) else some (x5, ν9)) else some ((-1000001), μ))))
def m_X8_cell (Z : ZT) (zn : Nat) (this : Nat) (a0 : Int32) (a1 : Int32) (μ : MT) : Option (Int32 × MT) :=
  (mrd Z zn 3 (μ this 11)).bind fun q1 => (m_X3_hasCell Z q1 a0 μ).bind fun r3 => (if r3 = 0 then some ((-1000001), μ) else (if a1 = 0 then (m_X2_heatOf Z (zr Z this 6) a0 μ).bind fun (r6, ν7) => some (r6, ν7) else if a1 = 1 then (ald Z μ (zr Z (zr Z this 6) 2) a0).bind fun x11 => some (x11, μ) else if a1 = 2 then (ald Z μ (zr Z (zr Z this 6) 3) a0).bind fun x15 => some (x15, μ) else if a1 = 3 then (m_X2_pullOf Z (zr Z this 6) a0 μ).bind fun r18 => some (r18, μ) else some ((-1000001), μ)))
def m_X8_spots (Z : ZT) (zn : Nat) (this : Nat) (a0 : Int32) (a1 : Int32) (μ : MT) : Option (Int32 × MT) :=
  (if a0 < 1 then some ((-1000001), μ) else (if 20 < a0 then some ((-1000001), μ) else (if a1 < 0 then some ((-1000001), μ) else (if a1 ≤ 40 then (mrd Z zn 3 (μ this 11)).bind fun q1 => (m_X3_isNone Z q1 μ).bind fun r3 => (if r3 = 0 then (loop (σ := Int32 × Int32 × Int32 × MT) (τ := Int32 × MT) (fun (y4, y5, y6, ν7) => ((mrd Z zn 3 (ν7 this 11)).bind fun q14 => (if (1 <<< ((ν7 q14 0) &&& 31)) ≤ y6 then some (Sum.inr (y4, ν7)) else (m_J6_bitCount_0f7a4 Z y6 ν7).bind fun r16 => (((if y5 ≤ r16 then some (y4, y5, ν7) else (m_X8_drawDown Z zn this y6 a0 a1 ν7).bind fun (r23, ν24) => (if r23 = 0 then some (y4, y5, ν24) else some (y6, r16, ν24))) : Option (Int32 × Int32 × MT))).bind (fun (y17, y18, ν19) => (some (y6 + 1)).bind fun x22 => some (Sum.inl (y17, y18, x22, ν19)))) : Option ((Int32 × Int32 × Int32 × MT) ⊕ (Int32 × MT)))) LN ((-1000000), 4, 0, μ)).bind (fun (y8, ν9) => some (y8, ν9)) else some ((-1000002), μ)) else some ((-1000001), μ)))))
def m_X8_kind (Z : ZT) (zn : Nat) (this : Nat) (a0 : Int32) (μ : MT) : Option (Int32) :=
  (mrd Z zn 3 (μ this 11)).bind fun q1 => (m_X3_isStep Z q1 a0 μ).bind fun r3 => (if r3 = 0 then some (-1000001) else (mrd Z zn 3 (μ this 11)).bind fun q4 => (m_X3_stepKind Z q4 a0 μ).bind fun r6 => some r6)
def m_X8_as (Z : ZT) (zn : Nat) (this : Nat) (a0 : Int32) (a1 : Int32) (μ : MT) : Option (Int32 × MT) :=
  (mrd Z zn 3 (μ this 11)).bind fun q1 => (m_X3_isStep Z q1 a0 μ).bind fun r3 => (if r3 = 0 then some ((-1000001), μ) else (m_X0_hasKind Z a1 μ).bind fun r4 => (if r4 = 0 then some ((-1000001), μ) else (mrd Z zn 3 (μ this 11)).bind fun q5 => (m_X3_stepKind Z q5 a0 μ).bind fun r7 => (m_X0_isOfKind Z r7 a1 μ).bind fun r8 => (if r8 = 0 then (m_X8_found Z this 3 μ).bind fun (r15, ν16) => some (r15, ν16) else (mrd Z zn 3 (μ this 11)).bind fun q9 => (ald Z μ (zr Z q9 5) a0).bind fun x12 => (m_X8_fine Z this x12 μ).bind fun (r13, ν14) => some (r13, ν14))))
def m_X9_sheet (Z : ZT) (this : Nat) (a0 : Int32) (a1 : Int32) (a2 : Int32) (μ : MT) : Option (Int32 × MT) :=
  (some (u2 μ this 0 0)).bind fun ν1 => (m_X9_isSheet Z a0 ν1).bind fun r2 => (if r2 = 0 then some ((-1000001), ν1) else (m_X9_in Z ((a1 : Int32).toInt64) 0 2 ν1).bind fun r3 => (if r3 = 0 then some ((-1000001), ν1) else (if a2 ≤ 40 then (some (u2 ν1 this 1 0)).bind fun ν4 => (if 0 ≤ a2 then (ast Z ν4 (zr Z this 2) a0 a1).bind fun ν6 => (ast Z ν6 (zr Z this 3) a0 a2).bind fun ν8 => (loop (σ := Int32 × MT) (τ := MT) (fun (y9, ν10) => ((if 40 ≤ y9 then some (Sum.inr ν10) else (ast Z ν10 (zr Z this 4) ((40 * a0) + y9) 0).bind fun ν17 => (some (y9 + 1)).bind fun x18 => some (Sum.inl (x18, ν17))) : Option ((Int32 × MT) ⊕ (MT)))) LN (0, ν8)).bind (fun ν11 => some (a2, ν11)) else (m_X9_finding Z this 4 ν4).bind fun (r19, ν20) => some (r19, ν20)) else some ((-1000001), ν1))))
def m_X9_set (Z : ZT) (this : Nat) (a0 : Int32) (a1 : Int32) (a2 : Int32) (μ : MT) : Option (Int32 × MT) :=
  (some (u2 μ this 0 0)).bind fun ν1 => (m_X9_isSheet Z a0 ν1).bind fun r2 => (if r2 = 0 then some ((-1000001), ν1) else (some (u2 ν1 this 1 0)).bind fun ν3 => (ald Z ν3 (zr Z this 2) a0).bind fun x5 => (if 0 ≤ x5 then (ald Z ν3 (zr Z this 3) a0).bind fun x7 => (m_X9_in Z ((a1 : Int32).toInt64) 0 ((x7 - 1 : Int32).toInt64) ν3).bind fun r8 => (if r8 = 0 then (m_X9_finding Z this 2 ν3).bind fun (r20, ν21) => some (r20, ν21) else (ald Z ν3 (zr Z this 2) a0).bind fun x11 => (((if x11 = 0 then some ((a2 : Int32).toInt8.toInt32) else (ald Z ν3 (zr Z this 2) a0).bind fun x19 => (if x19 = 1 then some ((a2 : Int32).toInt16.toInt32) else some a2)) : Option (Int32))).bind (fun z12 => (ast Z ν3 (zr Z this 4) ((40 * a0) + a1) z12).bind fun ν15 => (ald Z ν15 (zr Z this 4) ((40 * a0) + a1)).bind fun x17 => some (x17, ν15))) else (m_X9_finding Z this 1 ν3).bind fun (r22, ν23) => some (r22, ν23)))
def m_X9_copy (Z : ZT) (this : Nat) (a0 : Int32) (a1 : Int32) (a2 : Int32) (a3 : Int32) (a4 : Int32) (μ : MT) : Option (Int32 × MT) :=
  (some (u2 μ this 0 0)).bind fun ν1 => (m_X9_isSheet Z a0 ν1).bind fun r2 => (if r2 = 0 then some ((-1000001), ν1) else (m_X9_isSheet Z a2 ν1).bind fun r3 => (if r3 = 0 then some ((-1000001), ν1) else (some (u2 ν1 this 1 0)).bind fun ν4 => (ald Z ν4 (zr Z this 2) a0).bind fun x6 => (((if x6 < 0 then some (Sum.inr ν4) else (ald Z ν4 (zr Z this 2) a2).bind fun x14 => (if 0 ≤ x14 then (ald Z ν4 (zr Z this 2) a0).bind fun x16 => (ald Z ν4 (zr Z this 2) a2).bind fun x18 => (if x16 = x18 then (((if a1 < 0 then some (Sum.inr ν4) else (if a3 < 0 then some (Sum.inr ν4) else (if a4 < 0 then some (Sum.inr ν4) else (ald Z ν4 (zr Z this 3) a0).bind fun x26 => (if 0 < (lg_cmp (((a1 : Int32).toInt64) + ((a4 : Int32).toInt64)) ((x26 : Int32).toInt64)) then some (Sum.inr ν4) else (ald Z ν4 (zr Z this 3) a2).bind fun x28 => (if (lg_cmp (((a3 : Int32).toInt64) + ((a4 : Int32).toInt64)) ((x28 : Int32).toInt64)) ≤ 0 then (((if a1 < a3 then some 0 else some 1) : Option (Int32))).bind (fun z29 => (loop (σ := Int32 × MT) (τ := MT) (fun (y32, ν33) => ((if a4 ≤ y32 then some (Sum.inr ν33) else (((if z29 = 0 then some ((a4 - 1) - y32) else some y32) : Option (Int32))).bind (fun z39 => (ald Z ν33 (zr Z this 4) (((40 * a0) + a1) + z39)).bind fun x44 => (ast Z ν33 (zr Z this 4) (((40 * a2) + a3) + z39) x44).bind fun ν45 => (some (y32 + 1)).bind fun x46 => some (Sum.inl (x46, ν45)))) : Option ((Int32 × MT) ⊕ (MT)))) LN (0, ν4)).bind (fun ν34 => some (Sum.inl (Sum.inl (a4, ν34))))) else some (Sum.inr ν4)))))) : Option (((Int32 × MT) ⊕ (MT)) ⊕ (MT)))).bind (jn (fun ν19 => (m_X9_finding Z this 2 ν19).bind fun (r23, ν24) => some (Sum.inl (r23, ν24)))) else (m_X9_finding Z this 5 ν4).bind fun (r47, ν48) => some (Sum.inl (r47, ν48))) else some (Sum.inr ν4))) : Option ((Int32 × MT) ⊕ (MT)))).bind (jn (fun ν7 => (m_X9_finding Z this 1 ν7).bind fun (r11, ν12) => some (r11, ν12)))))
def m_X9_drop (Z : ZT) (this : Nat) (a0 : Int32) (μ : MT) : Option (Int32 × MT) :=
  (some (u2 μ this 0 0)).bind fun ν1 => (m_X9_isSheet Z a0 ν1).bind fun r2 => (if r2 = 0 then some ((-1000001), ν1) else (some (u2 ν1 this 1 0)).bind fun ν3 => (ald Z ν3 (zr Z this 2) a0).bind fun x5 => (if 0 ≤ x5 then (ast Z ν3 (zr Z this 2) a0 (-1)).bind fun ν7 => (ald Z ν7 (zr Z this 3) a0).bind fun x9 => some (x9, ν7) else (m_X9_finding Z this 1 ν3).bind fun (r10, ν11) => some (r10, ν11)))
def m_X9_must (Z : ZT) (this : Nat) (a0 : Int32) (μ : MT) : Option (MT) :=
  (((if a0 = 0 then (m_X9_bad Z this 1 μ).bind fun ν5 => some ν5 else some μ) : Option (MT))).bind (fun ν1 => (if (ν1 this 27) = 0 then (m_X9_next Z this ν1).bind fun ν4 => some ν4 else some ν1))
def m_X9_act (Z : ZT) (this : Nat) (a0 : Int32) (a1 : Int32) (μ : MT) : Option (Int32 × MT) :=
  (some (u2 μ this 0 0)).bind fun ν1 => (m_X9_isAct Z this a0 ν1).bind fun r2 => (((if r2 = 0 then some (Sum.inr ()) else (m_X9_in Z ((a1 : Int32).toInt64) 0 3 ν1).bind fun r6 => (if r6 = 0 then some (Sum.inr ()) else (ald Z ν1 (zr Z this 9) ((4 * a0) + a1)).bind fun x8 => (if a1 = 0 then some (Sum.inl (x8 - 1, ν1)) else some (Sum.inl (x8 - 0, ν1))))) : Option ((Int32 × MT) ⊕ (Unit)))).bind (jn (fun (_ : Unit) => some ((-1000001), ν1)))
def m_X9_open (Z : ZT) (this : Nat) (a0 : Int32) (a1 : Int32) (μ : MT) : Option (Int32 × MT) :=
  (some (u2 μ this 0 0)).bind fun ν1 => (m_X9_isCell Z this a0 ν1).bind fun r2 => (if r2 = 0 then some ((-1000001), ν1) else (m_X9_in Z ((a1 : Int32).toInt64) (-40) 40 ν1).bind fun r3 => (if r3 = 0 then some ((-1000001), ν1) else (ald Z ν1 (zr Z this 29) a0).bind fun x5 => (ast Z ν1 (zr Z this 29) a0 a1).bind fun ν7 => some (x5, ν7)))
def m_X9_holds (Z : ZT) (this : Nat) (a0 : Int32) (μ : MT) : Option (Int32) :=
  (m_X9_isCell Z this a0 μ).bind fun r1 => (if r1 = 0 then some 0 else (ald Z μ (zr Z this 32) (12 + a0)).bind fun x3 => (if x3 ≤ 0 then some 0 else some 1))
def m_X9_cell (Z : ZT) (this : Nat) (a0 : Int32) (a1 : Int32) (μ : MT) : Option (Int32 × MT) :=
  (some (u2 μ this 0 0)).bind fun ν1 => (m_X9_isCell Z this a0 ν1).bind fun r2 => (if r2 = 0 then some ((-1000001), ν1) else (m_X9_in Z ((a1 : Int32).toInt64) 0 3 ν1).bind fun r3 => (if r3 = 0 then some ((-1000001), ν1) else (m_X9_layStanding Z this ν1).bind fun ν4 => (ald Z ν4 (zr Z this 32) ((12 * a1) + a0)).bind fun x6 => some (x6, ν4)))
def m_X9_height (Z : ZT) (this : Nat) (a0 : Int32) (μ : MT) : Option (Int32 × MT) :=
  (some (u2 μ this 0 0)).bind fun ν1 => (if (ν1 this 5) = 0 then some ((-1000002), ν1) else (m_X9_in Z ((a0 : Int32).toInt64) 0 ((ν1 this 5 : Int32).toInt64) ν1).bind fun r2 => (if r2 = 0 then some ((-1000001), ν1) else (m_X9_layStanding Z this ν1).bind fun ν3 => (m_X9_heightBy Z this (zr Z this 32) a0 ν3).bind fun r5 => some (r5, ν3)))
def m_X9_spots (Z : ZT) (this : Nat) (a0 : Int32) (a1 : Int32) (μ : MT) : Option (Int32 × MT) :=
  (some (u2 μ this 0 0)).bind fun ν1 => (m_X9_in Z ((a0 : Int32).toInt64) 1 20 ν1).bind fun r2 => (if r2 = 0 then some ((-1000001), ν1) else (m_X9_in Z ((a1 : Int32).toInt64) 0 40 ν1).bind fun r3 => (if r3 = 0 then some ((-1000001), ν1) else (if (ν1 this 5) = 0 then some ((-1000002), ν1) else (loop (σ := Int32 × MT) (τ := (Int32 × MT) ⊕ (MT)) (fun (y4, ν5) => ((if 4 ≤ y4 then some (Sum.inr (Sum.inr ν5)) else (loop (σ := Int32 × MT) (τ := ((Int32 × MT) ⊕ ((Int32 × MT) ⊕ (MT))) ⊕ (MT)) (fun (y12, ν13) => ((if (1 <<< ((ν13 this 5) &&& 31)) ≤ y12 then some (Sum.inr (Sum.inr ν13)) else (loop (σ := Int32 × Int32) (τ := Int32) (fun (y21, y22) => ((if (ν13 this 5) ≤ y22 then some (Sum.inr y21) else (some (y21 + ((y12 >>> (y22 &&& 31)) &&& 1))).bind fun x63 => (some (y22 + 1)).bind fun x64 => some (Sum.inl (x63, x64))) : Option ((Int32 × Int32) ⊕ (Int32)))) LN (0, 0)).bind (fun y23 => (((if y23 = y4 then (m_X9_layStanding Z this ν13).bind fun ν33 => (loop (σ := Int32 × MT) (τ := MT) (fun (y34, ν35) => ((if (ν35 this 5) ≤ y34 then some (Sum.inr ν35) else (((if ((y12 >>> (y34 &&& 31)) &&& 1) = 1 then (m_X9_flame Z this y34 a0 ν35).bind fun ν62 => some ν62 else some ν35) : Option (MT))).bind (fun ν58 => (some (y34 + 1)).bind fun x61 => some (Sum.inl (x61, ν58)))) : Option ((Int32 × MT) ⊕ (MT)))) LN (0, ν33)).bind (fun ν36 => (loop (σ := Int32 × Int32) (τ := Int32) (fun (y41, y42) => ((if (ν36 this 5) ≤ y42 then some (Sum.inr y41) else (((((if y41 = 0 then some (Sum.inr ()) else (ald Z ν36 (zr Z this 32) (24 + y42)).bind fun x56 => (m_X9_in Z ((x56 : Int32).toInt64) ((-a1 : Int32).toInt64) ((a1 : Int32).toInt64) ν36).bind fun r57 => (if r57 = 0 then some (Sum.inr ()) else some (Sum.inl 1))) : Option ((Int32) ⊕ (Unit)))).bind (jn (fun (_ : Unit) => some 0)) : Option (Int32))).bind (fun z48 => (some (y42 + 1)).bind fun x51 => some (Sum.inl (z48, x51)))) : Option ((Int32 × Int32) ⊕ (Int32)))) LN (1, 0)).bind (fun y43 => (if y43 = 0 then some (Sum.inr ν36) else some (Sum.inl (Sum.inr (Sum.inl (Sum.inr (Sum.inl (y12, ν36))))))))) else some (Sum.inr ν13)) : Option (((Int32 × MT) ⊕ (((Int32 × MT) ⊕ ((Int32 × MT) ⊕ (MT))) ⊕ (MT))) ⊕ (MT)))).bind (jn (fun ν28 => (some (y12 + 1)).bind fun x32 => some (Sum.inl (x32, ν28)))))) : Option ((Int32 × MT) ⊕ (((Int32 × MT) ⊕ ((Int32 × MT) ⊕ (MT))) ⊕ (MT))))) LN (0, ν5)).bind (jn (fun ν14 => (some (y4 + 1)).bind fun x20 => some (Sum.inl (x20, ν14))))) : Option ((Int32 × MT) ⊕ ((Int32 × MT) ⊕ (MT))))) LN (0, ν1)).bind (jn (fun ν6 => some ((-1000000), ν6))))))
def m_X9_crackAt (Z : ZT) (this : Nat) (a0 : Int32) (μ : MT) : Option (Int32 × MT) :=
  (m_X9_layStanding Z this μ).bind fun ν1 => (loop (σ := Int32) (τ := (Int32 × MT) ⊕ (Unit)) (fun y2 => ((if (ν1 this 5) ≤ y2 then some (Sum.inr (Sum.inr ())) else (ald Z ν1 (zr Z this 32) (36 + y2)).bind fun x9 => (if x9 ≤ (300 - (4 * a0)) then (some (y2 + 1)).bind fun x10 => some (Sum.inl x10) else some (Sum.inr (Sum.inl (y2, ν1))))) : Option ((Int32) ⊕ ((Int32 × MT) ⊕ (Unit))))) LN 0).bind (jn (fun (_ : Unit) => some ((-1000000), ν1)))
def m_X9_wire (Z : ZT) (this : Nat) (a0 : Int32) (a1 : Int32) (a2 : Int32) (μ : MT) : Option (Int32 × MT) :=
  (some (u2 μ this 0 0)).bind fun ν1 => (m_X9_isSheet Z a0 ν1).bind fun r2 => (if r2 = 0 then some ((-1000001), ν1) else (if (ν1 this 5) = 0 then some ((-1000002), ν1) else (m_X9_in Z ((a2 : Int32).toInt64) (-1) (((ν1 this 5) - 1 : Int32).toInt64) ν1).bind fun r3 => (if r3 = 0 then some ((-1000001), ν1) else (ald Z ν1 (zr Z this 2) a0).bind fun x5 => (if 0 ≤ x5 then (((if a1 < 0 then some (Sum.inr ν1) else (ald Z ν1 (zr Z this 3) a0).bind fun x13 => (if (lg_cmp ((((a1 : Int32).toInt64) + ((ν1 this 5 : Int32).toInt64)) + 1) ((x13 : Int32).toInt64)) ≤ 0 then (some ((40 * a0) + a1)).bind fun x14 => (loop (σ := Int32) (τ := ((Int32 × MT) ⊕ (MT)) ⊕ (Unit)) (fun y15 => ((if (ν1 this 5) < y15 then some (Sum.inr (Sum.inr ())) else (ald Z ν1 (zr Z this 4) (x14 + y15)).bind fun x50 => (m_X9_in Z ((x50 : Int32).toInt64) (-9999) 9999 ν1).bind fun r51 => (if r51 = 0 then some (Sum.inr (Sum.inl (Sum.inl ((-1000001), ν1)))) else (some (y15 + 1)).bind fun x52 => some (Sum.inl x52))) : Option ((Int32) ⊕ (((Int32 × MT) ⊕ (MT)) ⊕ (Unit))))) LN 0).bind (jn (fun (_ : Unit) => (some (u2 ν1 this 1 0)).bind fun ν21 => (if a2 < 0 then (m_X9_layStanding Z this ν21).bind fun ν22 => (loop (σ := Int32) (τ := ((Int32 × MT) ⊕ (MT)) ⊕ (Unit)) (fun y23 => ((if 10 ≤ y23 then some (Sum.inr (Sum.inr ())) else (loop (σ := Int32 × Int32) (τ := Int32) (fun (y29, y30) => ((if (ν22 this 5) ≤ y30 then some (Sum.inr y29) else (((((if y29 = 0 then some (Sum.inr ()) else (m_X9_bendBy Z this x14 y30 ν22).bind fun r44 => (ald Z ν22 (zr Z this 32) (24 + y30)).bind fun x46 => (idv (y23 * x46) 4).bind fun x47 => (if r44 = x47 then some (Sum.inl 1) else some (Sum.inr ()))) : Option ((Int32) ⊕ (Unit)))).bind (jn (fun (_ : Unit) => some 0)) : Option (Int32))).bind (fun z37 => (some (y30 + 1)).bind fun x40 => some (Sum.inl (z37, x40)))) : Option ((Int32 × Int32) ⊕ (Int32)))) LN (1, 0)).bind (fun y31 => (if y31 = 0 then (some (y23 + 1)).bind fun x36 => some (Sum.inl x36) else some (Sum.inr (Sum.inl (Sum.inl (y23, ν22))))))) : Option ((Int32) ⊕ (((Int32 × MT) ⊕ (MT)) ⊕ (Unit))))) LN 1).bind (jn (fun (_ : Unit) => some (Sum.inl ((-1000000), ν22)))) else (m_X9_bendBy Z this x14 a2 ν21).bind fun r48 => some (Sum.inl (r48, ν21))))) else some (Sum.inr ν1))) : Option ((Int32 × MT) ⊕ (MT)))).bind (jn (fun ν6 => (m_X9_finding Z this 2 ν6).bind fun (r10, ν11) => some (r10, ν11))) else (m_X9_finding Z this 1 ν1).bind fun (r53, ν54) => some (r53, ν54)))))
def m_X9_isStep (Z : ZT) (this : Nat) (a0 : Int32) (μ : MT) : Option (Int32) :=
  (m_X9_isAct Z this a0 μ).bind fun r1 => (if r1 = 0 then some 0 else (ald Z μ (zr Z this 9) (4 * a0)).bind fun x3 => (if 8 ≤ x3 then some 0 else some 1))
def m_X9_markOf (Z : ZT) (this : Nat) (a0 : Int32) (a1 : Int32) (μ : MT) : Option (Int32 × MT) :=
  (((((if a1 = 1 then some (Sum.inr ()) else (if a1 = 6 then some (Sum.inr ()) else (if a1 = 7 then some (Sum.inr ()) else some (Sum.inl μ)))) : Option ((MT) ⊕ (Unit)))).bind (jn (fun (_ : Unit) => (((if a1 = 1 then some 21 else (if a1 = 6 then some 22 else some 23)) : Option (Int32))).bind (fun z10 => (m_X9_began Z this z10 μ).bind fun ν13 => some ν13))) : Option (MT))).bind (fun ν1 => (m_X9_began Z this 20 ν1).bind fun ν4 => (if a1 = 1 then some (a0 + 100, ν4) else (if a1 = 6 then some (-a0, ν4) else (if a1 = 7 then (m_X9_flameSize Z this a0 ν4).bind fun (r5, ν6) => some (a0 + r5, ν6) else some (a0, ν4)))))
def m_X2_doSeam (Z : ZT) (this : Nat) (a0 : Nat) (a1 : Int32) (μ : MT) : Option (MT) :=
  (m_X3_firstAct Z a0 a1 μ).bind fun r1 => (loop (σ := Int32 × MT) (τ := MT) (fun (y2, ν3) => ((m_X3_endOfActs Z a0 a1 ν3).bind fun r9 => (if r9 ≤ y2 then some (Sum.inr ν3) else (ald Z ν3 (zr Z a0 5) y2).bind fun x11 => (ald Z ν3 (zr Z a0 4) y2).bind fun x13 => (((if x13 = 7 then (some (u2 ν3 this 8 ((ν3 this 8) + x11))).bind fun ν19 => some ν19 else if x13 = 8 then (some (u2 ν3 this 6 ((ν3 this 6) ||| (1 <<< (x11 &&& 31))))).bind fun ν21 => some ν21 else if x13 = 9 then (m_X2_freeOne Z this x11 ν3).bind fun ν23 => some ν23 else (ald Z ν3 (zr Z a0 4) y2).bind fun x25 => (ald Z ν3 (zr Z a0 6) y2).bind fun x27 => (m_X2_doStep Z this x25 x11 x27 ν3).bind fun ν28 => some ν28) : Option (MT))).bind (fun ν14 => (some (y2 + 1)).bind fun x17 => some (Sum.inl (x17, ν14)))) : Option ((Int32 × MT) ⊕ (MT)))) LN (r1, μ)).bind (fun ν4 => some ν4)
def m_X4_takeAct (Z : ZT) (this : Nat) (a0 : Nat) (a1 : Int32) (μ : MT) : Option (Int32 × MT) :=
  (if (μ a0 2) < 40 then (m_X7_toNext Z (zr Z this 0) μ).bind fun ν2 => (((if a1 = 7 then (m_X4_takeNumber Z this 1 30 ν2).bind fun (r19, ν20) => some (r19, ν20) else (m_X4_takeNumber Z this 0 ((ν2 a0 0) - 1) ν2).bind fun (r17, ν18) => some (r17, ν18)) : Option (Int32 × MT))).bind (fun (z3, ν4) => (some (ν4 this 1)).bind fun x7 => (((if z3 = 0 then (if 6 < a1 then some (z3, 0, ν4) else (m_X4_takeNumber Z this 1 20 ν4).bind fun (r14, ν15) => (some (ν15 this 1)).bind fun x16 => some (r14, x16, ν15)) else some (z3, 0, ν4)) : Option (Int32 × Int32 × MT))).bind (fun (y8, y9, ν10) => (if y8 = 0 then (m_X3_addAct Z a0 a1 x7 y9 ν10).bind fun ν13 => some (y8, ν13) else some (y8, ν10)))) else some (3, μ))
def m_X4_takeBefore (Z : ZT) (this : Nat) (a0 : Nat) (μ : MT) : Option (Int32 × MT) :=
  (if (μ a0 3) < 10 then (m_X7_toNext Z (zr Z this 0) μ).bind fun ν2 => (m_X4_takeNumber Z this 0 ((ν2 a0 1) - 1) ν2).bind fun (r3, ν4) => (if r3 = 0 then (some (ν4 this 1)).bind fun x5 => (m_X7_atNumber Z (zr Z this 0) ν4).bind fun r7 => (((if r7 = 0 then some (Sum.inr ()) else (m_X7_numberHere Z (zr Z this 0) ν4).bind fun r17 => (if r17 = x5 then some (Sum.inl (2, ν4)) else some (Sum.inr ()))) : Option ((Int32 × MT) ⊕ (Unit)))).bind (jn (fun (_ : Unit) => (m_X4_takeNumber Z this 0 ((ν4 a0 1) - 1) ν4).bind fun (r11, ν12) => (if r11 = 0 then (m_X3_addBefore Z a0 x5 (ν12 this 1) ν12).bind fun ν13 => (m_X4_takeSign Z this ν13).bind fun (r14, ν15) => some (r14, ν15) else some (r11, ν12)))) else some (r3, ν4)) else some (3, μ))
def m_X5_weigh (Z : ZT) (this : Nat) (a0 : Nat) (a1 : Int32) (μ : MT) : Option (MT) :=
  (m_X2_freeAll Z a0 μ).bind fun ν1 => (m_X2_off Z a0 ν1).bind fun r2 => (((if (ν1 this 5) = 0 then some (Sum.inr ()) else (if (ν1 this 6) ≤ r2 then some (Sum.inl ν1) else some (Sum.inr ()))) : Option ((MT) ⊕ (Unit)))).bind (jn (fun (_ : Unit) => (some (u2 ν1 this 5 1)).bind fun ν6 => (some (u2 ν6 this 6 r2)).bind fun ν7 => (acp Z ν7 (zr Z this 1) 0 (zr Z this 2) 0 a1).bind fun ν10 => some ν10))
def m_X6_tellsOrder (Z : ZT) (this : Nat) (a0 : Int32) (a1 : Int32) (a2 : Int32) (μ : MT) : Option (Int32) :=
  (loop (σ := Int32 × Int32) (τ := (Int32) ⊕ (Unit)) (fun (y1, y2) => ((if a2 ≤ y2 then some (Sum.inr (Sum.inr ())) else (m_X6_itemAt Z this a0 (a1 + y2) μ).bind fun r8 => (if r8 < 0 then some (Sum.inr (Sum.inl 0)) else (if a2 ≤ r8 then some (Sum.inr (Sum.inl 0)) else (if ((y1 >>> (r8 &&& 31)) &&& 1) = 1 then some (Sum.inr (Sum.inl 0)) else (some (y1 ||| (1 <<< (r8 &&& 31)))).bind fun x9 => (some (y2 + 1)).bind fun x10 => some (Sum.inl (x9, x10)))))) : Option ((Int32 × Int32) ⊕ ((Int32) ⊕ (Unit))))) LN (0, 0)).bind (jn (fun (_ : Unit) => some 1))
def m_X6_allWithin (Z : ZT) (this : Nat) (a0 : Int32) (a1 : Int32) (a2 : Int32) (a3 : Int32) (μ : MT) : Option (Int32) :=
  (loop (σ := Int32) (τ := (Int32) ⊕ (Unit)) (fun y1 => ((if a2 ≤ y1 then some (Sum.inr (Sum.inr ())) else (m_X6_itemAt Z this a0 (a1 + y1) μ).bind fun r7 => (if r7 < (-a3) then some (Sum.inr (Sum.inl 0)) else (if r7 ≤ a3 then (some (y1 + 1)).bind fun x8 => some (Sum.inl x8) else some (Sum.inr (Sum.inl 0))))) : Option ((Int32) ⊕ ((Int32) ⊕ (Unit))))) LN 0).bind (jn (fun (_ : Unit) => some 1))
def m_X7_atWord (Z : ZT) (this : Nat) (a0 : Int32) (μ : MT) : Option (Int32) :=
  (if (μ this 4) = 1 then (m_X7_spelling Z a0 μ).bind fun r1 => (stc r1).bind fun r1 => (m_X7_spells Z this r1 μ).bind fun r2 => (if r2 = 0 then some 0 else some 1) else some 0)
def m_X8_orders (Z : ZT) (zn : Nat) (this : Nat) (μ : MT) : Option (Int32 × MT) :=
  (mrd Z zn 3 (μ this 11)).bind fun q1 => (m_X3_isNone Z q1 μ).bind fun r3 => (if r3 = 0 then (mrd Z zn 3 (μ this 11)).bind fun q5 => (m_X5_howManyFit Z (zr Z this 8) q5 μ).bind fun (r7, ν8) => some (r7, ν8) else some ((-1000002), μ))
def m_X8_crack (Z : ZT) (this : Nat) (a0 : Int32) (μ : MT) : Option (Int32) :=
  (if a0 < 0 then some (-1000001) else (if a0 ≤ 60 then (m_X2_firstAbove Z (zr Z this 6) (300 - (4 * a0)) μ).bind fun r2 => some r2 else some (-1000001)))
def m_X8_warm (Z : ZT) (zn : Nat) (this : Nat) (μ : MT) : Option (Int32) :=
  (mrd Z zn 3 (μ this 11)).bind fun q1 => (m_X3_isNone Z q1 μ).bind fun r3 => (if r3 = 0 then (loop (σ := Int32) (τ := (Int32) ⊕ (Unit)) (fun y4 => ((if y4 < 0 then some (Sum.inr (Sum.inr ())) else (m_X2_firstAbove Z (zr Z this 6) (300 - (4 * y4)) μ).bind fun r11 => (if r11 = (-1000000) then some (Sum.inr (Sum.inl y4)) else (some (y4 + (-1))).bind fun x12 => some (Sum.inl x12))) : Option ((Int32) ⊕ ((Int32) ⊕ (Unit))))) LN 60).bind (jn (fun (_ : Unit) => some (-1000000))) else some (-1000002))
def m_X8_wireBend (Z : ZT) (this : Nat) (a0 : Int32) (a1 : Int32) (a2 : Int32) (μ : MT) : Option (Int32) :=
  (m_X6_itemAt Z (zr Z this 0) a0 (a1 + a2) μ).bind fun r2 => (m_X6_itemAt Z (zr Z this 0) a0 ((a1 + a2) + 1) μ).bind fun r4 => (some (r4 - r2)).bind fun x5 => (if a2 = 0 then some (x5 - 0) else (m_X6_itemAt Z (zr Z this 0) a0 ((a1 + a2) - 1) μ).bind fun r7 => (some (r2 - r7)).bind fun x8 => some (x5 - x8))
def m_X9_numberIn (Z : ZT) (this : Nat) (a0 : Int32) (a1 : Int32) (a2 : Int32) (μ : MT) : Option (Int32 × MT) :=
  (if (μ this 27) ≤ 0 then (some (μ this 25)).bind fun x1 => (loop (σ := Int32 × Int32) (τ := Int32) (fun (y2, y3) => ((if (μ this 26) ≤ y3 then some (Sum.inr y2) else (if (μ this 24) = 3 then (ald Z μ (zr Z this 19) y3).bind fun x22 => (some (((10 * y2) + x22) - 48)).bind fun x23 => (some (y3 + 1)).bind fun x24 => some (Sum.inl (x23, x24)) else some (Sum.inr y2))) : Option ((Int32 × Int32) ⊕ (Int32)))) LN (0, x1)).bind (fun y4 => (((if (μ this 24) = 3 then (m_X9_in Z ((y4 : Int32).toInt64) ((a0 : Int32).toInt64) ((a1 : Int32).toInt64) μ).bind fun r16 => (((if r16 = 0 then some (Sum.inr ()) else (if y4 = a2 then some (Sum.inr ()) else some (Sum.inl μ))) : Option ((MT) ⊕ (Unit)))).bind (jn (fun (_ : Unit) => (m_X9_bad Z this 2 μ).bind fun ν20 => some ν20)) else some μ) : Option (MT))).bind (fun ν9 => (((if (ν9 this 24) = 3 then some 1 else some 0) : Option (Int32))).bind (fun z12 => (m_X9_must Z this z12 ν9).bind fun ν15 => some (y4, ν15)))) else some (0, μ))
def m_X9_mustEnd (Z : ZT) (this : Nat) (μ : MT) : Option (MT) :=
  (if (μ this 27) = 0 then (((if (μ this 24) = 4 then some 1 else some 0) : Option (Int32))).bind (fun z1 => (m_X9_must Z this z1 μ).bind fun ν4 => some ν4) else some μ)
def m_X9_shrinks (Z : ZT) (this : Nat) (a0 : Int32) (a1 : Int32) (a2 : Int32) (μ : MT) : Option (Int32) :=
  (m_X9_holds Z this (a1 + 1) μ).bind fun r1 => (((if r1 = 0 then some 0 else some 1) : Option (Int32))).bind (fun z2 => (some (a2 - z2)).bind fun x5 => (if a0 = 1 then some 1 else if a0 = 3 then some x5 else if a0 = 4 then (m_X9_holds Z this (a1 - 1) μ).bind fun r9 => (((if r9 = 0 then (m_X9_holds Z this (a1 + 1) μ).bind fun r13 => (if r13 = 0 then some (Sum.inl (x5 - 1)) else some (Sum.inr ())) else some (Sum.inr ())) : Option ((Int32) ⊕ (Unit)))).bind (jn (fun (_ : Unit) => some (x5 - 0))) else if a0 = 5 then (m_X9_holds Z this a1 μ).bind fun r15 => (if r15 = 0 then some a2 else (idv a2 2).bind fun x16 => some x16) else if a0 = 6 then some (-a2) else if a0 = 7 then (ald Z μ (zr Z this 32) (24 + a1)).bind fun x20 => (if x20 ≤ 0 then some a2 else some (-a2)) else some a2))
def m_X9_crack (Z : ZT) (this : Nat) (a0 : Int32) (μ : MT) : Option (Int32 × MT) :=
  (some (u2 μ this 0 0)).bind fun ν1 => (m_X9_in Z ((a0 : Int32).toInt64) 0 60 ν1).bind fun r2 => (if r2 = 0 then some ((-1000001), ν1) else (m_X9_crackAt Z this a0 ν1).bind fun (r3, ν4) => some (r3, ν4))
def m_X9_warm (Z : ZT) (this : Nat) (μ : MT) : Option (Int32 × MT) :=
  (some (u2 μ this 0 0)).bind fun ν1 => (if (ν1 this 5) = 0 then some ((-1000002), ν1) else (loop (σ := Int32 × MT) (τ := Int32 × MT) (fun (y2, ν3) => ((if y2 < 0 then some (Sum.inr (y2, ν3)) else (m_X9_crackAt Z this y2 ν3).bind fun (r10, ν11) => (if r10 = (-1000000) then some (Sum.inr (y2, ν11)) else (some (y2 + (-1))).bind fun x12 => some (Sum.inl (x12, ν11)))) : Option ((Int32 × MT) ⊕ (Int32 × MT)))) LN (60, ν1)).bind (fun (y4, ν5) => (if 0 ≤ y4 then some (y4, ν5) else some ((-1000000), ν5))))
def m_X9_kind (Z : ZT) (this : Nat) (a0 : Int32) (μ : MT) : Option (Int32 × MT) :=
  (some (u2 μ this 0 0)).bind fun ν1 => (m_X9_isStep Z this a0 ν1).bind fun r2 => (if r2 = 0 then some ((-1000001), ν1) else (ald Z ν1 (zr Z this 9) (4 * a0)).bind fun x4 => some (x4, ν1))
def m_X9_as (Z : ZT) (this : Nat) (a0 : Int32) (a1 : Int32) (μ : MT) : Option (Int32 × MT) :=
  (some (u2 μ this 0 0)).bind fun ν1 => (m_X9_isStep Z this a0 ν1).bind fun r2 => (if r2 = 0 then some ((-1000001), ν1) else (m_X9_in Z ((a1 : Int32).toInt64) 0 7 ν1).bind fun r3 => (if r3 = 0 then some ((-1000001), ν1) else (some (u2 ν1 this 1 0)).bind fun ν4 => (ald Z ν4 (zr Z this 9) (4 * a0)).bind fun x6 => (m_X9_isOf Z x6 a1 ν4).bind fun r7 => (if r7 = 0 then (m_X9_finding Z this 3 ν4).bind fun (r8, ν9) => some (r8, ν9) else (ald Z ν4 (zr Z this 9) ((4 * a0) + 1)).bind fun x11 => some (x11, ν4))))
def m_X9_sizeOf (Z : ZT) (this : Nat) (a0 : Int32) (a1 : Int32) (μ : MT) : Option (Int32 × MT) :=
  (if a1 = 7 then (m_X9_flameSize Z this a0 μ).bind fun (r30, ν31) => some (r30, ν31) else (((if a1 = 4 then (m_X9_began Z this 13 μ).bind fun ν29 => some ν29 else some μ) : Option (MT))).bind (fun ν1 => (m_X9_isOf Z a1 3 ν1).bind fun r4 => (((if r4 = 0 then some ν1 else (m_X9_began Z this 12 ν1).bind fun ν28 => some ν28) : Option (MT))).bind (fun ν5 => (m_X9_isOf Z a1 2 ν5).bind fun r8 => (((if r8 = 0 then some ν5 else (m_X9_began Z this 11 ν5).bind fun ν27 => some ν27) : Option (MT))).bind (fun ν9 => (m_X9_began Z this 10 ν9).bind fun ν12 => (ald Z ν12 (zr Z this 9) ((4 * a0) + 2)).bind fun x14 => (((if r8 = 0 then some (0, ν12) else (m_X9_markOf Z this a0 a1 ν12).bind fun (r25, ν26) => some (r25, ν26)) : Option (Int32 × MT))).bind (fun (z15, ν16) => (some (x14 + z15)).bind fun x19 => (m_X9_isOf Z a1 3 ν16).bind fun r20 => (((if r20 = 0 then some 0 else some 1) : Option (Int32))).bind (fun z21 => (some (x19 - z21)).bind fun x24 => (if a1 = 4 then some (2 * x24, ν16) else some (x24, ν16))))))))
def m_X2_go (Z : ZT) (this : Nat) (a0 : Nat) (a1 : Nat) (a2 : Nat) (a3 : Int32) (μ : MT) : Option (MT) :=
  (m_X2_begin Z this (μ a0 0) a1 μ).bind fun ν1 => (loop (σ := Int32 × MT) (τ := MT) (fun (y2, ν3) => ((if (ν3 a0 1) ≤ y2 then some (Sum.inr ν3) else (if (Int32.ofNat (zl Z a2)) ≤ y2 then some (Sum.inr ν3) else (ald Z ν3 a2 y2).bind fun x10 => (((if x10 = a3 then some ν3 else (ald Z ν3 a2 y2).bind fun x15 => (m_X2_doSeam Z this a0 x15 ν3).bind fun ν16 => some ν16) : Option (MT))).bind (fun ν11 => (some (y2 + 1)).bind fun x14 => some (Sum.inl (x14, ν11))))) : Option ((Int32 × MT) ⊕ (MT)))) LN (0, ν1)).bind (fun ν4 => (m_X2_freeAll Z this ν4).bind fun ν9 => some ν9)
def m_X4_takePanel (Z : ZT) (this : Nat) (a0 : Nat) (μ : MT) : Option (Int32 × MT) :=
  (m_X7_atWord Z (zr Z this 0) 10 μ).bind fun r2 => (if r2 = 0 then some (1, μ) else (m_X7_toNext Z (zr Z this 0) μ).bind fun ν4 => (m_X4_takeNumber Z this 4 12 ν4).bind fun (r5, ν6) => (if r5 = 0 then (some (u2 ν6 a0 0 (ν6 this 1))).bind fun ν7 => (m_X4_takeSign Z this ν7).bind fun (r8, ν9) => some (r8, ν9) else some (r5, ν6)))
def m_X5_tryFrom (Z : ZT) : Nat → Nat → Nat → Int32 → Int32 → MT → Option (MT)
  | 0, _, _, _, _, _ => none
  | n + 1, this, a0, a1, a2, μ => (((if (μ a0 1) ≤ a1 then some (Sum.inr μ) else (if a1 < 6 then (loop (σ := Int32 × MT) (τ := MT) (fun (y9, ν10) => ((if (ν10 a0 1) ≤ y9 then some (Sum.inr ν10) else (m_X3_mayFollow Z a0 y9 a2 ν10).bind fun r16 => (((if r16 = 0 then some ν10 else (ard Z (zr Z this 0) (a1 + 1)).bind fun q22 => (ard Z (zr Z this 0) a1).bind fun q25 => (m_X2_becomeAs Z q22 q25 ν10).bind fun ν27 => (ard Z (zr Z this 0) (a1 + 1)).bind fun q29 => (m_X2_doSeam Z q29 a0 y9 ν27).bind fun ν31 => (ast Z ν31 (zr Z this 1) a1 y9).bind fun ν33 => (m_X5_tryFrom Z n this a0 (a1 + 1) (a2 ||| (1 <<< (y9 &&& 31))) ν33).bind fun ν34 => some ν34) : Option (MT))).bind (fun ν17 => (some (y9 + 1)).bind fun x20 => some (Sum.inl (x20, ν17)))) : Option ((Int32 × MT) ⊕ (MT)))) LN (0, μ)).bind (fun ν11 => some (Sum.inl ν11)) else some (Sum.inr μ))) : Option ((MT) ⊕ (MT)))).bind (jn (fun ν1 => (ard Z (zr Z this 0) a1).bind fun q6 => (m_X5_weigh Z this q6 a1 ν1).bind fun ν8 => some ν8))
def m_X7_actHere (Z : ZT) (this : Nat) (μ : MT) : Option (Int32) :=
  (loop (σ := Int32) (τ := (Int32) ⊕ (Unit)) (fun y1 => ((if 9 < y1 then some (Sum.inr (Sum.inr ())) else (m_X7_atWord Z this y1 μ).bind fun r7 => (if r7 = 0 then (some (y1 + 1)).bind fun x8 => some (Sum.inl x8) else some (Sum.inr (Sum.inl y1)))) : Option ((Int32) ⊕ ((Int32) ⊕ (Unit))))) LN 0).bind (jn (fun (_ : Unit) => some (-1)))
def m_X8_isSteel (Z : ZT) (zn : Nat) (this : Nat) (a0 : Int32) (a1 : Int32) (a2 : Int32) (μ : MT) : Option (Int32) :=
  (loop (σ := Int32) (τ := (Int32) ⊕ (Unit)) (fun y1 => ((mrd Z zn 3 (μ this 11)).bind fun q7 => (if (μ q7 0) ≤ y1 then some (Sum.inr (Sum.inr ())) else (m_X8_wireBend Z this a0 a1 y1 μ).bind fun r9 => (ald Z μ (zr Z (zr Z this 6) 3) y1).bind fun x12 => (idv (a2 * x12) 4).bind fun x13 => (if r9 = x13 then (some (y1 + 1)).bind fun x14 => some (Sum.inl x14) else some (Sum.inr (Sum.inl 0)))) : Option ((Int32) ⊕ ((Int32) ⊕ (Unit))))) LN 0).bind (jn (fun (_ : Unit) => some 1))
def m_X9_readAct (Z : ZT) (this : Nat) (a0 : Int32) (μ : MT) : Option (MT) :=
  (((if (μ this 14) = 40 then (m_X9_bad Z this 3 μ).bind fun ν28 => some ν28 else some μ) : Option (MT))).bind (fun ν1 => (m_X9_must Z this 1 ν1).bind fun ν4 => (((if a0 = 8 then (m_X9_numberIn Z this 1 30 (-1000000) ν4).bind fun (r26, ν27) => some (r26, ν27) else (m_X9_numberIn Z this 0 ((ν4 this 12) - 1) (-1000000) ν4).bind fun (r24, ν25) => some (r24, ν25)) : Option (Int32 × MT))).bind (fun (z5, ν6) => (((if 8 ≤ a0 then some ((-1000000), ν6) else (m_X9_numberIn Z this 1 20 (-1000000) ν6).bind fun (r22, ν23) => some (r22, ν23)) : Option (Int32 × MT))).bind (fun (z9, ν10) => (if (ν10 this 27) = 0 then (ast Z ν10 (zr Z this 16) (4 * (ν10 this 14)) a0).bind fun ν14 => (ast Z ν14 (zr Z this 16) ((4 * (ν14 this 14)) + 1) z5).bind fun ν16 => (ast Z ν16 (zr Z this 16) ((4 * (ν16 this 14)) + 2) z9).bind fun ν18 => (ast Z ν18 (zr Z this 16) ((4 * (ν18 this 14)) + 3) (ν18 this 13)).bind fun ν20 => (some (u2 ν20 this 14 ((ν20 this 14) + 1))).bind fun ν21 => some ν21 else some ν10))))
def m_X9_readBefore (Z : ZT) (this : Nat) (μ : MT) : Option (MT) :=
  (((if (μ this 15) = 10 then (m_X9_bad Z this 3 μ).bind fun ν19 => some ν19 else some μ) : Option (MT))).bind (fun ν1 => (m_X9_word Z this ν1).bind fun r4 => (((if (lg_cmp r4 108187649798757) = 0 then some 1 else some 0) : Option (Int32))).bind (fun z5 => (m_X9_must Z this z5 ν1).bind fun ν8 => (m_X9_numberIn Z this 0 ((ν8 this 13) - 1) (-1000000) ν8).bind fun (r9, ν10) => (m_X9_numberIn Z this 0 ((ν10 this 13) - 1) r9 ν10).bind fun (r11, ν12) => (m_X9_mustEnd Z this ν12).bind fun ν13 => (if (ν13 this 27) = 0 then (ast Z ν13 (zr Z this 17) (ν13 this 15) r9).bind fun ν15 => (ast Z ν15 (zr Z this 18) (ν15 this 15) r11).bind fun ν17 => (some (u2 ν17 this 15 ((ν17 this 15) + 1))).bind fun ν18 => some ν18 else some ν13)))
def m_X9_step (Z : ZT) (this : Nat) (a0 : Int32) (a1 : Int32) (a2 : Int32) (μ : MT) : Option (MT) :=
  (m_X9_shrinks Z this a0 a1 a2 μ).bind fun r1 => (ald Z μ (zr Z this 32) (12 + a1)).bind fun x3 => (idv (8 * r1) (8 + x3)).bind fun x4 => (ald Z μ (zr Z this 32) (0 + a1)).bind fun x6 => (((if x6 < 100 then some x4 else (idv x4 2).bind fun x51 => some x51) : Option (Int32))).bind (fun z7 => (ald Z μ (zr Z this 34) a1).bind fun x11 => (((if x11 = 0 then (ald Z μ (zr Z this 32) (24 + a1)).bind fun x46 => (ast Z μ (zr Z this 32) (24 + a1) (x46 + z7)).bind fun ν47 => some ν47 else (ald Z μ (zr Z this 33) a1).bind fun x49 => (ast Z μ (zr Z this 33) a1 (x49 + z7)).bind fun ν50 => some ν50) : Option (MT))).bind (fun ν12 => (loop (σ := Int32 × MT) (τ := MT) (fun (y15, ν16) => ((if (ν16 this 5) ≤ y15 then some (Sum.inr ν16) else (ald Z ν16 (zr Z this 32) (36 + y15)).bind fun x39 => (((if y15 = a1 then some (z7 * ((ν16 this 5) - 1)) else some (-z7)) : Option (Int32))).bind (fun z40 => (ast Z ν16 (zr Z this 32) (36 + y15) (x39 + z40)).bind fun ν43 => (some (y15 + 1)).bind fun x44 => some (Sum.inl (x44, ν43)))) : Option ((Int32 × MT) ⊕ (MT)))) LN (0, ν12)).bind (fun ν17 => (ald Z ν17 (zr Z this 32) (0 + a1)).bind fun x23 => (((if a0 = 1 then some a2 else (if a0 = 7 then some (6 * a2) else some (4 * a2))) : Option (Int32))).bind (fun z24 => (ast Z ν17 (zr Z this 32) (0 + a1) (x23 + z24)).bind fun ν27 => (ald Z ν27 (zr Z this 32) (12 + a1)).bind fun x29 => (((if a0 = 7 then some 0 else (((if a0 = 1 then some (Sum.inr ()) else (if a0 = 5 then some (Sum.inr ()) else some (Sum.inl 2))) : Option ((Int32) ⊕ (Unit)))).bind (jn (fun (_ : Unit) => some 1))) : Option (Int32))).bind (fun z30 => (ast Z ν27 (zr Z this 32) (12 + a1) (x29 + z30)).bind fun ν33 => (m_X9_minute Z this ν33).bind fun ν34 => some ν34)))))
def m_X9_ask (Z : ZT) (this : Nat) (a0 : Int32) (a1 : Int32) (μ : MT) : Option (Int32 × MT) :=
  (some (u2 μ this 0 0)).bind fun ν1 => (m_X9_isStep Z this a0 ν1).bind fun r2 => (if r2 = 0 then some ((-1000001), ν1) else (m_X9_in Z ((a1 : Int32).toInt64) 0 1 ν1).bind fun r3 => (if r3 = 0 then some ((-1000001), ν1) else (some (u2 ν1 this 42 0)).bind fun ν4 => (if a1 = 0 then (ald Z ν4 (zr Z this 9) (4 * a0)).bind fun x10 => (m_X9_sizeOf Z this a0 x10 ν4).bind fun (r11, ν12) => some (r11, ν12) else (ald Z ν4 (zr Z this 9) (4 * a0)).bind fun x6 => (m_X9_markOf Z this a0 x6 ν4).bind fun (r7, ν8) => some (r7, ν8))))
def m_X1_look (Z : ZT) (this : Nat) (a0 : Nat) (a1 : Nat) (μ : MT) : Option (MT) :=
  (if (μ this 2) = 0 then (some (u2 μ this 2 1)).bind fun ν1 => (m_J7_fill_53178 Z (zr Z this 0) (-1000000) ν1).bind fun ν3 => (loop (σ := Int32 × MT) (τ := MT) (fun (y4, ν5) => ((if 80 < y4 then some (Sum.inr ν5) else (irm y4 2).bind fun x26 => (((if x26 = 1 then (idv y4 2).bind fun x37 => some ((-x37) - 1) else (idv y4 2).bind fun x36 => some x36) : Option (Int32))).bind (fun z27 => (m_J7_fill_53178 Z (zr Z this 1) z27 ν5).bind fun ν31 => (m_X2_go Z a1 a0 (zr Z this 1) 1000 (-1) ν31).bind fun ν33 => (m_X1_keepWhereFlat Z this a1 z27 ν33).bind fun ν34 => (some (y4 + 1)).bind fun x35 => some (Sum.inl (x35, ν34)))) : Option ((Int32 × MT) ⊕ (MT)))) LN (0, ν3)).bind (fun ν6 => (loop (σ := Int32 × MT) (τ := MT) (fun (y11, ν12) => ((if 12 ≤ y11 then some (Sum.inr ν12) else (ald Z ν12 (zr Z this 0) (y11 - 1)).bind fun x19 => (((if x19 = (-1000000) then (ast Z ν12 (zr Z this 0) y11 (-1000000)).bind fun ν25 => some ν25 else some ν12) : Option (MT))).bind (fun ν20 => (some (y11 + 1)).bind fun x23 => some (Sum.inl (x23, ν20)))) : Option ((Int32 × MT) ⊕ (MT)))) LN (1, ν6)).bind (fun ν13 => some ν13)) else some μ)
def m_X4_takeSeam (Z : ZT) (this : Nat) (a0 : Nat) (μ : MT) : Option (Int32 × MT) :=
  (if (μ a0 1) < 6 then (m_X7_toNext Z (zr Z this 0) μ).bind fun ν2 => (m_X7_actHere Z (zr Z this 0) ν2).bind fun r4 => (loop (σ := Int32 × Int32 × Int32 × MT) (τ := Int32 × MT) (fun (y5, y6, y7, ν8) => ((if 40 < y7 then some (Sum.inr (y5, ν8)) else (if y5 = 0 then (if y6 = (-1) then some (Sum.inr (y5, ν8)) else (m_X4_takeAct Z this a0 y6 ν8).bind fun (r18, ν19) => (m_X7_actHere Z (zr Z this 0) ν19).bind fun r21 => (some (y7 + 1)).bind fun x22 => some (Sum.inl (r18, r21, x22, ν19))) else some (Sum.inr (y5, ν8)))) : Option ((Int32 × Int32 × Int32 × MT) ⊕ (Int32 × MT)))) LN (0, r4, 0, ν2)).bind (fun (y9, ν10) => (m_X3_endSeam Z a0 ν10).bind fun ν15 => (if y9 = 0 then (m_X4_takeSign Z this ν15).bind fun (r16, ν17) => some (r16, ν17) else some (y9, ν15))) else some (3, μ))
def m_X5_look (Z : ZT) (this : Nat) (a0 : Nat) (a1 : Nat) (μ : MT) : Option (MT) :=
  (if (μ this 4) = 0 then (some (u2 μ this 4 1)).bind fun ν1 => (some (u2 ν1 this 5 0)).bind fun ν2 => (ard Z (zr Z this 0) 0).bind fun q4 => (m_X2_begin Z q4 (ν2 a0 0) a1 ν2).bind fun ν6 => (m_X5_tryFrom Z 8 this a0 0 0 ν6).bind fun ν7 => some ν7 else some μ)
def m_X8_standByOrder (Z : ZT) (zn : Nat) (this : Nat) (μ : MT) : Option (Int32 × MT) :=
  (some (u2 μ this 13 1)).bind fun ν1 => (mrd Z zn 3 (ν1 this 11)).bind fun q3 => (m_X2_go Z (zr Z this 6) q3 (zr Z this 3) (zr Z this 4) (-1) ν1).bind fun ν7 => (m_X2_off Z (zr Z this 6) ν7).bind fun r9 => some (r9, ν7)
def m_X8_gives (Z : ZT) (zn : Nat) (this : Nat) (a0 : Int32) (μ : MT) : Option (Int32 × MT) :=
  (mrd Z zn 3 (μ this 11)).bind fun q1 => (m_X3_hasSeam Z q1 a0 μ).bind fun r3 => (if r3 = 0 then some ((-1000001), μ) else (mrd Z zn 3 (μ this 11)).bind fun q5 => (m_X2_go Z (zr Z this 7) q5 (zr Z this 3) (zr Z this 4) (-1) μ).bind fun ν9 => (m_X2_off Z (zr Z this 7) ν9).bind fun r11 => (mrd Z zn 3 (ν9 this 11)).bind fun q13 => (m_X2_go Z (zr Z this 7) q13 (zr Z this 3) (zr Z this 4) a0 ν9).bind fun ν17 => (m_X2_off Z (zr Z this 7) ν17).bind fun r19 => some (r11 - r19, ν17))
def m_X8_steelOf (Z : ZT) (zn : Nat) (this : Nat) (a0 : Int32) (a1 : Int32) (μ : MT) : Option (Int32) :=
  (loop (σ := Int32) (τ := (Int32) ⊕ (Unit)) (fun y1 => ((if 9 < y1 then some (Sum.inr (Sum.inr ())) else (m_X8_isSteel Z zn this a0 a1 y1 μ).bind fun r7 => (if r7 = 0 then (some (y1 + 1)).bind fun x8 => some (Sum.inl x8) else some (Sum.inr (Sum.inl y1)))) : Option ((Int32) ⊕ ((Int32) ⊕ (Unit))))) LN 1).bind (jn (fun (_ : Unit) => some (-1000000)))
def m_X9_readSeam (Z : ZT) (this : Nat) (μ : MT) : Option (MT) :=
  (((if (μ this 13) = 6 then (m_X9_bad Z this 3 μ).bind fun ν17 => some ν17 else some μ) : Option (MT))).bind (fun ν1 => (m_X9_must Z this 1 ν1).bind fun ν4 => (m_X9_kindOfWord Z this ν4).bind fun r5 => (loop (σ := Int32 × MT) (τ := MT) (fun (y6, ν7) => ((if (ν7 this 27) = 0 then (if y6 = (-1000000) then some (Sum.inr ν7) else (m_X9_readAct Z this y6 ν7).bind fun ν15 => (m_X9_kindOfWord Z this ν15).bind fun r16 => some (Sum.inl (r16, ν15))) else some (Sum.inr ν7)) : Option ((Int32 × MT) ⊕ (MT)))) LN (r5, ν4)).bind (fun ν8 => (m_X9_mustEnd Z this ν8).bind fun ν13 => (some (u2 ν13 this 13 ((ν13 this 13) + 1))).bind fun ν14 => some ν14))
def m_X9_doAct (Z : ZT) (this : Nat) (a0 : Int32) (μ : MT) : Option (MT) :=
  (ald Z μ (zr Z this 9) (4 * a0)).bind fun x2 => (ald Z μ (zr Z this 9) ((4 * a0) + 1)).bind fun x4 => (if x2 = 8 then (loop (σ := Int32 × MT) (τ := MT) (fun (y11, ν12) => ((if x4 ≤ y11 then some (Sum.inr ν12) else (m_X9_minute Z this ν12).bind fun ν18 => (some (y11 + 1)).bind fun x19 => some (Sum.inl (x19, ν18))) : Option ((Int32 × MT) ⊕ (MT)))) LN (0, μ)).bind (fun ν13 => some ν13) else (if x2 = 9 then (ast Z μ (zr Z this 34) x4 (vp_nar .boolean 1)).bind fun ν10 => some ν10 else (if x2 = 10 then (m_X9_free Z this x4 μ).bind fun ν8 => some ν8 else (ald Z μ (zr Z this 9) ((4 * a0) + 2)).bind fun x6 => (m_X9_step Z this x2 x4 x6 μ).bind fun ν7 => some ν7)))
def m_X4_readInto (Z : ZT) (this : Nat) (a0 : Nat) (μ : MT) : Option (Int32 × MT) :=
  (m_X3_clear Z a0 μ).bind fun ν1 => (m_X7_toFirst Z (zr Z this 0) ν1).bind fun ν3 => (m_X4_takePanel Z this a0 ν3).bind fun (r4, ν5) => (loop (σ := Int32 × Int32 × MT) (τ := Int32 × MT) (fun (y6, y7, ν8) => ((if 6 < y7 then some (Sum.inr (y6, ν8)) else (if y6 = 0 then (m_X7_atWord Z (zr Z this 0) 11 ν8).bind fun r32 => (if r32 = 0 then some (Sum.inr (y6, ν8)) else (m_X4_takeSeam Z this a0 ν8).bind fun (r33, ν34) => (some (y7 + 1)).bind fun x35 => some (Sum.inl (r33, x35, ν34))) else some (Sum.inr (y6, ν8)))) : Option ((Int32 × Int32 × MT) ⊕ (Int32 × MT)))) LN (r4, 0, ν5)).bind (fun (y9, ν10) => (loop (σ := Int32 × Int32 × MT) (τ := Int32 × MT) (fun (y15, y16, ν17) => ((if 10 < y16 then some (Sum.inr (y15, ν17)) else (if y15 = 0 then (m_X7_atWord Z (zr Z this 0) 12 ν17).bind fun r27 => (if r27 = 0 then some (Sum.inr (y15, ν17)) else (m_X4_takeBefore Z this a0 ν17).bind fun (r28, ν29) => (some (y16 + 1)).bind fun x30 => some (Sum.inl (r28, x30, ν29))) else some (Sum.inr (y15, ν17)))) : Option ((Int32 × Int32 × MT) ⊕ (Int32 × MT)))) LN (y9, 0, ν10)).bind (fun (y18, ν19) => (if y18 = 0 then (m_X7_atEnd Z (zr Z this 0) ν19).bind fun r25 => (if r25 = 0 then some (1, ν19) else some (y18, ν19)) else some (y18, ν19))))
def m_X8_run (Z : ZT) (zn : Nat) (this : Nat) (a0 : Int32) (a1 : Int32) (μ : MT) : Option (Int32 × MT) :=
  (m_X6_hasNumber Z (zr Z this 0) a0 μ).bind fun r2 => (if r2 = 0 then some ((-1000001), μ) else (mrd Z zn 3 (μ this 11)).bind fun q3 => (m_X3_isNone Z q3 μ).bind fun r5 => (if r5 = 0 then (mrd Z zn 3 (μ this 11)).bind fun q7 => (m_X6_findingAt Z (zr Z this 0) a0 a1 (μ q7 1) μ).bind fun r9 => (if r9 = 0 then (mrd Z zn 3 (μ this 11)).bind fun q11 => (m_X6_tellsOrder Z (zr Z this 0) a0 a1 (μ q11 1) μ).bind fun r13 => (if r13 = 0 then some ((-1000001), μ) else (loop (σ := Int32 × MT) (τ := MT) (fun (y14, ν15) => ((mrd Z zn 3 (ν15 this 11)).bind fun q25 => (if (ν15 q25 1) ≤ y14 then some (Sum.inr ν15) else (m_X6_itemAt Z (zr Z this 0) a0 (a1 + y14) ν15).bind fun r29 => (ast Z ν15 (zr Z this 4) y14 r29).bind fun ν30 => (some (y14 + 1)).bind fun x31 => some (Sum.inl (x31, ν30))) : Option ((Int32 × MT) ⊕ (MT)))) LN (0, μ)).bind (fun ν16 => (m_X8_standByOrder Z zn this ν16).bind fun (r21, ν22) => (m_X8_fine Z this r21 ν22).bind fun (r23, ν24) => some (r23, ν24))) else (m_X8_found Z this r9 μ).bind fun (r32, ν33) => some (r32, ν33)) else some ((-1000002), μ)))
def m_X8_runs (Z : ZT) (zn : Nat) (this : Nat) (μ : MT) : Option (Int32 × MT) :=
  (mrd Z zn 3 (μ this 11)).bind fun q1 => (m_X3_isNone Z q1 μ).bind fun r3 => (if r3 = 0 then (acp Z μ 1000 0 (zr Z this 4) 0 6).bind fun ν5 => (m_X8_standByOrder Z zn this ν5).bind fun (r6, ν7) => some (r6, ν7) else some ((-1000002), μ))
def m_X8_best (Z : ZT) (zn : Nat) (this : Nat) (a0 : Int32) (μ : MT) : Option (Int32 × MT) :=
  (if (-1) ≤ a0 then (mrd Z zn 3 (μ this 11)).bind fun q1 => (m_X3_isNone Z q1 μ).bind fun r3 => (if r3 = 0 then (mrd Z zn 3 (μ this 11)).bind fun q5 => (m_X5_look Z (zr Z this 8) q5 (zr Z this 3) μ).bind fun ν8 => (if (ν8 (zr Z this 8) 5) = 0 then some ((-1000000), ν8) else (if a0 = (-1) then some (ν8 (zr Z this 8) 6, ν8) else (mrd Z zn 3 (ν8 this 11)).bind fun q10 => (m_X3_hasSeam Z q10 a0 ν8).bind fun r12 => (if r12 = 0 then some ((-1000000), ν8) else (ald Z ν8 (zr Z (zr Z this 8) 2) a0).bind fun x15 => some (x15, ν8)))) else some ((-1000002), μ)) else some ((-1000001), μ))
def m_X8_beforehand (Z : ZT) (zn : Nat) (this : Nat) (a0 : Int32) (μ : MT) : Option (Int32 × MT) :=
  (mrd Z zn 3 (μ this 11)).bind fun q1 => (m_X3_hasCell Z q1 a0 μ).bind fun r3 => (if r3 = 0 then some ((-1000001), μ) else (mrd Z zn 3 (μ this 11)).bind fun q5 => (m_X1_look Z (zr Z this 9) q5 (zr Z this 7) μ).bind fun ν8 => (ald Z ν8 (zr Z (zr Z this 9) 0) a0).bind fun x11 => some (x11, ν8))
def m_X8_wire (Z : ZT) (zn : Nat) (this : Nat) (a0 : Int32) (a1 : Int32) (a2 : Int32) (μ : MT) : Option (Int32 × MT) :=
  (m_X6_hasNumber Z (zr Z this 0) a0 μ).bind fun r2 => (if r2 = 0 then some ((-1000001), μ) else (mrd Z zn 3 (μ this 11)).bind fun q3 => (m_X3_isNone Z q3 μ).bind fun r5 => (if r5 = 0 then (if a2 < (-1) then some ((-1000001), μ) else (mrd Z zn 3 (μ this 11)).bind fun q6 => (if a2 < (μ q6 0) then (mrd Z zn 3 (μ this 11)).bind fun q9 => (m_X6_findingAt Z (zr Z this 0) a0 a1 ((μ q9 0) + 1) μ).bind fun r11 => (if r11 = 0 then (mrd Z zn 3 (μ this 11)).bind fun q13 => (m_X6_allWithin Z (zr Z this 0) a0 a1 ((μ q13 0) + 1) 9999 μ).bind fun r15 => (if r15 = 0 then some ((-1000001), μ) else (((if a2 = (-1) then (m_X8_steelOf Z zn this a0 a1 μ).bind fun r22 => some r22 else (m_X8_wireBend Z this a0 a1 a2 μ).bind fun r21 => some r21) : Option (Int32))).bind (fun z16 => (m_X8_fine Z this z16 μ).bind fun (r19, ν20) => some (r19, ν20))) else (m_X8_found Z this r11 μ).bind fun (r23, ν24) => some (r23, ν24)) else some ((-1000001), μ))) else some ((-1000002), μ)))
def m_X9_plan (Z : ZT) (this : Nat) (μ : MT) : Option (Int32 × MT) :=
  (some (u2 μ this 0 0)).bind fun ν1 => (some (u2 ν1 this 22 (ν1 this 20))).bind fun ν2 => (some (u2 ν2 this 20 0)).bind fun ν3 => (some (u2 ν3 this 23 0)).bind fun ν4 => (some (u2 ν4 this 27 0)).bind fun ν5 => (some (u2 ν5 this 13 0)).bind fun ν6 => (some (u2 ν6 this 14 0)).bind fun ν7 => (some (u2 ν7 this 15 0)).bind fun ν8 => (m_X9_next Z this ν8).bind fun ν9 => (m_X9_word Z this ν9).bind fun r10 => (((if (lg_cmp r10 482670962028) = 0 then some 1 else some 0) : Option (Int32))).bind (fun z11 => (m_X9_must Z this z11 ν9).bind fun ν14 => (m_X9_numberIn Z this 4 12 (-1000000) ν14).bind fun (r15, ν16) => (some (u2 ν16 this 12 r15)).bind fun ν17 => (m_X9_mustEnd Z this ν17).bind fun ν18 => (loop (σ := MT) (τ := MT) (fun ν19 => ((m_X9_word Z this ν19).bind fun r88 => (if (lg_cmp r88 1936023917) = 0 then (m_X9_readSeam Z this ν19).bind fun ν89 => some (Sum.inl ν89) else some (Sum.inr ν19)) : Option ((MT) ⊕ (MT)))) LN ν18).bind (fun ν20 => (loop (σ := MT) (τ := MT) (fun ν25 => ((if (ν25 this 27) = 0 then (if (ν25 this 24) = 1 then some (Sum.inr ν25) else (m_X9_word Z this ν25).bind fun r85 => (if (lg_cmp r85 108187649798757) = 0 then (m_X9_readBefore Z this ν25).bind fun ν86 => some (Sum.inl ν86) else (m_X9_bad Z this 1 ν25).bind fun ν87 => some (Sum.inl ν87))) else some (Sum.inr ν25)) : Option ((MT) ⊕ (MT)))) LN ν20).bind (fun ν26 => (if (ν26 this 27) ≤ 0 then (some (u2 ν26 this 5 (ν26 this 12))).bind fun ν31 => (some (u2 ν31 this 6 (ν31 this 13))).bind fun ν32 => (some (u2 ν32 this 7 (ν32 this 14))).bind fun ν33 => (some (u2 ν33 this 8 (ν33 this 15))).bind fun ν34 => (loop (σ := Int32 × MT) (τ := MT) (fun (y35, ν36) => ((if 160 ≤ y35 then some (Sum.inr ν36) else (ald Z ν36 (zr Z this 16) y35).bind fun x81 => (ast Z ν36 (zr Z this 9) y35 x81).bind fun ν82 => (some (y35 + 1)).bind fun x83 => some (Sum.inl (x83, ν82))) : Option ((Int32 × MT) ⊕ (MT)))) LN (0, ν34)).bind (fun ν37 => (loop (σ := Int32 × MT) (τ := MT) (fun (y42, ν43) => ((if 10 ≤ y42 then some (Sum.inr ν43) else (ald Z ν43 (zr Z this 17) y42).bind fun x72 => (ast Z ν43 (zr Z this 10) y42 x72).bind fun ν73 => (ald Z ν73 (zr Z this 18) y42).bind fun x76 => (ast Z ν73 (zr Z this 11) y42 x76).bind fun ν77 => (some (y42 + 1)).bind fun x78 => some (Sum.inl (x78, ν77))) : Option ((Int32 × MT) ⊕ (MT)))) LN (0, ν37)).bind (fun ν44 => (loop (σ := Int32 × MT) (τ := MT) (fun (y49, ν50) => ((if 12 ≤ y49 then some (Sum.inr ν50) else (ast Z ν50 (zr Z this 29) y49 0).bind fun ν68 => (some (y49 + 1)).bind fun x69 => some (Sum.inl (x69, ν68))) : Option ((Int32 × MT) ⊕ (MT)))) LN (0, ν44)).bind (fun ν51 => (some (u2 ν51 this 31 0)).bind fun ν56 => (loop (σ := Int32 × MT) (τ := MT) (fun (y57, ν58) => ((if 6 ≤ y57 then some (Sum.inr ν58) else (ast Z ν58 (zr Z this 30) y57 y57).bind fun ν65 => (some (y57 + 1)).bind fun x66 => some (Sum.inl (x66, ν65))) : Option ((Int32 × MT) ⊕ (MT)))) LN (0, ν56)).bind (fun ν59 => some (ν59 this 7, ν59))))) else (some (u2 ν26 this 21 (ν26 this 27))).bind fun ν84 => some ((-1000100) - (ν84 this 28), ν84)))))
def m_X9_go (Z : ZT) (this : Nat) (a0 : Int32) (μ : MT) : Option (MT) :=
  (loop (σ := Int32 × MT) (τ := MT) (fun (y1, ν2) => ((if 48 ≤ y1 then some (Sum.inr ν2) else (m_X9_in Z ((y1 : Int32).toInt64) 24 35 ν2).bind fun r45 => (((if r45 = 0 then some 0 else (ald Z ν2 (zr Z this 38) (y1 - 24)).bind fun x58 => some x58) : Option (Int32))).bind (fun z46 => (ast Z ν2 (zr Z this 32) y1 z46).bind fun ν49 => (irm y1 12).bind fun x51 => (ast Z ν49 (zr Z this 33) x51 0).bind fun ν52 => (irm y1 12).bind fun x54 => (ast Z ν52 (zr Z this 34) x54 (vp_nar .boolean 0)).bind fun ν55 => (some (y1 + 1)).bind fun x56 => some (Sum.inl (x56, ν55)))) : Option ((Int32 × MT) ⊕ (MT)))) LN (0, μ)).bind (fun ν3 => (some (u2 ν3 this 35 0)).bind fun ν8 => (loop (σ := Int32 × MT) (τ := MT) (fun (y9, ν10) => ((if (ν10 this 6) ≤ y9 then some (Sum.inr ν10) else (loop (σ := Int32 × MT) (τ := MT) (fun (y25, ν26) => ((if (ν26 this 7) ≤ y25 then some (Sum.inr ν26) else (ald Z ν26 (zr Z this 9) ((4 * y25) + 3)).bind fun x34 => (ald Z ν26 (zr Z this 39) y9).bind fun x36 => (((if x34 = x36 then (ald Z ν26 (zr Z this 39) y9).bind fun x42 => (if x42 = a0 then some ν26 else (m_X9_doAct Z this y25 ν26).bind fun ν43 => some ν43) else some ν26) : Option (MT))).bind (fun ν37 => (some (y25 + 1)).bind fun x40 => some (Sum.inl (x40, ν37)))) : Option ((Int32 × MT) ⊕ (MT)))) LN (0, ν10)).bind (fun ν27 => (some (y9 + 1)).bind fun x32 => some (Sum.inl (x32, ν27)))) : Option ((Int32 × MT) ⊕ (MT)))) LN (0, ν8)).bind (fun ν11 => (loop (σ := Int32 × MT) (τ := MT) (fun (y16, ν17) => ((if (ν17 this 5) ≤ y16 then some (Sum.inr ν17) else (m_X9_free Z this y16 ν17).bind fun ν23 => (some (y16 + 1)).bind fun x24 => some (Sum.inl (x24, ν23))) : Option ((Int32 × MT) ⊕ (MT)))) LN (0, ν11)).bind (fun ν18 => some ν18)))
def m_X8_plan (Z : ZT) (zn : Nat) (this : Nat) (μ : MT) : Option (Int32 × MT) :=
  (mrd Z zn 3 (μ this 12)).bind fun q2 => (m_X4_readInto Z (zr Z this 2) q2 μ).bind fun (r4, ν5) => (m_X7_tokenPlace Z (zr Z this 1) ν5).bind fun r7 => (m_X7_empty Z (zr Z this 1) ν5).bind fun ν9 => (if r4 = 0 then (mrd Z zn 3 (ν9 this 11)).bind fun q10 => (mrd Z zn 3 (ν9 this 12)).bind fun q12 => (some (u2 ν9 this 11 (Int32.ofNat q12))).bind fun ν14 => (some (u2 ν14 this 12 (Int32.ofNat q10))).bind fun ν15 => (m_X8_beginPlan Z zn this ν15).bind fun ν16 => (mrd Z zn 3 (ν16 this 11)).bind fun q17 => some (ν16 q17 2, ν16) else (some (u2 ν9 this 14 r4)).bind fun ν19 => some ((-1000100) - r7, ν19))
def m_X9_run (Z : ZT) (this : Nat) (a0 : Int32) (a1 : Int32) (μ : MT) : Option (Int32 × MT) :=
  (some (u2 μ this 0 0)).bind fun ν1 => (m_X9_isSheet Z a0 ν1).bind fun r2 => (if r2 = 0 then some ((-1000001), ν1) else (if (ν1 this 5) = 0 then some ((-1000002), ν1) else (ald Z ν1 (zr Z this 2) a0).bind fun x4 => (if 0 ≤ x4 then (((if a1 < 0 then some (Sum.inr ν1) else (ald Z ν1 (zr Z this 3) a0).bind fun x12 => (if (lg_cmp (((a1 : Int32).toInt64) + ((ν1 this 6 : Int32).toInt64)) ((x12 : Int32).toInt64)) ≤ 0 then (loop (σ := Int32 × Int32) (τ := ((Int32 × MT) ⊕ (MT)) ⊕ (Unit)) (fun (y13, y14) => ((if (ν1 this 6) ≤ y14 then some (Sum.inr (Sum.inr ())) else (ald Z ν1 (zr Z this 4) (((40 * a0) + a1) + y14)).bind fun x41 => (m_X9_in Z ((x41 : Int32).toInt64) 0 (((ν1 this 6) - 1 : Int32).toInt64) ν1).bind fun r42 => (if r42 = 0 then some (Sum.inr (Sum.inl (Sum.inl ((-1000001), ν1)))) else (if ((y13 >>> (x41 &&& 31)) &&& 1) = 1 then some (Sum.inr (Sum.inl (Sum.inl ((-1000001), ν1)))) else (some (y13 ||| (1 <<< (x41 &&& 31)))).bind fun x43 => (some (y14 + 1)).bind fun x44 => some (Sum.inl (x43, x44))))) : Option ((Int32 × Int32) ⊕ (((Int32 × MT) ⊕ (MT)) ⊕ (Unit))))) LN (0, 0)).bind (jn (fun (_ : Unit) => (some (u2 ν1 this 1 0)).bind fun ν20 => (loop (σ := Int32 × MT) (τ := MT) (fun (y21, ν22) => ((if 6 ≤ y21 then some (Sum.inr ν22) else (((if (ν22 this 6) ≤ y21 then some y21 else (ald Z ν22 (zr Z this 4) (((40 * a0) + a1) + y21)).bind fun x39 => some x39) : Option (Int32))).bind (fun z33 => (ast Z ν22 (zr Z this 39) y21 z33).bind fun ν36 => (some (y21 + 1)).bind fun x37 => some (Sum.inl (x37, ν36)))) : Option ((Int32 × MT) ⊕ (MT)))) LN (0, ν20)).bind (fun ν23 => (m_X9_layOpened Z this ν23).bind fun ν28 => (m_X9_go Z this (-1000000) ν28).bind fun ν29 => (m_X9_stand Z this ν29).bind fun ν30 => (m_X9_offBy Z this ν30).bind fun r31 => some (Sum.inl (r31, ν30))))) else some (Sum.inr ν1))) : Option ((Int32 × MT) ⊕ (MT)))).bind (jn (fun ν5 => (m_X9_finding Z this 2 ν5).bind fun (r9, ν10) => some (r9, ν10))) else (m_X9_finding Z this 1 ν1).bind fun (r45, ν46) => some (r45, ν46))))
def m_X9_runs (Z : ZT) (this : Nat) (μ : MT) : Option (Int32 × MT) :=
  (some (u2 μ this 0 0)).bind fun ν1 => (if (ν1 this 5) = 0 then some ((-1000002), ν1) else (m_X9_layNumbers Z this ν1).bind fun ν2 => (m_X9_layOpened Z this ν2).bind fun ν3 => (m_X9_go Z this (-1000000) ν3).bind fun ν4 => (m_X9_stand Z this ν4).bind fun ν5 => (m_X9_offBy Z this ν5).bind fun r6 => some (r6, ν5))
def m_X9_gives (Z : ZT) (this : Nat) (a0 : Int32) (μ : MT) : Option (Int32 × MT) :=
  (some (u2 μ this 0 0)).bind fun ν1 => (m_X9_in Z ((a0 : Int32).toInt64) 0 (((ν1 this 6) - 1 : Int32).toInt64) ν1).bind fun r2 => (if r2 = 0 then some ((-1000001), ν1) else (loop (σ := Int32 × MT) (τ := MT) (fun (y3, ν4) => ((if 6 ≤ y3 then some (Sum.inr ν4) else (ald Z ν4 (zr Z this 30) y3).bind fun x17 => (ast Z ν4 (zr Z this 39) y3 x17).bind fun ν18 => (some (y3 + 1)).bind fun x19 => some (Sum.inl (x19, ν18))) : Option ((Int32 × MT) ⊕ (MT)))) LN (0, ν1)).bind (fun ν5 => (m_X9_layOpened Z this ν5).bind fun ν10 => (m_X9_go Z this (-1000000) ν10).bind fun ν11 => (m_X9_offBy Z this ν11).bind fun r12 => (m_X9_go Z this a0 ν11).bind fun ν13 => (m_X9_offBy Z this ν13).bind fun r14 => some (r12 - r14, ν13)))
def m_X9_best (Z : ZT) (this : Nat) (a0 : Int32) (μ : MT) : Option (Int32 × MT) :=
  (some (u2 μ this 0 0)).bind fun ν1 => (if (-1) ≤ a0 then (if (ν1 this 5) = 0 then some ((-1000002), ν1) else (m_X9_layNumbers Z this ν1).bind fun ν2 => (m_X9_layOpened Z this ν2).bind fun ν3 => (loop (σ := Int32 × Int32 × MT) (τ := Int32 × MT) (fun (y4, y5, ν6) => ((if y5 = 0 then some (Sum.inr (y4, ν6)) else (m_X9_fits Z this ν6).bind fun r18 => (((if r18 = 0 then some (y4, ν6) else (m_X9_go Z this (-1000000) ν6).bind fun ν25 => (m_X9_offBy Z this ν25).bind fun r26 => (((if y4 = (-1000000) then some (Sum.inr ()) else (if y4 ≤ r26 then some (Sum.inl (y4, ν25)) else some (Sum.inr ()))) : Option ((Int32 × MT) ⊕ (Unit)))).bind (jn (fun (_ : Unit) => (loop (σ := Int32 × MT) (τ := MT) (fun (y30, ν31) => ((if 6 ≤ y30 then some (Sum.inr ν31) else (ald Z ν31 (zr Z this 39) y30).bind fun x39 => (ast Z ν31 (zr Z this 40) y30 x39).bind fun ν40 => (some (y30 + 1)).bind fun x41 => some (Sum.inl (x41, ν40))) : Option ((Int32 × MT) ⊕ (MT)))) LN (0, ν25)).bind (fun ν32 => some (r26, ν32))))) : Option (Int32 × MT))).bind (fun (y19, ν20) => (m_X9_nextOrder Z this ν20).bind fun (r23, ν24) => some (Sum.inl (y19, r23, ν24)))) : Option ((Int32 × Int32 × MT) ⊕ (Int32 × MT)))) LN ((-1000000), 1, ν3)).bind (fun (y7, ν8) => (if a0 = (-1) then some (y7, ν8) else (((if y7 = (-1000000) then some (Sum.inr ()) else (if a0 < (ν8 this 6) then (ald Z ν8 (zr Z this 40) a0).bind fun x17 => some (Sum.inl (x17, ν8)) else some (Sum.inr ()))) : Option ((Int32 × MT) ⊕ (Unit)))).bind (jn (fun (_ : Unit) => some ((-1000000), ν8)))))) else some ((-1000001), ν1))
def m_X9_setBy (Z : ZT) (this : Nat) (a0 : Int32) (μ : MT) : Option (Int32 × MT) :=
  (loop (σ := Int32 × MT) (τ := (Int32 × MT) ⊕ (MT)) (fun (y1, ν2) => ((if 41 ≤ y1 then some (Sum.inr (Sum.inr ν2)) else (loop (σ := Int32 × MT) (τ := ((Int32 × MT) ⊕ ((Int32 × MT) ⊕ (MT))) ⊕ (MT)) (fun (y9, ν10) => ((if 2 ≤ y9 then some (Sum.inr (Sum.inr ν10)) else (ast Z ν10 (zr Z this 38) a0 (y9 * y1)).bind fun ν19 => (m_X9_go Z this (-1000000) ν19).bind fun ν20 => (ald Z ν20 (zr Z this 32) (24 + a0)).bind fun x22 => (if x22 = 0 then some (Sum.inr (Sum.inl (Sum.inr (Sum.inl (y9 * y1, ν20))))) else (some (y9 + 2)).bind fun x23 => some (Sum.inl (x23, ν20)))) : Option ((Int32 × MT) ⊕ (((Int32 × MT) ⊕ ((Int32 × MT) ⊕ (MT))) ⊕ (MT))))) LN ((-1), ν2)).bind (jn (fun ν11 => (some (y1 + 1)).bind fun x17 => some (Sum.inl (x17, ν11))))) : Option ((Int32 × MT) ⊕ ((Int32 × MT) ⊕ (MT))))) LN (0, μ)).bind (jn (fun ν3 => some ((-1000000), ν3)))
def m_X9_beforehand (Z : ZT) (this : Nat) (a0 : Int32) (μ : MT) : Option (Int32 × MT) :=
  (some (u2 μ this 0 0)).bind fun ν1 => (m_X9_isCell Z this a0 ν1).bind fun r2 => (if r2 = 0 then some ((-1000001), ν1) else (m_X9_layNumbers Z this ν1).bind fun ν3 => (m_X9_layOpened Z this ν3).bind fun ν4 => (loop (σ := Int32 × Int32 × MT) (τ := Int32 × MT) (fun (y5, y6, ν7) => ((if a0 < y6 then some (Sum.inr (y5, ν7)) else (if y5 = (-1000000) then some (Sum.inr (y5, ν7)) else (m_X9_setBy Z this y6 ν7).bind fun (r14, ν15) => (some (y6 + 1)).bind fun x16 => some (Sum.inl (r14, x16, ν15)))) : Option ((Int32 × Int32 × MT) ⊕ (Int32 × MT)))) LN (0, 0, ν4)).bind (fun (y8, ν9) => some (y8, ν9)))
def m_X0_asked (gv : Nat → Nat → Int32 → Int32 → Int32 → MT → Option (Int32 × MT)) (Z : ZT) (this : Nat) (a0 : Nat) (a1 : Int32) (a2 : Int32) (a3 : Int32) (μ : MT) : Option (Int32 × MT) :=
  (m_X3_stepKind Z a0 a1 μ).bind fun r1 => (m_X0_bodyFor Z r1 a2 μ).bind fun r2 => (gv this a0 a1 r2 (a3 + 1) μ).bind fun (r3, ν4) => some (r3, ν4)
def m_X0_given (Z : ZT) : Nat → Nat → Nat → Int32 → Int32 → Int32 → MT → Option (Int32 × MT)
  | 0, _, _, _, _, _, _ => none
  | n + 1, this, a0, a1, a2, a3, μ => (if a3 ≤ 16 then (m_X0_leave Z this a2 μ).bind fun ν1 => (if a2 = 10 then (ald Z ν1 (zr Z a0 6) a1).bind fun x4 => some (x4, ν1) else if a2 = 11 then (m_X0_given Z n this a0 a1 10 (a3 + 1) ν1).bind fun (r6, ν7) => (m_X0_asked (m_X0_given Z n) Z this a0 a1 1 (a3 + 1) ν7).bind fun (r8, ν9) => some (r6 + r8, ν9) else if a2 = 12 then (m_X0_given Z n this a0 a1 11 (a3 + 1) ν1).bind fun (r11, ν12) => some (r11 - 1, ν12) else if a2 = 13 then (m_X0_given Z n this a0 a1 12 (a3 + 1) ν1).bind fun (r14, ν15) => some (2 * r14, ν15) else if a2 = 14 then (m_X0_given Z n this a0 a1 10 (a3 + 1) ν1).bind fun (r17, ν18) => some (-r17, ν18) else if a2 = 20 then some (a1, ν1) else if a2 = 21 then (m_X0_given Z n this a0 a1 20 (a3 + 1) ν1).bind fun (r21, ν22) => some (r21 + 100, ν22) else if a2 = 22 then (m_X0_given Z n this a0 a1 20 (a3 + 1) ν1).bind fun (r24, ν25) => some (-r24, ν25) else if a2 = 23 then (m_X0_given Z n this a0 a1 20 (a3 + 1) ν1).bind fun (r27, ν28) => (m_X0_asked (m_X0_given Z n) Z this a0 a1 0 (a3 + 1) ν28).bind fun (r29, ν30) => some (r27 + r29, ν30) else some (0, ν1)) else some (0, μ))
def m_X0_answerOf (Z : ZT) (this : Nat) (a0 : Nat) (a1 : Int32) (a2 : Int32) (μ : MT) : Option (Int32 × MT) :=
  (some (u2 μ this 1 0)).bind fun ν1 => (m_X0_asked (m_X0_given Z 20) Z this a0 a1 a2 0 ν1).bind fun (r2, ν3) => some (r2, ν3)
def m_X8_ask (Z : ZT) (zn : Nat) (this : Nat) (a0 : Int32) (a1 : Int32) (μ : MT) : Option (Int32 × MT) :=
  (mrd Z zn 3 (μ this 11)).bind fun q1 => (m_X3_isStep Z q1 a0 μ).bind fun r3 => (if r3 = 0 then some ((-1000001), μ) else (((if a1 = 0 then some (Sum.inr ()) else (if a1 = 1 then some (Sum.inr ()) else some (Sum.inl ((-1000001), μ)))) : Option ((Int32 × MT) ⊕ (Unit)))).bind (jn (fun (_ : Unit) => (mrd Z zn 3 (μ this 11)).bind fun q8 => (m_X0_answerOf Z (zr Z this 10) q8 a0 a1 μ).bind fun (r10, ν11) => some (r10, ν11))))
def scl (ss : Nat → Int32) (L : Nat) (i : Int32) : Option Int32 := if inb i L then some (ss i.toNatClampNeg) else none
/-- the memory before anything is made -/
def Zst : ZT := (fun k => if 1000 ≤ k ∧ k < 1004 then 20 else 99, fun k => (roT.getD (k - 1000) []).length, fun _ _ => 999)
def μst : MT := fun k j => roR (k - 1000) j
def σst : NS := (0, Zst, μst)
abbrev Zf : ZT := (c_L_law σst).2.1
abbrev μf : MT := (c_L_law σst).2.2
def lawB (ss : Nat → Int32) (L : Nat) : Int32 × MT → Option ((Int32 × MT) ⊕ ((Int32 × MT) ⊕ MT)) := (fun (y1, ν2) => ((if ((Int32.ofNat L) - 6) < y1 then some (Sum.inr (Sum.inr ν2)) else (scl ss L y1).bind fun x9 => (((if (x9 &&& 31) = 0 then (scl ss L (y1 + 1)).bind fun x16 => (scl ss L (y1 + 2)).bind fun x17 => (scl ss L (y1 + 3)).bind fun x18 => (m_X8_sheet Zf 0 x16 x17 x18 ν2).bind fun (r19, ν20) => (scl ss L (y1 + 1)).bind fun x21 => (scl ss L (y1 + 2)).bind fun x22 => (scl ss L (y1 + 3)).bind fun x23 => (m_X9_sheet Zf 106 x21 x22 x23 ν20).bind fun (r24, ν25) => (if r19 = r24 then some (Sum.inr ν25) else some (Sum.inl (Sum.inr (Sum.inl (0, ν25))))) else if (x9 &&& 31) = 1 then (scl ss L (y1 + 1)).bind fun x27 => (scl ss L (y1 + 2)).bind fun x28 => (scl ss L (y1 + 3)).bind fun x29 => (m_X8_set Zf 0 x27 x28 x29 ν2).bind fun (r30, ν31) => (scl ss L (y1 + 1)).bind fun x32 => (scl ss L (y1 + 2)).bind fun x33 => (scl ss L (y1 + 3)).bind fun x34 => (m_X9_set Zf 106 x32 x33 x34 ν31).bind fun (r35, ν36) => (if r30 = r35 then some (Sum.inr ν36) else some (Sum.inl (Sum.inr (Sum.inl (0, ν36))))) else if (x9 &&& 31) = 2 then (scl ss L (y1 + 1)).bind fun x38 => (scl ss L (y1 + 2)).bind fun x39 => (scl ss L (y1 + 3)).bind fun x40 => (scl ss L (y1 + 4)).bind fun x41 => (scl ss L (y1 + 5)).bind fun x42 => (m_X8_copy Zf 0 x38 x39 x40 x41 x42 ν2).bind fun (r43, ν44) => (scl ss L (y1 + 1)).bind fun x45 => (scl ss L (y1 + 2)).bind fun x46 => (scl ss L (y1 + 3)).bind fun x47 => (scl ss L (y1 + 4)).bind fun x48 => (scl ss L (y1 + 5)).bind fun x49 => (m_X9_copy Zf 106 x45 x46 x47 x48 x49 ν44).bind fun (r50, ν51) => (if r43 = r50 then some (Sum.inr ν51) else some (Sum.inl (Sum.inr (Sum.inl (0, ν51))))) else if (x9 &&& 31) = 3 then (scl ss L (y1 + 1)).bind fun x53 => (m_X8_drop Zf 0 x53 ν2).bind fun (r54, ν55) => (scl ss L (y1 + 1)).bind fun x56 => (m_X9_drop Zf 106 x56 ν55).bind fun (r57, ν58) => (if r54 = r57 then some (Sum.inr ν58) else some (Sum.inl (Sum.inr (Sum.inl (0, ν58))))) else if (x9 &&& 31) = 4 then (scl ss L (y1 + 1)).bind fun x60 => (scl ss L (y1 + 2)).bind fun x61 => (scl ss L (y1 + 3)).bind fun x62 => (m_X8_feed Zf 0 ((((x60 : Int32).toInt64) <<< ((32 : Int32).toInt64 &&& 63)) ||| (((x61 : Int32).toInt64) &&& 4294967295)) x62 ν2).bind fun (r63, ν64) => (scl ss L (y1 + 1)).bind fun x65 => (scl ss L (y1 + 2)).bind fun x66 => (scl ss L (y1 + 3)).bind fun x67 => (m_X9_feed Zf 106 ((((x65 : Int32).toInt64) <<< ((32 : Int32).toInt64 &&& 63)) ||| (((x66 : Int32).toInt64) &&& 4294967295)) x67 ν64).bind fun (r68, ν69) => (if r63 = r68 then some (Sum.inr ν69) else some (Sum.inl (Sum.inr (Sum.inl (0, ν69))))) else if (x9 &&& 31) = 5 then (m_X8_plan Zf 127 0 ν2).bind fun (r71, ν72) => (m_X9_plan Zf 106 ν72).bind fun (r73, ν74) => (if r71 = r73 then some (Sum.inr ν74) else some (Sum.inl (Sum.inr (Sum.inl (0, ν74))))) else if (x9 &&& 31) = 6 then (m_X8_fault Zf 0 ν2).bind fun r76 => (m_X9_fault Zf 106 ν2).bind fun (r77, ν78) => (if r76 = r77 then some (Sum.inr ν78) else some (Sum.inl (Sum.inr (Sum.inl (0, ν78))))) else if (x9 &&& 31) = 7 then (scl ss L (y1 + 1)).bind fun x80 => (scl ss L (y1 + 2)).bind fun x81 => (m_X8_act Zf 127 0 x80 x81 ν2).bind fun r82 => (scl ss L (y1 + 1)).bind fun x83 => (scl ss L (y1 + 2)).bind fun x84 => (m_X9_act Zf 106 x83 x84 ν2).bind fun (r85, ν86) => (if r82 = r85 then some (Sum.inr ν86) else some (Sum.inl (Sum.inr (Sum.inl (0, ν86))))) else if (x9 &&& 31) = 8 then (scl ss L (y1 + 1)).bind fun x88 => (scl ss L (y1 + 2)).bind fun x89 => (m_X8_open Zf 127 0 x88 x89 ν2).bind fun (r90, ν91) => (scl ss L (y1 + 1)).bind fun x92 => (scl ss L (y1 + 2)).bind fun x93 => (m_X9_open Zf 106 x92 x93 ν91).bind fun (r94, ν95) => (if r90 = r94 then some (Sum.inr ν95) else some (Sum.inl (Sum.inr (Sum.inl (0, ν95))))) else if (x9 &&& 31) = 9 then (scl ss L (y1 + 1)).bind fun x97 => (scl ss L (y1 + 2)).bind fun x98 => (m_X8_run Zf 127 0 x97 x98 ν2).bind fun (r99, ν100) => (scl ss L (y1 + 1)).bind fun x101 => (scl ss L (y1 + 2)).bind fun x102 => (m_X9_run Zf 106 x101 x102 ν100).bind fun (r103, ν104) => (if r99 = r103 then some (Sum.inr ν104) else some (Sum.inl (Sum.inr (Sum.inl (0, ν104))))) else if (x9 &&& 31) = 10 then (m_X8_runs Zf 127 0 ν2).bind fun (r106, ν107) => (m_X9_runs Zf 106 ν107).bind fun (r108, ν109) => (if r106 = r108 then some (Sum.inr ν109) else some (Sum.inl (Sum.inr (Sum.inl (0, ν109))))) else if (x9 &&& 31) = 11 then (scl ss L (y1 + 1)).bind fun x111 => (scl ss L (y1 + 2)).bind fun x112 => (m_X8_cell Zf 127 0 x111 x112 ν2).bind fun (r113, ν114) => (scl ss L (y1 + 1)).bind fun x115 => (scl ss L (y1 + 2)).bind fun x116 => (m_X9_cell Zf 106 x115 x116 ν114).bind fun (r117, ν118) => (if r113 = r117 then some (Sum.inr ν118) else some (Sum.inl (Sum.inr (Sum.inl (0, ν118))))) else if (x9 &&& 31) = 12 then (scl ss L (y1 + 1)).bind fun x120 => (m_X8_height Zf 127 0 x120 ν2).bind fun r121 => (scl ss L (y1 + 1)).bind fun x122 => (m_X9_height Zf 106 x122 ν2).bind fun (r123, ν124) => (if r121 = r123 then some (Sum.inr ν124) else some (Sum.inl (Sum.inr (Sum.inl (0, ν124))))) else if (x9 &&& 31) = 13 then (m_X8_minutes Zf 0 ν2).bind fun r126 => (m_X9_minutes Zf 106 ν2).bind fun (r127, ν128) => (if r126 = r127 then some (Sum.inr ν128) else some (Sum.inl (Sum.inr (Sum.inl (0, ν128))))) else if (x9 &&& 31) = 14 then (scl ss L (y1 + 1)).bind fun x130 => (m_X8_gives Zf 127 0 x130 ν2).bind fun (r131, ν132) => (scl ss L (y1 + 1)).bind fun x133 => (m_X9_gives Zf 106 x133 ν132).bind fun (r134, ν135) => (if r131 = r134 then some (Sum.inr ν135) else some (Sum.inl (Sum.inr (Sum.inl (0, ν135))))) else if (x9 &&& 31) = 15 then (scl ss L (y1 + 1)).bind fun x137 => (m_X8_best Zf 127 0 x137 ν2).bind fun (r138, ν139) => (scl ss L (y1 + 1)).bind fun x140 => (m_X9_best Zf 106 x140 ν139).bind fun (r141, ν142) => (if r138 = r141 then some (Sum.inr ν142) else some (Sum.inl (Sum.inr (Sum.inl (0, ν142))))) else if (x9 &&& 31) = 16 then (m_X8_orders Zf 127 0 ν2).bind fun (r144, ν145) => (m_X9_orders Zf 106 ν145).bind fun (r146, ν147) => (if r144 = r146 then some (Sum.inr ν147) else some (Sum.inl (Sum.inr (Sum.inl (0, ν147))))) else if (x9 &&& 31) = 17 then (scl ss L (y1 + 1)).bind fun x149 => (m_X8_beforehand Zf 127 0 x149 ν2).bind fun (r150, ν151) => (scl ss L (y1 + 1)).bind fun x152 => (m_X9_beforehand Zf 106 x152 ν151).bind fun (r153, ν154) => (if r150 = r153 then some (Sum.inr ν154) else some (Sum.inl (Sum.inr (Sum.inl (0, ν154))))) else if (x9 &&& 31) = 18 then (scl ss L (y1 + 1)).bind fun x156 => (scl ss L (y1 + 2)).bind fun x157 => (m_X8_spots Zf 127 0 x156 x157 ν2).bind fun (r158, ν159) => (scl ss L (y1 + 1)).bind fun x160 => (scl ss L (y1 + 2)).bind fun x161 => (m_X9_spots Zf 106 x160 x161 ν159).bind fun (r162, ν163) => (if r158 = r162 then some (Sum.inr ν163) else some (Sum.inl (Sum.inr (Sum.inl (0, ν163))))) else if (x9 &&& 31) = 19 then (scl ss L (y1 + 1)).bind fun x165 => (m_X8_crack Zf 0 x165 ν2).bind fun r166 => (scl ss L (y1 + 1)).bind fun x167 => (m_X9_crack Zf 106 x167 ν2).bind fun (r168, ν169) => (if r166 = r168 then some (Sum.inr ν169) else some (Sum.inl (Sum.inr (Sum.inl (0, ν169))))) else if (x9 &&& 31) = 20 then (m_X8_warm Zf 127 0 ν2).bind fun r171 => (m_X9_warm Zf 106 ν2).bind fun (r172, ν173) => (if r171 = r172 then some (Sum.inr ν173) else some (Sum.inl (Sum.inr (Sum.inl (0, ν173))))) else if (x9 &&& 31) = 21 then (scl ss L (y1 + 1)).bind fun x175 => (scl ss L (y1 + 2)).bind fun x176 => (scl ss L (y1 + 3)).bind fun x177 => (m_X8_wire Zf 127 0 x175 x176 x177 ν2).bind fun (r178, ν179) => (scl ss L (y1 + 1)).bind fun x180 => (scl ss L (y1 + 2)).bind fun x181 => (scl ss L (y1 + 3)).bind fun x182 => (m_X9_wire Zf 106 x180 x181 x182 ν179).bind fun (r183, ν184) => (if r178 = r183 then some (Sum.inr ν184) else some (Sum.inl (Sum.inr (Sum.inl (0, ν184))))) else if (x9 &&& 31) = 22 then (scl ss L (y1 + 1)).bind fun x186 => (m_X8_kind Zf 127 0 x186 ν2).bind fun r187 => (scl ss L (y1 + 1)).bind fun x188 => (m_X9_kind Zf 106 x188 ν2).bind fun (r189, ν190) => (if r187 = r189 then some (Sum.inr ν190) else some (Sum.inl (Sum.inr (Sum.inl (0, ν190))))) else if (x9 &&& 31) = 23 then (scl ss L (y1 + 1)).bind fun x192 => (scl ss L (y1 + 2)).bind fun x193 => (m_X8_as Zf 127 0 x192 x193 ν2).bind fun (r194, ν195) => (scl ss L (y1 + 1)).bind fun x196 => (scl ss L (y1 + 2)).bind fun x197 => (m_X9_as Zf 106 x196 x197 ν195).bind fun (r198, ν199) => (if r194 = r198 then some (Sum.inr ν199) else some (Sum.inl (Sum.inr (Sum.inl (0, ν199))))) else if (x9 &&& 31) = 24 then (scl ss L (y1 + 1)).bind fun x201 => (scl ss L (y1 + 2)).bind fun x202 => (m_X8_ask Zf 127 0 x201 x202 ν2).bind fun (r203, ν204) => (scl ss L (y1 + 1)).bind fun x205 => (scl ss L (y1 + 2)).bind fun x206 => (m_X9_ask Zf 106 x205 x206 ν204).bind fun (r207, ν208) => (if r203 = r207 then some (Sum.inr ν208) else some (Sum.inl (Sum.inr (Sum.inl (0, ν208))))) else if (x9 &&& 31) = 25 then (scl ss L (y1 + 1)).bind fun x210 => (m_X8_trace Zf 0 x210 ν2).bind fun r211 => (scl ss L (y1 + 1)).bind fun x212 => (m_X9_trace Zf 106 x212 ν2).bind fun (r213, ν214) => (if r211 = r213 then some (Sum.inr ν214) else some (Sum.inl (Sum.inr (Sum.inl (0, ν214))))) else if (x9 &&& 31) = 26 then (scl ss L (y1 + 1)).bind fun x216 => (m_X8_count Zf 127 0 x216 ν2).bind fun r217 => (scl ss L (y1 + 1)).bind fun x218 => (m_X9_count Zf 106 x218 ν2).bind fun (r219, ν220) => (if r217 = r219 then some (Sum.inr ν220) else some (Sum.inl (Sum.inr (Sum.inl (0, ν220))))) else if (x9 &&& 31) = 27 then (m_X8_status Zf 0 ν2).bind fun r222 => (m_X9_status Zf 106 ν2).bind fun (r223, ν224) => (if r222 = r223 then some (Sum.inr ν224) else some (Sum.inl (Sum.inr (Sum.inl (0, ν224))))) else some (Sum.inr ν2)) : Option (((Int32 × MT) ⊕ ((Int32 × MT) ⊕ (MT))) ⊕ (MT)))).bind (jn (fun ν10 => (some (y1 + 6)).bind fun x14 => some (Sum.inl (x14, ν10))))) : Option ((Int32 × MT) ⊕ ((Int32 × MT) ⊕ (MT)))))
def OkI (Inv : MT → Prop) (c : Option (Int32 × MT)) (r : MT → Option (Int32 × MT)) : Prop := ∃ a μ1 μ2, c = some (a, μ1) ∧ r μ1 = some (a, μ2) ∧ Inv μ2
def OkR (Inv : MT → Prop) (c : Option Int32) (r : Option (Int32 × MT)) : Prop := ∃ a μ2, c = some a ∧ r = some (a, μ2) ∧ Inv μ2
/-- every call answers alike and keeps the invariant -/
def Ops (Inv : MT → Prop) : Prop := ∀ ν, Inv ν → (∀ a0 a1 a2 : Int32, OkI Inv (m_X8_sheet Zf 0 a0 a1 a2 ν) (fun μ => m_X9_sheet Zf 106 a0 a1 a2 μ)) ∧ (∀ a0 a1 a2 : Int32, OkI Inv (m_X8_set Zf 0 a0 a1 a2 ν) (fun μ => m_X9_set Zf 106 a0 a1 a2 μ)) ∧ (∀ a0 a1 a2 a3 a4 : Int32, OkI Inv (m_X8_copy Zf 0 a0 a1 a2 a3 a4 ν) (fun μ => m_X9_copy Zf 106 a0 a1 a2 a3 a4 μ)) ∧ (∀ a0 : Int32, OkI Inv (m_X8_drop Zf 0 a0 ν) (fun μ => m_X9_drop Zf 106 a0 μ)) ∧ (∀ a0 a1 a2 : Int32, OkI Inv (m_X8_feed Zf 0 ((((a0 : Int32).toInt64) <<< ((32 : Int32).toInt64 &&& 63)) ||| (((a1 : Int32).toInt64) &&& 4294967295)) a2 ν) (fun μ => m_X9_feed Zf 106 ((((a0 : Int32).toInt64) <<< ((32 : Int32).toInt64 &&& 63)) ||| (((a1 : Int32).toInt64) &&& 4294967295)) a2 μ)) ∧ (OkI Inv (m_X8_plan Zf 127 0 ν) (fun μ => m_X9_plan Zf 106 μ)) ∧ (OkR Inv (m_X8_fault Zf 0 ν) (m_X9_fault Zf 106 ν)) ∧ (∀ a0 a1 : Int32, OkR Inv (m_X8_act Zf 127 0 a0 a1 ν) (m_X9_act Zf 106 a0 a1 ν)) ∧ (∀ a0 a1 : Int32, OkI Inv (m_X8_open Zf 127 0 a0 a1 ν) (fun μ => m_X9_open Zf 106 a0 a1 μ)) ∧ (∀ a0 a1 : Int32, OkI Inv (m_X8_run Zf 127 0 a0 a1 ν) (fun μ => m_X9_run Zf 106 a0 a1 μ)) ∧ (OkI Inv (m_X8_runs Zf 127 0 ν) (fun μ => m_X9_runs Zf 106 μ)) ∧ (∀ a0 a1 : Int32, OkI Inv (m_X8_cell Zf 127 0 a0 a1 ν) (fun μ => m_X9_cell Zf 106 a0 a1 μ)) ∧ (∀ a0 : Int32, OkR Inv (m_X8_height Zf 127 0 a0 ν) (m_X9_height Zf 106 a0 ν)) ∧ (OkR Inv (m_X8_minutes Zf 0 ν) (m_X9_minutes Zf 106 ν)) ∧ (∀ a0 : Int32, OkI Inv (m_X8_gives Zf 127 0 a0 ν) (fun μ => m_X9_gives Zf 106 a0 μ)) ∧ (∀ a0 : Int32, OkI Inv (m_X8_best Zf 127 0 a0 ν) (fun μ => m_X9_best Zf 106 a0 μ)) ∧ (OkI Inv (m_X8_orders Zf 127 0 ν) (fun μ => m_X9_orders Zf 106 μ)) ∧ (∀ a0 : Int32, OkI Inv (m_X8_beforehand Zf 127 0 a0 ν) (fun μ => m_X9_beforehand Zf 106 a0 μ)) ∧ (∀ a0 a1 : Int32, OkI Inv (m_X8_spots Zf 127 0 a0 a1 ν) (fun μ => m_X9_spots Zf 106 a0 a1 μ)) ∧ (∀ a0 : Int32, OkR Inv (m_X8_crack Zf 0 a0 ν) (m_X9_crack Zf 106 a0 ν)) ∧ (OkR Inv (m_X8_warm Zf 127 0 ν) (m_X9_warm Zf 106 ν)) ∧ (∀ a0 a1 a2 : Int32, OkI Inv (m_X8_wire Zf 127 0 a0 a1 a2 ν) (fun μ => m_X9_wire Zf 106 a0 a1 a2 μ)) ∧ (∀ a0 : Int32, OkR Inv (m_X8_kind Zf 127 0 a0 ν) (m_X9_kind Zf 106 a0 ν)) ∧ (∀ a0 a1 : Int32, OkI Inv (m_X8_as Zf 127 0 a0 a1 ν) (fun μ => m_X9_as Zf 106 a0 a1 μ)) ∧ (∀ a0 a1 : Int32, OkI Inv (m_X8_ask Zf 127 0 a0 a1 ν) (fun μ => m_X9_ask Zf 106 a0 a1 μ)) ∧ (∀ a0 : Int32, OkR Inv (m_X8_trace Zf 0 a0 ν) (m_X9_trace Zf 106 a0 ν)) ∧ (∀ a0 : Int32, OkR Inv (m_X8_count Zf 127 0 a0 ν) (m_X9_count Zf 106 a0 ν)) ∧ (OkR Inv (m_X8_status Zf 0 ν) (m_X9_status Zf 106 ν))
