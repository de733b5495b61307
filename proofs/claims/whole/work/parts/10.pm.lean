/-! A PLAIN MACHINE: ints are Int (modulo 2^32, looked at only where in range), references are numbers (0 is null), a heap of cells (kind, length, ints, references); 'wp' runs a code table. -/
abbrev PV : Type := Int ⊕ (Nat ⊕ (Nat × Int))
abbrev pI (x : Int) : PV := .inl x
abbrev pA (r : Nat) : PV := .inr (.inl r)
/-- 2 a long, 3 a float (its bits), 4 a double (its bits) -/
abbrev pW (t : Nat) (x : Int) : PV := .inr (.inr (t, x))
/-- how many cells; kind and length of each; its ints; its references -/
abbrev PH : Type := Nat × (Nat → Nat × Nat) × (Nat → Nat → Int) × (Nat → Nat → Nat)
def hn (h : PH) : Nat := h.1
def hk (h : PH) (r : Nat) : Nat := (h.2.1 r).1
def hl (h : PH) (r : Nat) : Nat := (h.2.1 r).2
def hi (h : PH) (r k : Nat) : Int := h.2.2.1 r k
def hr (h : PH) (r k : Nat) : Nat := h.2.2.2 r k
def hsi (h : PH) (r k : Nat) (v : Int) : PH := (h.1, h.2.1, (fun r' k' => if r' = r ∧ k' = k then v else h.2.2.1 r' k'), h.2.2.2)
def hsr (h : PH) (r k : Nat) (v : Nat) : PH := (h.1, h.2.1, h.2.2.1, fun r' k' => if r' = r ∧ k' = k then v else h.2.2.2 r' k')
def hnew (h : PH) (kd len : Nat) : PH := (h.1 + 1, (fun r => if r = h.1 then (kd, len) else h.2.1 r), (fun r k => if r = h.1 then 0 else h.2.2.1 r k), fun r k => if r = h.1 then 0 else h.2.2.2 r k)
def hup (h : PH) (n : Nat) : PH := (n, h.2)
/-- n ints of the cell a, from i on, come into the cell b, from j on -/
def hcp (h : PH) (a i b j n : Nat) : PH := (h.1, h.2.1, (fun r k => if r = b ∧ j ≤ k ∧ k < j + n then h.2.2.1 a (i + (k - j)) else h.2.2.1 r k), h.2.2.2)
abbrev PI : Type := Nat × Instr × Nat × (Nat × Nat × Nat × Nat)
abbrev PL : Type := List (Option PV)
abbrev InR (x : Int) : Prop := -2147483648 ≤ x ∧ x ≤ 2147483647
abbrev InL (x : Int) : Prop := -9223372036854775808 ≤ x ∧ x ≤ 9223372036854775807
def band (x y : Int) : Int := (Int32.ofInt x &&& Int32.ofInt y).toInt
def bor (x y : Int) : Int := (Int32.ofInt x ||| Int32.ofInt y).toInt
def bxor (x y : Int) : Int := (Int32.ofInt x ^^^ Int32.ofInt y).toInt
def bshl (x y : Int) : Int := (Int32.ofInt x <<< (Int32.ofInt y &&& 31)).toInt
def bshr (x y : Int) : Int := (Int32.ofInt x >>> (Int32.ofInt y &&& 31)).toInt
def bi2b (x : Int) : Int := ((Int32.ofInt x).toInt8.toInt32).toInt
def f32 (x : Int) : UInt32 := UInt32.ofNat x.toNat
def f64 (x : Int) : UInt64 := UInt64.ofNat x.toNat
def fi2d (x : Int) : Int := ((FP.i2d (Int32.ofInt x)).toNat : Int)
def fi2f (x : Int) : Int := ((FP.i2f (Int32.ofInt x)).toNat : Int)
def ff2d (x : Int) : Int := ((FP.f2d (f32 x)).toNat : Int)
def ffdiv (x y : Int) : Int := ((FP.fdiv (f32 x) (f32 y)).toNat : Int)
def fddiv (x y : Int) : Int := ((FP.ddiv (f64 x) (f64 y)).toNat : Int)
def fdcmp (x y : Int) (op : CmpOp) : Int := (Op.cmpValue (FP.dcmp (f64 x) (f64 y)) op).toInt
def ffcmp (x y : Int) (op : CmpOp) : Int := (Op.cmpValue (FP.fcmp (f32 x) (f32 y)) op).toInt
def okD (x : Int) : Prop := vf_n64 (f64 x)
def okF (x : Int) : Prop := vf_n32 (f32 x)
def lget : PL → Nat → Option PV
  | [], _ => none
  | a :: _, 0 => a
  | _ :: l, k + 1 => lget l k
def lset : PL → Nat → Option PV → PL
  | [], _, _ => []
  | _ :: l, 0, v => v :: l
  | a :: l, k + 1, v => a :: lset l k v
/-- what lies ahead of the place k isn't the first half of a long or double -/
def lnar (L : PL) (k : Nat) : Bool := match k with
  | 0 => true
  | k + 1 => match lget L k with
    | some (.inr (.inr (t, _))) => Nat.beq t 3
    | _ => true
/-- where the law of a call asks: what is on the stack below the arguments, counted twice -/
def pdrop {α : Type} : Nat → List α → List α
  | 0, l => l
  | _ + 1, [] => []
  | k + 1, _ :: l => pdrop k l
def ptake {α : Type} : Nat → List α → List α
  | 0, _ => []
  | _ + 1, [] => []
  | k + 1, a :: l => a :: ptake k l
def prev {α : Type} : List α → List α → List α
  | [], acc => acc
  | a :: l, acc => prev l (a :: acc)
def pto (t : Nat) : List PI → List PI
  | [] => []
  | q :: l => cond (Nat.beq q.1 t) (q :: l) (pto t l)
def pin (t : Nat) : List Nat → Bool
  | [] => false
  | a :: l => cond (Nat.beq a t) true (pin t l)
/-- a handler: from, to (outside), the exception's number, where it goes on behind its astore, the local that this writes -/
abbrev PX : Type := List (Nat × Nat × Nat × Nat × Nat)
def tsw (x : Int) (pc : Nat) (j : Nat → Prop) : Int → List Int → Prop
  | _, [] => True
  | lo, o :: os => (x = lo → j ((pc : Int) + o).toNat) ∧ tsw x pc j (lo + 1) os
abbrev PC : Type := Nat → List PV → PH → (Int → PH → Prop) → (Nat → PH → Prop) → Prop
abbrev PK : Type := Nat → PL → List PV → PH → Nat → Nat → Prop
/-- what a call may take: cells, and their places -/
def bdc : Nat → Nat × Nat
  | 0 => (0, 0)
  | 1 => (1, 6)
  | 2 => (64, 7000)
  | 3 => (30, 20000)
  | 4 => (15, 1600)
  | 5 => (2, 552)
  | 6 => (2, 64)
  | 7 => (1, 400)
  | 8 => (10, 1200)
  | 9 => (16, 1620)
  | _ => (24, 1700)
section STP
variable (hd : PX) (call : PC) (mc ms fr : Nat) (Q : Int → PH → Prop) (X : Nat → PH → Prop) (jmp : PK) (nxt : PL → List PV → PH → Nat → Nat → Prop)
def stpG (pc : Nat) (L : PL) (c s : Nat) (e : Nat) (h : PH) : PX → Prop
  | [] => X e h
  | (a, b, k, t, i) :: l => cond (Nat.ble a pc && Nat.blt pc b) ((e = k → cond (lnar L i) (jmp t (lset L i none) [] h c s) False) ∧ (e ≠ k → stpG pc L c s e h l)) (stpG pc L c s e h l)
def stpX (pc : Nat) (L : PL) (c s : Nat) : Nat → PH → Prop := fun e h => stpG X jmp pc L c s e h hd
def stpR (ret : Nat) (L : PL) (st : List PV) (c s : Nat) : Int → PH → Prop := fun x h => match ret with
  | 0 => nxt L st h c s
  | 1 => nxt L (pI x :: st) h c s
  | 2 => nxt L (pA x.toNat :: st) h c s
  | t => nxt L (pW t x :: st) h c s
/-- a call, behind its receiver: r = (method, how many arguments, what it returns, its budget and sixteen times its receiver's kind) -/
def stpK (pc : Nat) (r : Nat × Nat × Nat × Nat) (L : PL) (st : List PV) (h : PH) (c s : Nat) : Prop := match bdc (r.2.2.2 % 16) with
    | (0, 0) => call r.1 (prev (ptake r.2.1 st) []) h (stpR nxt r.2.2.1 L (pdrop r.2.1 st) c s) (stpX hd X jmp pc L c s)
    | (a, b) => (c + a ≤ mc ∧ s + b ≤ ms) ∧ call r.1 (prev (ptake r.2.1 st) []) h (stpR nxt r.2.2.1 L (pdrop r.2.1 st) (c + a) (s + b)) (stpX hd X jmp pc L (c + a) (s + b))
def stpV (k : Nat) (h : PH) (P : Prop) : List PV → Prop
  | .inr (.inl a) :: _ => hk h a = k ∧ P
  | _ => False
def stpC (pc : Nat) (r : Nat × Nat × Nat × Nat) (L : PL) (st : List PV) (h : PH) (c s : Nat) : Prop :=
  cond (Nat.ble (2 * (pdrop r.2.1 st).length) 8 && Nat.beq (ptake r.2.1 st).length r.2.1) (match r.2.2.2 / 16 with
    | 0 => stpK hd call mc ms X jmp nxt pc r L st h c s
    | k + 1 => stpV (k + 1) h (stpK hd call mc ms X jmp nxt pc r L st h c s) (prev (ptake r.2.1 st) [])) False
/-- how many may be on the stack at a call of the library's -/
def limL : Nat → Nat
  | 1 => 6
  | 2 => 6
  | _ => 5
/-- the library's methods -/
def stpL (f : Nat) (L : PL) (st : List PV) (h : PH) (c s : Nat) : Prop := match f, st with
  | 0, .inr (.inl a) :: st => a ≠ 0 ∧ nxt L st h c s
  | 1, .inl y :: .inl x :: st => InR x ∧ InR y ∧ nxt L (pI (if x ≤ y then x else y) :: st) h c s
  | 2, .inl y :: .inl x :: st => InR x ∧ InR y ∧ nxt L (pI (if x ≤ y then y else x) :: st) h c s
  | 3, .inl n :: .inl j :: .inr (.inl b) :: .inl i :: .inr (.inl a) :: st => (hk h a = 20 ∧ hk h b = 20 ∧ a ≠ b) ∧ (0 ≤ i ∧ 0 ≤ j ∧ 0 ≤ n ∧ i + n ≤ hl h a ∧ j + n ≤ hl h b) ∧ (∀ h', h' = hcp h a i.toNat b j.toNat n.toNat → nxt L st h' c s)
  | 4, .inr (.inl a) :: st => 6 ≤ fr ∧ hk h a = 27 ∧ nxt L (pI (hl h a) :: st) h c s
  | 5, .inl i :: .inr (.inl a) :: st => 6 ≤ fr ∧ hk h a = 27 ∧ (0 ≤ i ∧ i < hl h a) ∧ nxt L (pI (hi h a i.toNat) :: st) h c s
  | _, _ => False
def ptag : PV → Nat
  | .inl _ => 0
  | .inr (.inl _) => 1
  | .inr (.inr (t, _)) => t + 2
def stpLd (t k : Nat) (L : PL) (st : List PV) (h : PH) (c s : Nat) : Prop := match lget L k with
  | some v => cond (Nat.beq (ptag v) t) (nxt L (v :: st) h c s) False
  | none => False
def stpSt (t k : Nat) (L : PL) (st : List PV) (h : PH) (c s : Nat) : Prop := match st with
  | v :: st => cond (Nat.beq (ptag v) t && (Nat.blt k L.length && lnar L k)) (nxt (lset L k (some v)) st h c s) False
  | _ => False
def stpSd (k : Nat) (L : PL) (st : List PV) (h : PH) (c s : Nat) : Prop := match st with
  | v :: st => cond (Nat.beq (ptag v) 6 && (Nat.blt (k + 1) L.length && lnar L k)) (nxt (lset (lset L k (some v)) (k + 1) none) st h c s) False
  | _ => False
/-- one instruction -/
def stp (q : PI) (L : PL) (st : List PV) (h : PH) (c s : Nat) : Prop := match q with
  | (pc, i, _, r) => match i with
    | .aload_n k => stpLd nxt 1 k.val L st h c s
    | .iload_n k => stpLd nxt 0 k.val L st h c s
    | .aload k => stpLd nxt 1 k L st h c s
    | .iload k => stpLd nxt 0 k L st h c s
    | .fload k => stpLd nxt 5 k L st h c s
    | .dload k => stpLd nxt 6 k L st h c s
    | .istore_n k => stpSt nxt 0 k.val L st h c s
    | .astore_n k => stpSt nxt 1 k.val L st h c s
    | .fstore_n k => stpSt nxt 5 k.val L st h c s
    | .dstore_n k => stpSd nxt k.val L st h c s
    | .istore k => stpSt nxt 0 k L st h c s
    | .astore k => stpSt nxt 1 k L st h c s
    | .fstore k => stpSt nxt 5 k L st h c s
    | .dstore k => stpSd nxt k L st h c s
    | .iconst n => nxt L (pI n :: st) h c s
    | .bipush n => nxt L (pI n :: st) h c s
    | .sipush n => nxt L (pI n :: st) h c s
    | .lconst n => nxt L (pW 2 (n.val : Int) :: st) h c s
    | .fconst _ => cond (Nat.beq r.1 0) (nxt L (pW 3 0 :: st) h c s) False
    | .dconst _ => cond (Nat.beq r.1 0) (nxt L (pW 4 0 :: st) h c s) False
    | .ldc _ => nxt L (pA r.1 :: st) h c s
    | .ldc_w _ => nxt L (pA r.1 :: st) h c s
    | .getstatic _ => nxt L (pA r.1 :: st) h c s
    | .iinc k n => match lget L k with
      | some (.inl x) => cond (Nat.blt k L.length && lnar L k) (nxt (lset L k (some (pI (x + n)))) st h c s) False
      | _ => False
    | .goto o => jmp ((pc : Int) + o).toNat L st h c s
    | .if_icmp cd o => match st with
      | .inl y :: .inl x :: st => InR x ∧ InR y ∧ (match cd with
        | .eq => (x = y → jmp ((pc : Int) + o).toNat L st h c s) ∧ (x ≠ y → nxt L st h c s)
        | .ne => (x = y → nxt L st h c s) ∧ (x ≠ y → jmp ((pc : Int) + o).toNat L st h c s)
        | .lt => (x < y → jmp ((pc : Int) + o).toNat L st h c s) ∧ (y ≤ x → nxt L st h c s)
        | .ge => (x < y → nxt L st h c s) ∧ (y ≤ x → jmp ((pc : Int) + o).toNat L st h c s)
        | .gt => (y < x → jmp ((pc : Int) + o).toNat L st h c s) ∧ (x ≤ y → nxt L st h c s)
        | .le => (y < x → nxt L st h c s) ∧ (x ≤ y → jmp ((pc : Int) + o).toNat L st h c s))
      | _ => False
    | .ifCond cd o => match st with
      | .inl x :: st => InR x ∧ (match cd with
        | .eq => (x = 0 → jmp ((pc : Int) + o).toNat L st h c s) ∧ (x ≠ 0 → nxt L st h c s)
        | .ne => (x = 0 → nxt L st h c s) ∧ (x ≠ 0 → jmp ((pc : Int) + o).toNat L st h c s)
        | .lt => (x < 0 → jmp ((pc : Int) + o).toNat L st h c s) ∧ (0 ≤ x → nxt L st h c s)
        | .ge => (x < 0 → nxt L st h c s) ∧ (0 ≤ x → jmp ((pc : Int) + o).toNat L st h c s)
        | .gt => (0 < x → jmp ((pc : Int) + o).toNat L st h c s) ∧ (x ≤ 0 → nxt L st h c s)
        | .le => (0 < x → nxt L st h c s) ∧ (x ≤ 0 → jmp ((pc : Int) + o).toNat L st h c s))
      | _ => False
    | .ifnonnull o => match st with
      | .inr (.inl a) :: st => (a = 0 → nxt L st h c s) ∧ (a ≠ 0 → jmp ((pc : Int) + o).toNat L st h c s)
      | _ => False
    | .tableswitch d lo up os => match st with
      | .inl x :: st => InR x ∧ (x < lo ∨ up < x → jmp ((pc : Int) + d).toNat L st h c s) ∧ tsw x pc (fun t => jmp t L st h c s) lo os.toList
      | _ => False
    | .iadd => match st with
      | .inl y :: .inl x :: st => nxt L (pI (x + y) :: st) h c s
      | _ => False
    | .isub => match st with
      | .inl y :: .inl x :: st => nxt L (pI (x - y) :: st) h c s
      | _ => False
    | .imul => match st with
      | .inl y :: .inl x :: st => nxt L (pI (x * y) :: st) h c s
      | _ => False
    | .idiv => match st with
      | .inl y :: .inl x :: st => InR x ∧ InR y ∧ y ≠ 0 ∧ nxt L (pI (x.tdiv y) :: st) h c s
      | _ => False
    | .irem => match st with
      | .inl y :: .inl x :: st => InR x ∧ InR y ∧ y ≠ 0 ∧ nxt L (pI (x.tmod y) :: st) h c s
      | _ => False
    | .ishl => match st with
      | .inl y :: .inl x :: st => nxt L (pI (bshl x y) :: st) h c s
      | _ => False
    | .ishr => match st with
      | .inl y :: .inl x :: st => nxt L (pI (bshr x y) :: st) h c s
      | _ => False
    | .iand => match st with
      | .inl y :: .inl x :: st => nxt L (pI (band x y) :: st) h c s
      | _ => False
    | .ior => match st with
      | .inl y :: .inl x :: st => nxt L (pI (bor x y) :: st) h c s
      | _ => False
    | .ixor => match st with
      | .inl y :: .inl x :: st => nxt L (pI (bxor x y) :: st) h c s
      | _ => False
    | .i2b => match st with
      | .inl x :: st => nxt L (pI (bi2b x) :: st) h c s
      | _ => False
    | .i2l => match st with
      | .inl x :: st => InR x ∧ nxt L (pW 2 x :: st) h c s
      | _ => False
    | .i2d => match st with
      | .inl x :: st => nxt L (pW 4 (fi2d x) :: st) h c s
      | _ => False
    | .i2f => match st with
      | .inl x :: st => nxt L (pW 3 (fi2f x) :: st) h c s
      | _ => False
    | .f2d => match st with
      | .inr (.inr (3, x)) :: st => okD (ff2d x) ∧ nxt L (pW 4 (ff2d x) :: st) h c s
      | _ => False
    | .fdiv => match st with
      | .inr (.inr (3, y)) :: .inr (.inr (3, x)) :: st => okF (ffdiv x y) ∧ nxt L (pW 3 (ffdiv x y) :: st) h c s
      | _ => False
    | .ddiv => match st with
      | .inr (.inr (4, y)) :: .inr (.inr (4, x)) :: st => okD (fddiv x y) ∧ nxt L (pW 4 (fddiv x y) :: st) h c s
      | _ => False
    | .lcmp => match st with
      | .inr (.inr (2, y)) :: .inr (.inr (2, x)) :: st => InL x ∧ InL y ∧ nxt L (pI (if x < y then -1 else if x = y then 0 else 1) :: st) h c s
      | _ => False
    | .dcmp op => match st with
      | .inr (.inr (4, y)) :: .inr (.inr (4, x)) :: st => nxt L (pI (fdcmp x y op) :: st) h c s
      | _ => False
    | .fcmp op => match st with
      | .inr (.inr (3, y)) :: .inr (.inr (3, x)) :: st => nxt L (pI (ffcmp x y op) :: st) h c s
      | _ => False
    | .pop => match st with
      | .inl _ :: st => nxt L st h c s
      | _ => False
    | .dup => match st with
      | .inl x :: st => nxt L (pI x :: pI x :: st) h c s
      | .inr (.inl x) :: st => nxt L (pA x :: pA x :: st) h c s
      | _ => False
    | .dup2 => match st with
      | .inl x :: .inr (.inl a) :: st => nxt L (pI x :: pA a :: pI x :: pA a :: st) h c s
      | _ => False
    | .arraylength => match st with
      | .inr (.inl a) :: st => (20 ≤ hk h a ∧ hk h a ≤ 26) ∧ nxt L (pI (hl h a) :: st) h c s
      | _ => False
    | .iaload => match st with
      | .inl i :: .inr (.inl a) :: st => (hk h a = 20 ∨ hk h a = 26) ∧ (0 ≤ i ∧ i < hl h a) ∧ nxt L (pI (hi h a i.toNat) :: st) h c s
      | _ => False
    | .baload => match st with
      | .inl i :: .inr (.inl a) :: st => hk h a = r.1 ∧ (0 ≤ i ∧ i < hl h a) ∧ nxt L (pI (hi h a i.toNat) :: st) h c s
      | _ => False
    | .laload => match st with
      | .inl i :: .inr (.inl a) :: st => hk h a = 23 ∧ (0 ≤ i ∧ i < hl h a) ∧ nxt L (pW 2 (hi h a i.toNat) :: st) h c s
      | _ => False
    | .daload => match st with
      | .inl i :: .inr (.inl a) :: st => hk h a = 24 ∧ (0 ≤ i ∧ i < hl h a) ∧ nxt L (pW 4 (hi h a i.toNat) :: st) h c s
      | _ => False
    | .aaload => match st with
      | .inl i :: .inr (.inl a) :: st => hk h a = 25 ∧ (0 ≤ i ∧ i < hl h a) ∧ nxt L (pA (hr h a i.toNat) :: st) h c s
      | _ => False
    | .iastore => match st with
      | .inl x :: .inl i :: .inr (.inl a) :: st => hk h a = 20 ∧ (0 ≤ i ∧ i < hl h a) ∧ (∀ h', h' = hsi h a i.toNat x → nxt L st h' c s)
      | _ => False
    | .bastore => match st with
      | .inl x :: .inl i :: .inr (.inl a) :: st => hk h a = r.1 ∧ (0 ≤ i ∧ i < hl h a) ∧ (match r.1 with
        | 21 => (∀ h', h' = hsi h a i.toNat (bi2b x) → nxt L st h' c s)
        | _ => (x = 0 ∨ x = 1) ∧ (∀ h', h' = hsi h a i.toNat x → nxt L st h' c s))
      | _ => False
    | .lastore => match st with
      | .inr (.inr (2, x)) :: .inl i :: .inr (.inl a) :: st => hk h a = 23 ∧ (0 ≤ i ∧ i < hl h a) ∧ (∀ h', h' = hsi h a i.toNat x → nxt L st h' c s)
      | _ => False
    | .dastore => match st with
      | .inr (.inr (4, x)) :: .inl i :: .inr (.inl a) :: st => hk h a = 24 ∧ (0 ≤ i ∧ i < hl h a) ∧ (∀ h', h' = hsi h a i.toNat x → nxt L st h' c s)
      | _ => False
    | .aastore => match st with
      | .inr (.inl x) :: .inl i :: .inr (.inl a) :: st => hk h a = 25 ∧ (0 ≤ i ∧ i < hl h a) ∧ hk h x = 1 ∧ (∀ h', h' = hsr h a i.toNat x → nxt L st h' c s)
      | _ => False
    | .getfield _ => match st with
      | .inr (.inl a) :: st => hk h a = r.1 ∧ (match r.2.2.1 with
        | 1 => nxt L (pA (hr h a r.2.1) :: st) h c s
        | _ => nxt L (pI (hi h a r.2.1) :: st) h c s)
      | _ => False
    | .putfield _ => match st with
      | .inl x :: .inr (.inl a) :: st => hk h a = r.1 ∧ (match r.2.2.1 with
        | 0 => (∀ h', h' = hsi h a r.2.1 x → nxt L st h' c s)
        | 2 => (x = 0 ∨ x = 1) ∧ (∀ h', h' = hsi h a r.2.1 x → nxt L st h' c s)
        | _ => False)
      | .inr (.inl x) :: .inr (.inl a) :: st => hk h a = r.1 ∧ (match r.2.2.1 with
        | 1 => (∀ h', h' = hsr h a r.2.1 x → nxt L st h' c s)
        | _ => False)
      | _ => False
    | .new _ => cond (Nat.ble 90 r.1) (cond (Nat.ble (2 * st.length) 8) (6 ≤ fr ∧ (c + 1 ≤ mc ∧ s + 6 ≤ ms) ∧ ∀ n', hn h ≤ n' → X (r.1 - 90) (hup h n')) False) ((c + 1 ≤ mc ∧ s + r.2.1 ≤ ms) ∧ (∀ h', h' = hnew h r.1 r.2.1 → nxt L (pA (hn h) :: st) h' (c + 1) (s + r.2.1)))
    | .newarray _ => match st with
      | .inl x :: st => (0 ≤ x ∧ x ≤ 100000) ∧ (c + 1 ≤ mc ∧ s + x.toNat ≤ ms) ∧ (∀ h', h' = hnew h r.1 x.toNat → nxt L (pA (hn h) :: st) h' (c + 1) (s + x.toNat))
      | _ => False
    | .anewarray _ => match st with
      | .inl x :: st => (0 ≤ x ∧ x ≤ 100000) ∧ (c + 1 ≤ mc ∧ s + x.toNat ≤ ms) ∧ (∀ h', h' = hnew h 25 x.toNat → nxt L (pA (hn h) :: st) h' (c + 1) (s + x.toNat))
      | _ => False
    | .invokevirtual _ => cond (Nat.ble 1000 r.1) (cond (Nat.ble st.length (limL (r.1 - 1000))) (stpL fr nxt (r.1 - 1000) L st h c s) False) (stpC hd call mc ms X jmp nxt pc r L st h c s)
    | .invokestatic _ => cond (Nat.ble 1000 r.1) (cond (Nat.ble st.length (limL (r.1 - 1000))) (stpL fr nxt (r.1 - 1000) L st h c s) False) (stpC hd call mc ms X jmp nxt pc r L st h c s)
    | .invokespecial _ => cond (Nat.ble 1000 r.1) (cond (Nat.ble st.length (limL (r.1 - 1000))) (stpL fr nxt (r.1 - 1000) L st h c s) False) (stpC hd call mc ms X jmp nxt pc r L st h c s)
    | .ireturn => match st with
      | [.inl x] => (match r.1 with
        | 1 => Q x h
        | 5 => (x = 0 ∨ x = 1) ∧ Q x h
        | 6 => (-128 ≤ x ∧ x ≤ 127) ∧ Q x h
        | _ => (0 ≤ x ∧ x ≤ 127) ∧ Q x h)
      | _ => False
    | .areturn => match st with
      | [.inr (.inl x)] => Q x h
      | _ => False
    | .freturn => match st with
      | [.inr (.inr (3, x))] => Q x h
      | _ => False
    | .dreturn => match st with
      | [.inr (.inr (4, x))] => Q x h
      | _ => False
    | .return_ => match st with
      | [] => Q 0 h
      | _ => False
    | _ => False
end STP
/-- a stretch of code: it stops at the places 'cuts', with K there -/
def wpc (full : List PI) (hd : PX) (call : PC) (mc ms fr : Nat) (Q : Int → PH → Prop) (X : Nat → PH → Prop) (cuts : List Nat) (K : PK) : Nat → List PI → PL → List PV → PH → Nat → Nat → Prop
  | 0, _, _, _, _, _, _ => False
  | _ + 1, [], _, _, _, _, _ => False
  | n + 1, q :: rest, L, st, h, c, s => stp hd call mc ms fr Q X
      (fun t L st h c s => cond (pin t cuts) (K t L st h c s) (wpc full hd call mc ms fr Q X cuts K n (pto t full) L st h c s))
      (fun L st h c s => match rest with
        | [] => False
        | q' :: rest' => cond (pin q'.1 cuts) (K q'.1 L st h c s) (wpc full hd call mc ms fr Q X cuts K n (q' :: rest') L st h c s)) q L st h c s
