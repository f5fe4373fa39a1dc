/-! AM: a small machine over named cells. A run of it is followed by the real machine (part 03); what the two programs compute is said of AM alone. -/
abbrev AV : Type := Value ⊕ (Nat × Nat)
abbrev AI : Type := Instr × Int32 × List Nat
abbrev St : Type := (Nat → Nat → Nat → Int32) × (Nat → Nat → Nat → AV) × (Nat → Nat → Nat → Int64) × (Nat → Nat → Nat → UInt64) × (Nat → Nat → Nat) × (Nat → Nat) × Nat × Nat
abbrev Ot : Type := Option AV ⊕ Nat
abbrev Rs : Type := Option (Ot × St)
abbrev vi (x : Int32) : AV := .inl (.int x)
abbrev vl (x : Int64) : AV := .inl (.long x)
abbrev vf (x : UInt32) : AV := .inl (.float x)
abbrev vd (x : UInt64) : AV := .inl (.double x)
abbrev vr (t i : Nat) : AV := .inr (t, i)
def unk : AV := .inr (999, 0)
def sI (s : St) (t i k : Nat) : Int32 := s.1 t i k
def sR (s : St) (t i k : Nat) : AV := s.2.1 t i k
def sJ (s : St) (t i k : Nat) : Int64 := s.2.2.1 t i k
def sD (s : St) (t i k : Nat) : UInt64 := s.2.2.2.1 t i k
def sL (s : St) (t i : Nat) : Nat := s.2.2.2.2.1 t i
def sC (s : St) (t : Nat) : Nat := s.2.2.2.2.2.1 t
def sN (s : St) : Nat := s.2.2.2.2.2.2.1
def sM (s : St) : Nat := s.2.2.2.2.2.2.2
def up3 {α : Type} (f : Nat → Nat → Nat → α) (t i k : Nat) (v : α) : Nat → Nat → Nat → α := fun a b j => if a = t ∧ b = i ∧ j = k then v else f a b j
def wI (s : St) (t i k : Nat) (v : Int32) : St := (up3 s.1 t i k v, s.2)
def wR (s : St) (t i k : Nat) (v : AV) : St := (s.1, up3 s.2.1 t i k v, s.2.2)
def wJ (s : St) (t i k : Nat) (v : Int64) : St := (s.1, s.2.1, up3 s.2.2.1 t i k v, s.2.2.2)
def wD (s : St) (t i k : Nat) (v : UInt64) : St := (s.1, s.2.1, s.2.2.1, up3 s.2.2.2.1 t i k v, s.2.2.2.2)
/-- n places of the cell (t, i) from sp on go to the cell (t2, i2) from dp on -/
def wCp (s : St) (t i sp t2 i2 dp n : Nat) : St := (fun a b k => if a = t2 ∧ b = i2 ∧ dp ≤ k ∧ k < dp + n then s.1 t i (sp + (k - dp)) else s.1 a b k, s.2)
def clr {α : Type} (f : Nat → Nat → Nat → α) (t i : Nat) (z : α) : Nat → Nat → Nat → α := fun a b k => if a = t ∧ b = i then z else f a b k
/-- a new cell of the tag t, n places long where it is a row -/
def nw (s : St) (t n slots : Nat) : St :=
  (clr s.1 t (sC s t) 0, clr s.2.1 t (sC s t) (.inl .null), clr s.2.2.1 t (sC s t) 0, clr s.2.2.2.1 t (sC s t) 0,
   (fun a b => if a = t ∧ b = sC s t then n else s.2.2.2.2.1 a b), (fun a => if a = t then sC s t + 1 else s.2.2.2.2.2.1 a), sN s + 1, sM s + slots)
/-- cells and places that nothing names -/
def wst (s : St) (cells slots : Nat) : St := (s.1, s.2.1, s.2.2.1, s.2.2.2.1, s.2.2.2.2.1, s.2.2.2.2.2.1, sN s + cells, sM s + slots)
def inb (j : Int32) (n : Nat) : Prop := 0 ≤ j.toInt ∧ j.toInt < n
def inbB (j : Int32) (n : Nat) : Bool := decide (0 ≤ j.toInt) && decide (j.toInt < n)
theorem inbB_iff {j : Int32} {n : Nat} : inbB j n = true ↔ inb j n := by simp [inbB, inb]
abbrev ix (j : Int32) : Nat := j.toNatClampNeg
def kdL : List Nat := [0,0,0,0,0,0,0,0,0,0,0,0,0,0,0,0,0,0,0,0, 1,1,1,1, 1,1,1,1,1,1, 1,1,7, 1,1,1,3,1,1, 4,1,1, 2, 1,1,1,1,1,1,1,1,1,1, 5,6,8, 9,10,10]
def kd (t : Nat) : Nat := kdL.getD t 0
def cat (v : AV) : Nat := match v with
  | .inl (.long _) => 2
  | .inl (.double _) => 2
  | _ => 1
def catS (st : List AV) : Nat := match st with
  | [] => 0
  | v :: st => cat v + catS st
def g0 (l : List Nat) (k : Nat) : Nat := l.getD k 0
section Pops
variable {ρ : Type}
def pI (st : List AV) (k : Int32 → List AV → Option ρ) : Option ρ := match st with
  | .inl (.int x) :: st => k x st
  | _ => none
def pII (st : List AV) (k : Int32 → Int32 → List AV → Option ρ) : Option ρ := match st with
  | .inl (.int y) :: .inl (.int x) :: st => k x y st
  | _ => none
def pR (st : List AV) (k : Nat → Nat → List AV → Option ρ) : Option ρ := match st with
  | .inr (t, i) :: st => k t i st
  | _ => none
def pIR (st : List AV) (k : Nat → Nat → Int32 → List AV → Option ρ) : Option ρ := match st with
  | .inl (.int j) :: .inr (t, i) :: st => k t i j st
  | _ => none
def pIIR (st : List AV) (k : Nat → Nat → Int32 → Int32 → List AV → Option ρ) : Option ρ := match st with
  | .inl (.int x) :: .inl (.int j) :: .inr (t, i) :: st => k t i j x st
  | _ => none
def pV (st : List AV) (k : AV → List AV → Option ρ) : Option ρ := match st with
  | v :: st => k v st
  | _ => none
def pVV (st : List AV) (k : AV → AV → List AV → Option ρ) : Option ρ := match st with
  | v :: w :: st => k v w st
  | _ => none
end Pops
/-- where a handler of the method stands for the exception E: its block, the place that takes the object -/
def fh : List (Nat × Nat × Nat) → Nat → Option (Nat × Nat)
  | [], _ => none
  | (e, b, x) :: l, E => if e = E then some (b, x) else fh l E
def caseN (c : Jvm.ClassFile.Cond) (x y : Int32) : Bool := match c with
  | .eq => decide (x = y)
  | .ne => decide (¬ x = y)
  | .lt => decide (x < y)
  | .ge => decide (y ≤ x)
  | .gt => decide (y < x)
  | .le => decide (x ≤ y)
/-- a Java char out of an int; a byte; a boolean -/
def toCh (x : Int32) : Int32 := (x.toUInt32 % 65536).toInt32
def n32 (r : UInt32) : Bool := decide (r &&& 0x7fffffff ≤ 0x7f800000)
def n64 (r : UInt64) : Bool := decide (r &&& 0x7fffffffffffffff ≤ 0x7ff0000000000000)
def isI (v : AV) : Bool := match v with
  | .inl (.int _) => true
  | _ => false
def isA (v : AV) : Bool := match v with
  | .inr (t, _) => decide (t ≠ 999)
  | _ => false
def isD (v : AV) : Bool := match v with
  | .inl (.double _) => true
  | _ => false
def isF (v : AV) : Bool := match v with
  | .inl (.float _) => true
  | _ => false
def bytesOk (s : St) (t i sp n : Nat) : Bool := (List.range n).all (fun j => decide (sI s t i (sp + j) = (sI s t i (sp + j)).toInt8.toInt32))
def stp (a : AI) (lv st : List AV) (s : St) : Option (List AV × List AV × St) := match a.1 with
  | .iconst _ => some (lv, (vi a.2.1 :: st), s)
  | .bipush _ => some (lv, (vi a.2.1 :: st), s)
  | .sipush _ => some (lv, (vi a.2.1 :: st), s)
  | .ldc _ => if g0 a.2.2 0 = 0 then some (lv, (vi a.2.1 :: st), s) else some (lv, (vr 12 (g0 a.2.2 1) :: st), s)
  | .fconst _ => some (lv, (vf FP.fconst0 :: st), s)
  | .dconst _ => some (lv, (vd FP.dconst0 :: st), s)
  | .iload_n _ => if isI (lv.getD (g0 a.2.2 0) unk) = true then some (lv, (lv.getD (g0 a.2.2 0) unk :: st), s) else none
  | .iload _ => if isI (lv.getD (g0 a.2.2 0) unk) = true then some (lv, (lv.getD (g0 a.2.2 0) unk :: st), s) else none
  | .aload_n _ => if isA (lv.getD (g0 a.2.2 0) unk) = true then some (lv, (lv.getD (g0 a.2.2 0) unk :: st), s) else none
  | .aload _ => if isA (lv.getD (g0 a.2.2 0) unk) = true then some (lv, (lv.getD (g0 a.2.2 0) unk :: st), s) else none
  | .fload _ => if isF (lv.getD (g0 a.2.2 0) unk) = true then some (lv, (lv.getD (g0 a.2.2 0) unk :: st), s) else none
  | .dload _ => if isD (lv.getD (g0 a.2.2 0) unk) = true then some (lv, (lv.getD (g0 a.2.2 0) unk :: st), s) else none
  | .dload_n _ => if isD (lv.getD (g0 a.2.2 0) unk) = true then some (lv, (lv.getD (g0 a.2.2 0) unk :: st), s) else none
  | .istore_n _ => pV st fun v st => if isI v = true then some ((lv.set (g0 a.2.2 0) v), st, s) else none
  | .istore _ => pV st fun v st => if isI v = true then some ((lv.set (g0 a.2.2 0) v), st, s) else none
  | .fstore _ => pV st fun v st => if isF v = true then some ((lv.set (g0 a.2.2 0) v), st, s) else none
  | .astore_n _ => pV st fun v st => if isA v = true then some ((lv.set (g0 a.2.2 0) v), st, s) else none
  | .astore _ => pV st fun v st => if isA v = true then some ((lv.set (g0 a.2.2 0) v), st, s) else none
  | .dstore _ => pV st fun v st => if isD v = true then some (((lv.set (g0 a.2.2 0) v).set (g0 a.2.2 0 + 1) unk), st, s) else none
  | .dstore_n _ => pV st fun v st => if isD v = true then some (((lv.set (g0 a.2.2 0) v).set (g0 a.2.2 0 + 1) unk), st, s) else none
  | .iinc _ _ => match lv.getD (g0 a.2.2 0) unk with
    | .inl (.int x) => some ((lv.set (g0 a.2.2 0) (vi (x + a.2.1))), st, s)
    | _ => none
  | .pop => pV st fun v st => if cat v = 1 then some (lv, st, s) else none
  | .dup => pV st fun v st => if cat v = 1 then some (lv, (v :: v :: st), s) else none
  | .dup_x1 => pVV st fun v w st => if cat v = 1 ∧ cat w = 1 then some (lv, (v :: w :: v :: st), s) else none
  | .dup2 => pVV st fun v w st => if cat v = 1 ∧ cat w = 1 then some (lv, (v :: w :: v :: w :: st), s) else none
  | .iadd => pII st fun x y st => some (lv, (vi (x + y) :: st), s)
  | .isub => pII st fun x y st => some (lv, (vi (x - y) :: st), s)
  | .imul => pII st fun x y st => some (lv, (vi (x * y) :: st), s)
  | .iand => pII st fun x y st => some (lv, (vi (x &&& y) :: st), s)
  | .ior => pII st fun x y st => some (lv, (vi (x ||| y) :: st), s)
  | .ixor => pII st fun x y st => some (lv, (vi (x ^^^ y) :: st), s)
  | .ishl => pII st fun x y st => some (lv, (vi (x <<< (y &&& 31)) :: st), s)
  | .ishr => pII st fun x y st => some (lv, (vi (x >>> (y &&& 31)) :: st), s)
  | .idiv => pII st fun x y st => if y = 0 then none else some (lv, (vi (x / y) :: st), s)
  | .irem => pII st fun x y st => if y = 0 then none else some (lv, (vi (x - x / y * y) :: st), s)
  | .ineg => pI st fun x st => some (lv, (vi (-x) :: st), s)
  | .i2l => pI st fun x st => some (lv, (vl x.toInt64 :: st), s)
  | .i2c => pI st fun x st => some (lv, (vi (toCh x) :: st), s)
  | .i2b => pI st fun x st => some (lv, (vi x.toInt8.toInt32 :: st), s)
  | .i2f => pI st fun x st => some (lv, (vf (FP.i2f x) :: st), s)
  | .i2d => pI st fun x st => some (lv, (vd (FP.i2d x) :: st), s)
  | .f2d => match st with
    | .inl (.float x) :: st => if n64 (FP.f2d x) = true then some (lv, (vd (FP.f2d x) :: st), s) else none
    | _ => none
  | .fdiv => match st with
    | .inl (.float y) :: .inl (.float x) :: st => if n32 (FP.fdiv x y) = true then some (lv, (vf (FP.fdiv x y) :: st), s) else none
    | _ => none
  | .ddiv => match st with
    | .inl (.double y) :: .inl (.double x) :: st => if n64 (FP.ddiv x y) = true then some (lv, (vd (FP.ddiv x y) :: st), s) else none
    | _ => none
  | .lcmp => match st with
    | .inl (.long y) :: .inl (.long x) :: st => some (lv, (vi (lg_cmp x y) :: st), s)
    | _ => none
  | .dcmp op => match st with
    | .inl (.double y) :: .inl (.double x) :: st => some (lv, (vi (Op.cmpValue (FP.dcmp x y) op) :: st), s)
    | _ => none
  | .getfield _ => pR st fun t i st => if t = g0 a.2.2 0 then (if a.2.1 = 0 then some (lv, (vi (sI s t i (g0 a.2.2 1)) :: st), s) else some (lv, (sR s t i (g0 a.2.2 1) :: st), s)) else none
  | .putfield _ => pVV st fun v r st => match r with
    | .inr (t, i) => if t = g0 a.2.2 0 then (if a.2.1 = 0 then (match v with
        | .inl (.int x) => if g0 a.2.2 2 = 0 ∨ (g0 a.2.2 2 = 2 ∧ x = x.toInt8.toInt32) ∨ (g0 a.2.2 2 = 3 ∧ (x = 0 ∨ x = 1)) then some (lv, st, (wI s t i (g0 a.2.2 1) x)) else none
        | _ => none) else (match v with
        | .inr (t2, i2) => if t2 = g0 a.2.2 2 then some (lv, st, (wR s t i (g0 a.2.2 1) (.inr (t2, i2)))) else none
        | _ => none)) else none
    | _ => none
  | .getstatic _ => if a.2.1 = 0 then some (lv, (vi (sI s 60 0 (g0 a.2.2 0)) :: st), s) else some (lv, (sR s 60 0 (g0 a.2.2 0) :: st), s)
  | .iaload => pIR st fun t i j st => if (kd t = 1 ∨ kd t = 8) ∧ inbB j (sL s t i) = true then some (lv, (vi (sI s t i (ix j)) :: st), s) else none
  | .baload => pIR st fun t i j st => if (kd t = 2 ∨ kd t = 3 ∨ kd t = 9 ∨ kd t = 10) ∧ inbB j (sL s t i) = true then some (lv, (vi (sI s t i (ix j)) :: st), s) else none
  | .caload => pIR st fun t i j st => if kd t = 4 ∧ inbB j (sL s t i) = true then some (lv, (vi (sI s t i (ix j)) :: st), s) else none
  | .laload => pIR st fun t i j st => if kd t = 5 ∧ inbB j (sL s t i) = true then some (lv, (vl (sJ s t i (ix j)) :: st), s) else none
  | .daload => pIR st fun t i j st => if kd t = 6 ∧ inbB j (sL s t i) = true then some (lv, (vd (sD s t i (ix j)) :: st), s) else none
  | .aaload => pIR st fun t i j st => if kd t = 7 ∧ inbB j (sL s t i) = true then (match sR s t i (ix j) with
    | .inr q => some (lv, (.inr q :: st), s)
    | _ => none) else none
  | .iastore => pIIR st fun t i j x st => if kd t = 1 ∧ inbB j (sL s t i) = true then some (lv, st, (wI s t i (ix j) x)) else none
  | .bastore => pIIR st fun t i j x st => if inbB j (sL s t i) = true ∧ ((kd t = 2) ∨ (kd t = 3 ∧ (x = 0 ∨ x = 1))) then some (lv, st, (wI s t i (ix j) (if kd t = 2 then x.toInt8.toInt32 else x))) else none
  | .castore => pIIR st fun t i j x st => if kd t = 4 ∧ inbB j (sL s t i) = true then some (lv, st, (wI s t i (ix j) (toCh x))) else none
  | .lastore => match st with
    | .inl (.long x) :: .inl (.int j) :: .inr (t, i) :: st => if kd t = 5 ∧ inbB j (sL s t i) = true then some (lv, st, (wJ s t i (ix j) x)) else none
    | _ => none
  | .dastore => match st with
    | .inl (.double x) :: .inl (.int j) :: .inr (t, i) :: st => if kd t = 6 ∧ inbB j (sL s t i) = true then some (lv, st, (wD s t i (ix j) x)) else none
    | _ => none
  | .aastore => match st with
    | .inr (1, i2) :: .inl (.int j) :: .inr (t, i) :: st => if kd t = 7 ∧ inbB j (sL s t i) = true then some (lv, st, (wR s t i (ix j) (.inr (1, i2)))) else none
    | _ => none
  | .arraylength => pR st fun t i st => if kd t ≠ 0 ∧ kd t ≠ 10 then some (lv, (vi (Int32.ofNat (sL s t i)) :: st), s) else none
  | .newarray _ => pI st fun x st => if 0 ≤ x.toInt ∧ x.toInt < 65536 then some (lv, (vr (g0 a.2.2 0) (sC s (g0 a.2.2 0)) :: st), (nw s (g0 a.2.2 0) (ix x) (ix x))) else none
  | .anewarray _ => pI st fun x st => if 0 ≤ x.toInt ∧ x.toInt < 65536 then some (lv, (vr (g0 a.2.2 0) (sC s (g0 a.2.2 0)) :: st), (nw s (g0 a.2.2 0) (ix x) (ix x))) else none
  | .new _ => some (lv, vr (g0 a.2.2 0) (sC s (g0 a.2.2 0)) :: st, nw s (g0 a.2.2 0) 0 (g0 a.2.2 1))
  | .invokestatic _ => match st with
      | .inl (.int n) :: .inl (.int dp) :: .inr (t2, i2) :: .inl (.int sp) :: .inr (t, i) :: st => if 0 ≤ sp.toInt ∧ 0 ≤ dp.toInt ∧ 0 ≤ n.toInt ∧ ix sp + ix n ≤ sL s t i ∧ ix dp + ix n ≤ sL s t2 i2 ∧ ((kd t = 1 ∧ kd t2 = 1) ∨ (kd t = 2 ∧ kd t2 = 2 ∧ bytesOk s t i (ix sp) (ix n) = true)) ∧ catS st ≤ 8 then some (lv, st, (wCp s t i (ix sp) t2 i2 (ix dp) (ix n))) else none
      | _ => none
  | .invokespecial _ => if catS st ≤ 8 then pR st fun _ _ st => some (lv, st, s) else none
  | _ => none
def nxt (x : Option (List AV × List AV × St)) (k : List AV → List AV → St → Rs) : Rs := match x with
  | some r => k r.1 r.2.1 r.2.2
  | none => none
def cll (cal : Nat → List AV → St → Rs) (jmp : Nat → List AV → List AV → St → Rs) (hd : List (Nat × Nat × Nat)) (k : List AV → List AV → St → Rs) (m n : Nat) (lv st : List AV) (s : St) : Rs :=
  if catS (st.drop n) ≤ 8 ∧ n ≤ st.length ∧ catS (st.take n) = n then (match cal m (st.take n).reverse s with
    | none => none
    | some (.inl r, s2) => k lv (r.toList ++ st.drop n) s2
    | some (.inr E, s2) => (match fh hd E with
      | none => some (.inr E, s2)
      | some q => jmp q.1 (lv.set q.2 unk) [] s2))
  else none
/-- who is called: the cell below the arguments -/
def rcv (st : List AV) (n t : Nat) : Bool := match st.drop (n - 1) with
  | .inr (t2, _) :: _ => decide (t2 = t)
  | _ => false
/-- the answers that a type of return leaves as they are: 0 int, 1 boolean, 2 byte, 3 char -/
def rkOk (k : Nat) (x : Int32) : Bool := match k with
  | 0 => true
  | 1 => decide (x = 0 ∨ x = 1)
  | 2 => decide (x = x.toInt8.toInt32)
  | 3 => decide (toCh x = x)
  | _ => false
def exF (cal : Nat → List AV → St → Rs) (jmp : Nat → List AV → List AV → St → Rs) (hd : List (Nat × Nat × Nat)) : List AI → List AV → List AV → St → Rs
  | [], _, _, _ => none
  | a :: is, lv, st, s => match a.1 with
    | .nop => if a.2.1 = 0 then jmp (g0 a.2.2 0) lv st s else none
    | .goto _ => jmp (g0 a.2.2 0) lv st s
    | .ifCond c _ => pI st fun x st => if caseN c x 0 then jmp (g0 a.2.2 0) lv st s else exF cal jmp hd is lv st s
    | .if_icmp c _ => pII st fun x y st => if caseN c x y then jmp (g0 a.2.2 0) lv st s else exF cal jmp hd is lv st s
    | .tableswitch _ lo hi _ => pI st fun x st => if x.toInt < lo ∨ hi < x.toInt then jmp (g0 a.2.2 0) lv st s else jmp (g0 a.2.2 ((x.toInt - lo).toNat + 1)) lv st s
    | .new _ => if a.2.1 = 0 then nxt (stp a lv st s) (exF cal jmp hd is) else (if catS st ≤ 8 then some (.inr (g0 a.2.2 0), wst s 1 6) else none)
    | .invokestatic _ => if a.2.1 = 1 then nxt (stp a lv st s) (exF cal jmp hd is) else cll cal jmp hd (exF cal jmp hd is) (g0 a.2.2 0) (g0 a.2.2 1) lv st s
    | .invokevirtual _ => if rcv st (g0 a.2.2 1) (g0 a.2.2 2) = true then cll cal jmp hd (exF cal jmp hd is) (g0 a.2.2 0) (g0 a.2.2 1) lv st s else none
    | .invokespecial _ => if a.2.1 = 2 then nxt (stp a lv st s) (exF cal jmp hd is) else (if rcv st (g0 a.2.2 1) (g0 a.2.2 2) = true then cll cal jmp hd (exF cal jmp hd is) (g0 a.2.2 0) (g0 a.2.2 1) lv st s else none)
    | .ireturn => match st with
      | [.inl (.int x)] => if rkOk (g0 a.2.2 0) x = true then some (.inl (some (vi x)), s) else none
      | _ => none
    | .areturn => match st with
      | [.inr (t, i)] => some (.inl (some (vr t i)), s)
      | _ => none
    | .freturn => match st with
      | [.inl (.float x)] => some (.inl (some (vf x)), s)
      | _ => none
    | .dreturn => match st with
      | [.inl (.double x)] => some (.inl (some (vd x)), s)
      | _ => none
    | .return_ => match st with
      | [] => some (.inl none, s)
      | _ => none
    | _ => nxt (stp a lv st s) (exF cal jmp hd is)
/-! the tables of the methods are arguments: code of a block, places of the locals, handlers -/
section Sem
variable (mc : Nat → Nat → List AI) (ml : Nat → Nat) (hd : Nat → List (Nat × Nat × Nat))
def jmF (cal : Nat → List AV → St → Rs) (m : Nat) : Nat → Nat → List AV → List AV → St → Rs
  | 0, _, _, _, _ => none
  | n + 1, b, lv, st, s => exF cal (jmF cal m n) (hd m) (mc m b) lv st s
def calF : Nat → Nat → Nat → List AV → St → Rs
  | 0, _, _, _, _ => none
  | d + 1, n, m, as, s => jmF mc hd (calF d n) m n 0 (as ++ List.replicate (ml m - as.length) unk) [] s
end Sem
