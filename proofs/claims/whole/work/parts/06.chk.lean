/-! that AM's tables are the bytes': a check that the kernel runs, method by method -/
def ilen (i : Instr) : Nat := match i with
  | .bipush _ => 2
  | .sipush _ => 3
  | .ldc _ => 2
  | .iload _ => 2
  | .aload _ => 2
  | .dload _ => 2
  | .fload _ => 2
  | .fstore _ => 2
  | .istore _ => 2
  | .astore _ => 2
  | .dstore _ => 2
  | .iinc _ _ => 3
  | .ifCond _ _ => 3
  | .if_icmp _ _ => 3
  | .goto _ => 3
  | .getfield _ => 3
  | .putfield _ => 3
  | .getstatic _ => 3
  | .invokestatic _ => 3
  | .invokevirtual _ => 3
  | .invokespecial _ => 3
  | .new _ => 3
  | .anewarray _ => 3
  | .newarray _ => 2
  | _ => 1
abbrev mB (m : Nat) : ByteArray := (mQ m).2.1
abbrev mR (m : Nat) : Option FieldType := (mQ m).2.2
abbrev mY (m : Nat) : MethodName := (mQ m).1
def inW (m : Nat) (w : Jvm.Cond) : Bool := decide (w ∈ WL m) && goodWord w
def inN (m : Nat) (w : Jvm.Cond) : Bool := decide (w ∈ WL m)
/-- a word of the method, by its place -/
def inH (m h : Nat) (w : Jvm.Cond) : Bool := decide ((WL m)[h]? = some w) && goodWord w
def inG (m h : Nat) (w : Jvm.Cond) : Bool := decide ((WL m)[h]? = some w)
def isRefT (t : FieldType) : Bool := match t with
  | .object _ => true
  | .array _ => true
  | _ => false
def objW : MethodName := ⟨"java/lang/Object", "<init>", "()V"⟩
def cpyW : MethodName := ⟨"java/lang/System", "arraycopy", "(Ljava/lang/Object;ILjava/lang/Object;II)V"⟩
def clN (t : Nat) : String := match clL[t]? with
  | some q => q.1
  | none => "java/lang/String"
def chkF (m k t j : Nat) (v : Int32) : Bool := match clL[t]? with
  | some q => decide (j < q.2.2) && inW m (.fieldLink (mY m).cls k (q.2.1 j).1 (q.2.1 j).2.1 (q.2.1 j).2.2.1) && (if v = 0 then !(refF t j) else decide (v = 1) && refF t j)
  | none => decide (t = 12) && ((decide (j = 0) && decide (v = 1) && inW m (.fieldLink (mY m).cls k "java/lang/String" "value" "[B")) || (decide (j = 1) && decide (v = 0) && inW m (.fieldLink (mY m).cls k "java/lang/String" "coder" "B")))
def chkP (m k t j c : Nat) (v : Int32) : Bool := match clL[t]? with
  | some q => decide (j < q.2.2) && inW m (.fieldLink (mY m).cls k (q.2.1 j).1 (q.2.1 j).2.1 (q.2.1 j).2.2.1) && (((q.2.1 j).2.2.2 == false) || (decide ((mY m).name = "<init>") && decide ((q.2.1 j).1 = (mY m).cls))) &&
      (if v = 0 then !(refF t j) && ((decide (c = 0) && decide ((q.2.1 j).2.2.1 = "I")) || (decide (c = 2) && decide ((q.2.1 j).2.2.1 = "B")) || (decide (c = 3) && decide ((q.2.1 j).2.2.1 = "Z"))) else decide (v = 1) && refF t j && (match parseFieldDescriptor (q.2.1 j).2.2.1 with
        | some ty => isRefT ty
        | none => false))
  | none => false
def prm (m : Nat) : Option Nat := (parseMethodDescriptor (mY m).desc).map (fun d => d.parameters.length)
def clsOk (m : Nat) : Bool := decide ((mY m).cls ≠ "java/lang/invoke/MethodHandle") && decide ((mY m).cls ≠ "java/lang/invoke/VarHandle")
def dcd (m pc : Nat) (i : Instr) : Bool := decide (decode (mB m) pc = .ok (i, ilen i))
def atK (t : ArrayType) : Nat := match t with
  | .int => 1
  | .byte => 2
  | .boolean => 3
  | .char => 4
  | .long => 5
  | .double => 6
  | _ => 0
def chkI (m pc : Nat) (a : AI) : Bool := match a.1 with
  | .nop => if a.2.1 = 0 then decide (pcs m (g0 a.2.2 0) = pc) else true
  | .goto o => decide ((pc : Int) + o = pcs m (g0 a.2.2 0))
  | .ifCond _ o => decide ((pc : Int) + o = pcs m (g0 a.2.2 0))
  | .if_icmp _ o => decide ((pc : Int) + o = pcs m (g0 a.2.2 0))
  | .tableswitch df lo hi offs => decide ((pc : Int) + df = pcs m (g0 a.2.2 0)) && decide (hi - lo + 1 = offs.size) && (List.range offs.size).all (fun i => match offs[i]? with
      | some o => decide ((pc : Int) + o = pcs m (g0 a.2.2 (i + 1)))
      | none => false)
  | .iconst n => decide (Int32.ofInt n = a.2.1)
  | .bipush n => decide ((Int8.ofInt n).toInt32 = a.2.1)
  | .sipush n => decide ((Int16.ofInt n).toInt32 = a.2.1)
  | .ldc k => if g0 a.2.2 0 = 0 then inW m (.constant (mY m).cls k a.2.1) else decide ((mY m).cls = "SighGranary$Script") && decide (g0 a.2.2 1 < 10) && decide (TXK.getD (g0 a.2.2 1) 0 = k)
  | .fconst f => decide (f = 0)
  | .dconst f => decide (f = 0)
  | .iload_n k => decide ((k : Nat) = g0 a.2.2 0)
  | .aload_n k => decide ((k : Nat) = g0 a.2.2 0)
  | .dload_n k => decide ((k : Nat) = g0 a.2.2 0)
  | .iload k => decide (k = g0 a.2.2 0)
  | .aload k => decide (k = g0 a.2.2 0)
  | .dload k => decide (k = g0 a.2.2 0)
  | .fload k => decide (k = g0 a.2.2 0)
  | .fstore k => decide (k = g0 a.2.2 0) && decide (g0 a.2.2 0 < ML m) && decide (∀ x ∈ dst m, x + 1 ≠ g0 a.2.2 0)
  | .istore_n k => decide ((k : Nat) = g0 a.2.2 0) && decide (g0 a.2.2 0 < ML m) && decide (∀ x ∈ dst m, x + 1 ≠ g0 a.2.2 0)
  | .astore_n k => decide ((k : Nat) = g0 a.2.2 0) && decide (g0 a.2.2 0 < ML m) && decide (∀ x ∈ dst m, x + 1 ≠ g0 a.2.2 0)
  | .istore k => decide (k = g0 a.2.2 0) && decide (g0 a.2.2 0 < ML m) && decide (∀ x ∈ dst m, x + 1 ≠ g0 a.2.2 0)
  | .astore k => decide (k = g0 a.2.2 0) && decide (g0 a.2.2 0 < ML m) && decide (∀ x ∈ dst m, x + 1 ≠ g0 a.2.2 0)
  | .dstore k => decide (k = g0 a.2.2 0) && decide (g0 a.2.2 0 + 1 < ML m) && decide (g0 a.2.2 0 ∈ dst m) && decide (∀ x ∈ dst m, x + 1 ≠ g0 a.2.2 0)
  | .dstore_n _ => false
  | .iinc k n => decide (k = g0 a.2.2 0) && decide (Int32.ofInt n = a.2.1) && decide (g0 a.2.2 0 < ML m) && decide (∀ x ∈ dst m, x + 1 ≠ g0 a.2.2 0)
  | .getfield k => chkF m k (g0 a.2.2 0) (g0 a.2.2 1) a.2.1
  | .putfield k => chkP m k (g0 a.2.2 0) (g0 a.2.2 1) (g0 a.2.2 2) a.2.1
  | .getstatic k => (match SFL[g0 a.2.2 0]? with
      | some q => inW m (.fieldLink (mY m).cls k q.1 q.2.1 q.2.2) && (if a.2.1 = 0 then decide (g0 a.2.2 0 = 0) else decide (a.2.1 = 1) && decide (g0 a.2.2 0 ≠ 0))
      | none => false)
  | .newarray t => inW m (.arrayClass (newarray.typeOf t)) && decide (kd (g0 a.2.2 0) = atK t) && decide (atK t ≠ 0)
  | .anewarray k => inW m (.classLink (mY m).cls k "SighGranary$Data") && inN m (.arrayOver (.object "SighGranary$Data")) && decide (g0 a.2.2 0 = 32)
  | .new k => if a.2.1 = 0 then (match clL[g0 a.2.2 0]? with
      | some q => inW m (.classLink (mY m).cls k q.1) && inW m (.instantiable q.1 q.2.2) && inW m (.initialized q.1) && decide (g0 a.2.2 1 = q.2.2)
      | none => false)
    else decide ((mY m).cls = "SighGranary") && decide (g0 a.2.2 0 < 6) && inW m (.classLink (mY m).cls k (EXL.getD (g0 a.2.2 0) "")) && inW m (.initialized (EXL.getD (g0 a.2.2 0) "")) && dcd m (pc + 3) .dup && dcd m (pc + 4) (.invokespecial (ICL.getD (g0 a.2.2 0) 0)) && dcd m (pc + 7) .athrow
  | .invokestatic k => if a.2.1 = 1 then inW m (.methodLink (mY m).cls k cpyW) && inW m (.native cpyW) && inW m (.static cpyW) && inW m (.initialized "java/lang/System")
    else decide (a.2.1 = 0) && (inH m (g0 a.2.2 2) (.methodLink (mY m).cls k (mY (g0 a.2.2 0))) || inG m (g0 a.2.2 2) (.methodLinkNest (mY m).cls k (mY (g0 a.2.2 0)) "SighGranary")) && inH m (g0 a.2.2 3) (.static (mY (g0 a.2.2 0))) && inH m (g0 a.2.2 4) (.initialized (mY (g0 a.2.2 0)).cls) && decide (prm (g0 a.2.2 0) = some (g0 a.2.2 1)) && clsOk (g0 a.2.2 0) && decide (g0 a.2.2 1 ≤ ML (g0 a.2.2 0)) && decide (g0 a.2.2 0 < 314 ∨ (m = 361 ∧ g0 a.2.2 0 < 361)) && (decide (m < 314) || decide (m = 361) || (htL.getD (m - 314) []).all (fun z => decide (z.1 ≤ pc) && decide (pc < z.2.1)))
  | .invokevirtual k => inH m (g0 a.2.2 3) (.methodLink (mY m).cls k (mY (g0 a.2.2 0))) && inH m (g0 a.2.2 4) (.instanceMethod (mY (g0 a.2.2 0))) && inH m (g0 a.2.2 5) (.selects (clN (g0 a.2.2 2)) (mY (g0 a.2.2 0)) (mY (g0 a.2.2 0))) && inH m (g0 a.2.2 6) (.initialized (mY (g0 a.2.2 0)).cls) && decide ((prm (g0 a.2.2 0)).map (· + 1) = some (g0 a.2.2 1)) && clsOk (g0 a.2.2 0) && decide (g0 a.2.2 2 ≤ 12) && decide (g0 a.2.2 1 ≤ ML (g0 a.2.2 0)) && decide (g0 a.2.2 0 < 314) && (decide (m < 314) || decide (m = 361) || (htL.getD (m - 314) []).all (fun z => decide (z.1 ≤ pc) && decide (pc < z.2.1)))
  | .invokespecial k => if a.2.1 = 2 then inW m (.methodLink (mY m).cls k objW) && inW m (.instanceMethod objW) && inW m (.code objW ⟨#[0xb1]⟩ 1 none)
    else if a.2.1 = 0 then (inH m (g0 a.2.2 3) (.methodLink (mY m).cls k (mY (g0 a.2.2 0))) || inG m (g0 a.2.2 3) (.methodLinkNest (mY m).cls k (mY (g0 a.2.2 0)) "SighGranary")) && inH m (g0 a.2.2 4) (.instanceMethod (mY (g0 a.2.2 0))) && inH m (g0 a.2.2 5) (.initialized (mY (g0 a.2.2 0)).cls) && decide ((mY (g0 a.2.2 0)).name = "<init>") && decide (mR (g0 a.2.2 0) = none) && decide ((prm (g0 a.2.2 0)).map (· + 1) = some (g0 a.2.2 1)) && clsOk (g0 a.2.2 0) && decide (g0 a.2.2 1 ≤ ML (g0 a.2.2 0)) && decide (g0 a.2.2 0 < 314) && (decide (m < 314) || decide (m = 361) || (htL.getD (m - 314) []).all (fun z => decide (z.1 ≤ pc) && decide (pc < z.2.1)))
    else decide (a.2.1 = 3) && inH m (g0 a.2.2 3) (.methodLink (mY m).cls k (mY (g0 a.2.2 0))) && inH m (g0 a.2.2 4) (.sameMethod (mY (g0 a.2.2 0)).cls (mY (g0 a.2.2 0)).cls (mY (g0 a.2.2 0)).name (mY (g0 a.2.2 0)).desc) && inH m (g0 a.2.2 5) (.superclass (mY m).cls (mY (g0 a.2.2 0)).cls) && inH m (g0 a.2.2 6) (.instanceMethod (mY (g0 a.2.2 0))) && inH m (g0 a.2.2 7) (.initialized (mY (g0 a.2.2 0)).cls) && decide ((mY (g0 a.2.2 0)).name ≠ "<init>") && decide ((prm (g0 a.2.2 0)).map (· + 1) = some (g0 a.2.2 1)) && decide (g0 a.2.2 2 = 10) && decide (g0 a.2.2 1 ≤ ML (g0 a.2.2 0)) && decide (g0 a.2.2 0 < 314) && (decide (m < 314) || decide (m = 361) || (htL.getD (m - 314) []).all (fun z => decide (z.1 ≤ pc) && decide (pc < z.2.1)))
  | .ireturn => decide ((g0 a.2.2 0 = 0 ∧ mR m = some .int) ∨ (g0 a.2.2 0 = 1 ∧ mR m = some .boolean) ∨ (g0 a.2.2 0 = 2 ∧ mR m = some .byte) ∨ (g0 a.2.2 0 = 3 ∧ mR m = some .char))
  | .areturn => (match mR m with
      | some t => isRefT t
      | none => false)
  | .freturn => decide (mR m = some .float)
  | .dreturn => decide (mR m = some .double)
  | .return_ => decide (mR m = none)
  | _ => true
def chkB (m : Nat) : Nat → List AI → Bool
  | _, [] => true
  | pc, a :: is => chkI m pc a && (match a.1 with
    | .nop => true
    | .tableswitch _ _ _ _ => (match decode (mB m) pc with
      | .ok (i, _) => decide (i = a.1)
      | .error _ => false)
    | _ => dcd m pc a.1 && chkB m (pc + ilen a.1) is)
def chkM (m : Nat) : Bool := (List.range (MCL.getD m []).length).all (fun b => chkB m (pcs m b) (MC m b)) && decide (pcs m 0 = 0)
/-- the handlers of a law's method: the exception, its place, the class that the row names, the store at its head -/
def chkH (m : Nat) : Bool := decide ((htL.getD (m - 314) []).length = (HD m).length) && (List.range (HD m).length).all (fun i =>
  match (HD m)[i]?, (htL.getD (m - 314) [])[i]? with
  | some (E, b, x), some (_, _, h, ct) => decide (E < 6) && inW m (.classLink (mY m).cls ct (EXL.getD E "")) && decide (ct ≠ 0) && decide (x < ML m) && (match decode (mB m) h with
      | .ok (.astore_n k, n) => decide ((k : Nat) = x) && decide (n = 1) && decide (h + 1 = pcs m b)
      | .ok (.astore k, n) => decide (k = x) && decide (n = 2) && decide (h + 2 = pcs m b)
      | _ => false)
  | _, _ => false)
