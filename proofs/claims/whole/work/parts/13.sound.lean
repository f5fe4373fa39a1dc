/-! calls, jumps and ends: every run of AM is a run of the machine -/
section Sound
variable {p : Program} {l : Launch} {e : Env} {R : Room} {s : State} {mi : MethodId} {args : Array Value} {below : List Frame} {meth : Method} {c : Code} {Q : State → Prop}
variable {D : va_G} {D7 : Nat → ClassId} {B0 : Nat} {E S0 : St} {α0 : Nat → Nat → Nat} {m : Nat}
theorem stp_all {a : AI} (h0 : ∀ k, a.1 = .new k → a.2.1 = 0) (h1 : ∀ k, a.1 = .invokestatic k → a.2.1 = 1) (h2 : ∀ k, a.1 = .invokespecial k → a.2.1 = 2) : StepOK p l e R s mi args below meth c Q D D7 B0 E S0 α0 m a := by
  obtain ⟨i, v, l9⟩ := a
  cases i with
  | iconst _ => exact st_iconst
  | bipush _ => exact st_bipush
  | sipush _ => exact st_sipush
  | fconst _ => exact st_fconst
  | dconst _ => exact st_dconst
  | ldc _ => exact st_ldc
  | iload_n _ => exact st_iload_n
  | iload _ => exact st_iload
  | aload_n _ => exact st_aload_n
  | aload _ => exact st_aload
  | dload_n _ => exact st_dload_n
  | dload _ => exact st_dload
  | istore_n _ => exact st_istore_n
  | istore _ => exact st_istore
  | astore_n _ => exact st_astore_n
  | astore _ => exact st_astore
  | dstore _ => exact st_dstore
  | fload _ => exact st_fload
  | fstore _ => exact st_fstore
  | iinc _ _ => exact st_iinc
  | pop => exact st_pop
  | dup => exact st_dup
  | dup_x1 => exact st_dup_x1
  | dup2 => exact st_dup2
  | iadd => exact st_iadd
  | isub => exact st_isub
  | imul => exact st_imul
  | iand => exact st_iand
  | ior => exact st_ior
  | ixor => exact st_ixor
  | ishl => exact st_ishl
  | ishr => exact st_ishr
  | idiv => exact st_idiv
  | irem => exact st_irem
  | ineg => exact st_ineg
  | i2l => exact st_i2l
  | i2c => exact st_i2c
  | i2b => exact st_i2b
  | i2f => exact st_i2f
  | i2d => exact st_i2d
  | f2d => exact st_f2d
  | fdiv => exact st_fdiv
  | ddiv => exact st_ddiv
  | lcmp => exact st_lcmp
  | dcmp _ => exact st_dcmp
  | getfield _ => exact st_getfield
  | putfield _ => exact st_putfield
  | getstatic _ => exact st_getstatic
  | iaload => exact st_iaload
  | baload => exact st_baload
  | caload => exact st_caload
  | laload => exact st_laload
  | daload => exact st_daload
  | aaload => exact st_aaload
  | iastore => exact st_iastore
  | castore => exact st_castore
  | bastore => exact st_bastore
  | lastore => exact st_lastore
  | dastore => exact st_dastore
  | aastore => exact st_aastore
  | arraylength => exact st_arraylength
  | invokespecial _ => exact st_invokespecial (h2 _ rfl)
  | newarray _ => exact st_newarray
  | anewarray _ => exact st_anewarray
  | new _ => exact st_new (h0 _ rfl)
  | invokestatic _ => exact st_invokestatic (h1 _ rfl)
  | dstore_n _ =>
    intro pc α S lv st H locs ls lv2 st2 S2 C I hc hd h
    exact absurd hc (by intro z; cases z)
  | _ =>
    intro pc α S lv st H locs ls lv2 st2 S2 C I hc hd h
    simp only [stp] at h
    cases h
def PostM (D : va_G) (D7 : Nat → ClassId) (B0 : Nat) (E : St) (α : Nat → Nat → Nat) (S S2 : St) (α2 : Nat → Nat → Nat) (t : State) : Prop := Grow α α2 S ∧ WI D D7 B0 α2 S2 t.heap ∧ RO S2 ∧ EqX S2 E
def CastOK (U : State) : Prop := (∀ w ∈ exB, va_Nw w U) ∧ ∀ j k, j < 6 → k < 6 → j ≠ k → va_Nc (EXL.getD j "") (EXL.getD k "") U
def PcM (D : va_G) (D7 : Nat → ClassId) (B0 : Nat) (E : St) (α : Nat → Nat → Nat) (S : St) (a : List AV) : Array Value → State → Prop := fun v U =>
  v = (a.map (conc α)).toArray ∧ (∀ x ∈ a, okv S x) ∧ catS a = a.length ∧ WI D D7 B0 α S U.heap ∧ RO S ∧ EqX S E ∧ ExtOK B0 α E U ∧ va_K D clL (tys D7) U ∧ B0 ≤ U.heap.size ∧ CastOK U
def QcM (D : va_G) (D7 : Nat → ClassId) (B0 : Nat) (E : St) (α : Nat → Nat → Nat) (S : St) (o : Ot) (S2 : St) : Array Value → State → Outcome → State → Prop := fun _ st oc t => match o with
  | .inl r => (∃ α2, oc = .returned (r.map (conc α2)) ∧ (∀ v, r = some v → okv S2 v) ∧ PostM D D7 B0 E α S S2 α2 t) ∧ va_F (fun q => B0 ≤ q) st t
  | .inr _ => False
def XcM (D : va_G) (D7 : Nat → ClassId) (B0 : Nat) (E : St) (α : Nat → Nat → Nat) (S : St) (o : Ot) (S2 : St) : String → State → State → Prop := fun nm st t => match o with
  | .inl _ => False
  | .inr k => nm = EXL.getD k "" ∧ (∃ α2, PostM D D7 B0 E α S S2 α2 t) ∧ va_F (fun q => B0 ≤ q) st t
def rmD (d mc ms : Nat) : Room := { frames := 10 + 2 * d, cells := mc, slots := ms, locals := 200 + 60 * d }
def wsM (m : Nat) : List Jvm.Cond := .code (mY m) (mB m) (ML m) (mR m) :: TWG
def MetAM (l : Launch) (D : va_G) (D7 : Nat → ClassId) (B0 : Nat) (E : St) (d m : Nat) (a : List AV) (S : St) (o : Ot) (S2 : St) (α : Nat → Nat → Nat) : Prop :=
  vx_Met l (mY m) (wsM m) (rmD d (sN S2 - sN S) (sM S2 - sM S)) (PcM D D7 B0 E α S a) (QcM D D7 B0 E α S o S2) (XcM D D7 B0 E α S o S2) (sN S2 - sN S) (sM S2 - sM S) (fun q => B0 ≤ q)
/-- behind a call: it came back, or threw -/
theorem call_on {α1 : Nat → Nat → Nat} {S1 S3 : St} {lv rest : List AV} {H1 : Heap} {locs1 : List Loc} {ls1 : Array Slot} {o1 : Ot} {va : Array Value} {pc : Nat} {st0 : List Value}
    (C : Cx p l s mi args meth c D D7 B0 E S0 m) (I : Iv s D D7 B0 E S0 α0 m α1 S1 lv rest H1 locs1 ls1) (hm : Mn S1 S3)
    (hr : vx_Run p l e R s mi args below meth c H1 locs1 (sN S1 - sN S0) (sM S1 - sM S0) (sN S3 - sN S1) (sM S3 - sM S1) (F0 mi pc ls1 st0) (rest.map (conc α1)) (QcM D D7 B0 E α1 S1 o1 S3 va) (XcM D D7 B0 E α1 S1 o1 S3) (fun q => B0 ≤ q))
    (kk : ∀ (r : Option AV), o1 = .inl r → ∀ (α2 : Nat → Nat → Nat) (H2 : Heap) (locs2 : List Loc), Iv s D D7 B0 E S0 α0 m α2 S3 lv (r.toList ++ rest) H2 locs2 ls1 → W p l e R s mi args below meth c H2 locs2 (sN S3 - sN S0) (sM S3 - sM S0) Q (F0 mi (pc + 3) ls1 ((r.toList ++ rest).map (conc α2))))
    (kx : ∀ (k : Nat), o1 = .inr k → ∀ (α2 : Nat → Nat → Nat) (H2 : Heap) (locs2 : List Loc) (q : Addr) (ce : Cell), Iv s D D7 B0 E S0 α0 m α2 S3 lv [] H2 locs2 ls1 → H2[q]? = some ce → ce.vm = .none → s.vm.findClass (EXL.getD k "") = some ce.cls → vx_W p l e R s mi args below meth c H2 locs2 (sN S3 - sN S0) (sM S3 - sM S0) Q (F0 mi pc ls1 (rest.map (conc α1))) q) :
    W p l e R s mi args below meth c H1 locs1 (sN S1 - sN S0) (sM S1 - sM S0) Q (F0 mi pc ls1 st0) := by
  obtain ⟨hx, hb, hml, hown, hts, hK, hret, hlk, hB0, hnm, htr⟩ := C
  obtain ⟨wi, ro, eq, ext, hS, so, lo, lvo, gr, mn⟩ := I
  have c1 : sN S1 - sN S0 + (sN S3 - sN S1) = sN S3 - sN S0 := by have := mn.2.1; have := hm.2.1; omega
  have c2 : sM S1 - sM S0 + (sM S3 - sM S1) = sM S3 - sM S0 := by have := mn.2.2; have := hm.2.2; omega
  intro T hT X
  rcases hr T hT X with ⟨v, st₀, t, T', L, h0, X', hL, e1, e2, hq, st9⟩ | ⟨q, st₀, t, T', L, nm, ce, h0, X', hL, e1, e2, hx9, hce, hcv, hcl, st9⟩
  · cases o1 with
    | inr k => exact absurd hq (by intro z; exact z)
    | inl r =>
      obtain ⟨⟨α2, hv, hok, g, wi2, ro2, eq2⟩, hF⟩ := hq
      obtain ⟨k1, k2, k3⟩ := vx_keep (A0 := fun q => B0 ≤ q) h0 e1 hS (fun q _ h => h) (fun q h => h) hL hF
      have hv2 : v = r.map (conc α2) := by cases hv; rfl
      rw [c1, c2] at X'
      have I2 : Iv s D D7 B0 E S0 α0 m α2 S3 lv (r.toList ++ rest) T'.heap (locs1 ++ L) ls1 := by
        refine ⟨by rw [e1]; exact wi2, ro2, eq2, ext.grow g ro eq, k3, fun z hz => ?_, lo.grow g lvo, fun z hz => (lvo z hz).imp id (okv.mn hm), gr.tr mn g, mn.tr hm⟩
        rcases List.mem_append.mp hz with hz | hz
        · cases r with
          | none => cases hz
          | some w => rw [List.mem_singleton.mp hz]; exact hok w rfl
        · exact okv.mn hm (so z hz)
      obtain ⟨t2, a1, b1⟩ := kk r rfl α2 T'.heap (locs1 ++ L) I2 T' rfl X'
      refine ⟨t2, st9 t2 ?_, b1⟩
      have e9 : v.toList ++ rest.map (conc α1) = (r.toList ++ rest).map (conc α2) := by
        rw [hv2, List.map_append, g.mp so]
        cases r <;> rfl
      rw [e9]
      exact a1
  · cases o1 with
    | inl r => exact absurd hx9 (by intro z; exact z)
    | inr k =>
      obtain ⟨hnm9, ⟨α2, g, wi2, ro2, eq2⟩, hF⟩ := hx9
      obtain ⟨k1, k2, k3⟩ := vx_keep (A0 := fun q => B0 ≤ q) h0 e1 hS (fun q _ h => h) (fun q h => h) hL hF
      rw [c1, c2] at X'
      have I2 : Iv s D D7 B0 E S0 α0 m α2 S3 lv [] T'.heap (locs1 ++ L) ls1 := ⟨by rw [e1]; exact wi2, ro2, eq2, ext.grow g ro eq, k3, fun z hz => (by cases hz), lo.grow g lvo, fun z hz => (lvo z hz).imp id (okv.mn hm), gr.tr mn g, mn.tr hm⟩
      obtain ⟨t2, a1, b1⟩ := kx k rfl α2 T'.heap (locs1 ++ L) q ce I2 (by rw [e1]; exact hce) hcv (by rw [← hnm9]; exact hcl) T' rfl X'
      exact ⟨t2, st9.trans a1, b1⟩
theorem Iv.rest {α1 : Nat → Nat → Nat} {S1 : St} {lv st : List AV} {H1 : Heap} {locs1 : List Loc} {ls1 : Array Slot} (I : Iv s D D7 B0 E S0 α0 m α1 S1 lv st H1 locs1 ls1) {st2 : List AV} (h : ∀ z ∈ st2, okv S1 z) : Iv s D D7 B0 E S0 α0 m α1 S1 lv st2 H1 locs1 ls1 := by
  obtain ⟨wi, ro, eq, ext, hS, so, lo, lvo, gr, mn⟩ := I
  exact ⟨wi, ro, eq, ext, hS, h, lo, lvo, gr, mn⟩
/-- what each call site owes: the run of the callee -/
def RunOK (p : Program) (l : Launch) (e : Env) (R : Room) (s : State) (mi : MethodId) (args : Array Value) (below : List Frame) (meth : Method) (c : Code) (D : va_G) (D7 : Nat → ClassId) (B0 : Nat) (E S0 : St) (α0 : Nat → Nat → Nat) (m : Nat) (cal : Nat → List AV → St → Rs) (hd : List (Nat × Nat × Nat)) (o : Ot) (S2 : St) : Prop :=
  ∀ (a : AI) (pc : Nat) (lv st : List AV) (S1 : St) (α1 : Nat → Nat → Nat) (H1 : Heap) (locs1 : List Loc) (ls1 : Array Slot) (o1 : Ot) (S3 : St), ((∃ k, a.1 = .invokestatic k ∧ a.2.1 ≠ 1) ∨ (∃ k, a.1 = .invokevirtual k ∧ rcv st (g0 a.2.2 1) (g0 a.2.2 2) = true) ∨ ∃ k, a.1 = .invokespecial k ∧ a.2.1 ≠ 2 ∧ rcv st (g0 a.2.2 1) (g0 a.2.2 2) = true) →
    chkI m pc a = true → dcd m pc a.1 = true → catS (st.drop (g0 a.2.2 1)) ≤ 8 → g0 a.2.2 1 ≤ st.length → catS (st.take (g0 a.2.2 1)) = g0 a.2.2 1 → cal (g0 a.2.2 0) (st.take (g0 a.2.2 1)).reverse S1 = some (o1, S3) → Mn S3 S2 → (∀ k, o1 = .inr k → fh hd k = none → o = .inr k) → Iv s D D7 B0 E S0 α0 m α1 S1 lv st H1 locs1 ls1 →
    ∃ va, vx_Run p l e R s mi args below meth c H1 locs1 (sN S1 - sN S0) (sM S1 - sM S0) (sN S3 - sN S1) (sM S3 - sM S1) (F0 mi pc ls1 (st.map (conc α1))) ((st.drop (g0 a.2.2 1)).map (conc α1)) (QcM D D7 B0 E α1 S1 o1 S3 va) (XcM D D7 B0 E α1 S1 o1 S3) (fun q => B0 ≤ q)
def isRet (i : Instr) : Bool := match i with
  | .ireturn => true
  | .areturn => true
  | .freturn => true
  | .dreturn => true
  | .return_ => true
  | _ => false
theorem tsw_tgt {pc : Nat} {df lo hi : Int} {offs : Array Int} {v : Int32} {l9 : List Nat} {x : Int32} (hc : chkI m pc (.tableswitch df lo hi offs, v, l9) = true) (h1 : ¬ x.toInt < lo) (h2 : ¬ hi < x.toInt) : ∃ o, offs[(x.toInt - lo).toNat]? = some o ∧ (pc : Int) + o = pcs m (g0 l9 ((x.toInt - lo).toNat + 1)) := by
  simp only [chkI, Bool.and_eq_true, decide_eq_true_eq, List.all_eq_true, List.mem_range] at hc
  obtain ⟨⟨-, hsz⟩, hall⟩ := hc
  have hlt : (x.toInt - lo).toNat < offs.size := by omega
  have := hall _ hlt
  cases ho : offs[(x.toInt - lo).toNat]? with
  | none => rw [ho] at this; cases this
  | some o => rw [ho] at this; exact ⟨o, rfl, of_decide_eq_true this⟩
set_option maxHeartbeats 8000000 in
theorem walk_ok {cal : Nat → List AV → St → Rs} {jmp : Nat → List AV → List AV → St → Rs} {hd : List (Nat × Nat × Nat)} {o : Ot} {S2 : St} (C : Cx p l s mi args meth c D D7 B0 E S0 m)
    (hcm : ∀ m2 a S1 o1 S3, cal m2 a S1 = some (o1, S3) → Mn S1 S3) (hjm : ∀ b lv st S1 o1 S3, jmp b lv st S1 = some (o1, S3) → Mn S1 S3)
    (hj : ∀ b lv st S1 α1 H1 locs1 ls1, jmp b lv st S1 = some (o, S2) → Iv s D D7 B0 E S0 α0 m α1 S1 lv st H1 locs1 ls1 → W p l e R s mi args below meth c H1 locs1 (sN S1 - sN S0) (sM S1 - sM S0) Q (F0 mi (pcs m b) ls1 (st.map (conc α1))))
    (hrun : RunOK p l e R s mi args below meth c D D7 B0 E S0 α0 m cal hd o S2)
    (hexc : ∀ k S3 α1 (H1 : Heap) locs1 lv ls1 pc (a : AI) rest (q : Addr) (ce : Cell), ((∃ n, a.1 = .invokestatic n ∧ a.2.1 ≠ 1) ∨ (∃ n, a.1 = .invokevirtual n) ∨ ∃ n, a.1 = .invokespecial n ∧ a.2.1 ≠ 2) → chkI m pc a = true → (match fh hd k with
        | none => some (.inr k, S3)
        | some x => jmp x.1 (lv.set x.2 unk) [] S3) = some (o, S2) → Iv s D D7 B0 E S0 α0 m α1 S3 lv [] H1 locs1 ls1 → H1[q]? = some ce → ce.vm = .none → s.vm.findClass (EXL.getD k "") = some ce.cls → vx_W p l e R s mi args below meth c H1 locs1 (sN S3 - sN S0) (sM S3 - sM S0) Q (F0 mi pc ls1 rest) q)
    (hend : ∀ (a : AI) pc lv st S1 α1 H1 locs1 ls1, isRet a.1 = true → chkI m pc a = true → dcd m pc a.1 = true → exF cal jmp hd [a] lv st S1 = some (o, S2) → Iv s D D7 B0 E S0 α0 m α1 S1 lv st H1 locs1 ls1 → W p l e R s mi args below meth c H1 locs1 (sN S1 - sN S0) (sM S1 - sM S0) Q (F0 mi pc ls1 (st.map (conc α1))))
    (hthr : ∀ (k9 : Nat) (v : Int32) l9 pc lv st S1 α1 H1 locs1 ls1, v ≠ 0 → chkI m pc (.new k9, v, l9) = true → dcd m pc (.new k9) = true → catS st ≤ 8 → (o, S2) = (.inr (g0 l9 0), wst S1 1 6) → Iv s D D7 B0 E S0 α0 m α1 S1 lv st H1 locs1 ls1 → W p l e R s mi args below meth c H1 locs1 (sN S1 - sN S0) (sM S1 - sM S0) Q (F0 mi pc ls1 (st.map (conc α1))))
    (hR1 : sN S2 - sN S0 ≤ R.cells) (hR2 : sM S2 - sM S0 ≤ R.slots) (hF : 2 ≤ R.frames) (hLo : 150 ≤ R.locals) :
    ∀ (is : List AI) (pc : Nat) (lv st : List AV) (S1 : St) (α1 : Nat → Nat → Nat) (H1 : Heap) (locs1 : List Loc) (ls1 : Array Slot), chkB m pc is = true → exF cal jmp hd is lv st S1 = some (o, S2) → Iv s D D7 B0 E S0 α0 m α1 S1 lv st H1 locs1 ls1 →
      W p l e R s mi args below meth c H1 locs1 (sN S1 - sN S0) (sM S1 - sM S0) Q (F0 mi pc ls1 (st.map (conc α1))) := by
  intro is
  induction is with
  | nil => intro pc lv st S1 α1 H1 locs1 ls1 _ h; simp [exF] at h
  | cons a is ih =>
    intro pc lv st S1 α1 H1 locs1 ls1 hcb h I
    have hx := C.1
    have hb := C.2.1
    -- straight
    have straight : (∀ k, a.1 = .new k → a.2.1 = 0) → (∀ k, a.1 = .invokestatic k → a.2.1 = 1) → (∀ k, a.1 = .invokespecial k → a.2.1 = 2) → chkI m pc a = true → dcd m pc a.1 = true → chkB m (pc + ilen a.1) is = true → nxt (stp a lv st S1) (exF cal jmp hd is) = some (o, S2) → W p l e R s mi args below meth c H1 locs1 (sN S1 - sN S0) (sM S1 - sM S0) Q (F0 mi pc ls1 (st.map (conc α1))) := by
      intro h0 h1 h2 hci hdc hcb2 hn
      cases hs : stp a lv st S1 with
      | none => rw [hs] at hn; cases hn
      | some r =>
        rw [hs] at hn
        obtain ⟨lv2, st2, S3⟩ := r
        have hmn : Mn S3 S2 := exF_mn hcm hjm _ _ _ _ _ _ hn
        have a1 := hmn.2.1
        have a2 := hmn.2.2
        exact stp_all h0 h1 h2 pc α1 S1 lv st H1 locs1 ls1 lv2 st2 S3 C I hci hdc hs (by omega) (by omega) hF hLo (fun α2 H2 locs2 ls2 I2 => ih _ _ _ _ _ _ _ _ hcb2 hn I2)
    -- calls
    have calls : ((∃ k, a.1 = .invokestatic k ∧ a.2.1 ≠ 1) ∨ (∃ k, a.1 = .invokevirtual k ∧ rcv st (g0 a.2.2 1) (g0 a.2.2 2) = true) ∨ ∃ k, a.1 = .invokespecial k ∧ a.2.1 ≠ 2 ∧ rcv st (g0 a.2.2 1) (g0 a.2.2 2) = true) → chkI m pc a = true → dcd m pc a.1 = true → chkB m (pc + 3) is = true → cll cal jmp hd (exF cal jmp hd is) (g0 a.2.2 0) (g0 a.2.2 1) lv st S1 = some (o, S2) → W p l e R s mi args below meth c H1 locs1 (sN S1 - sN S0) (sM S1 - sM S0) Q (F0 mi pc ls1 (st.map (conc α1))) := by
      intro hk hci hdc hcb2 hn
      unfold cll at hn
      split at hn
      · rename_i hg
        obtain ⟨g1, g2, g3⟩ := hg
        cases hcl : cal (g0 a.2.2 0) (st.take (g0 a.2.2 1)).reverse S1 with
        | none => rw [hcl] at hn; cases hn
        | some r =>
          obtain ⟨o1, S3⟩ := r
          rw [hcl] at hn
          have hm13 := hcm _ _ _ _ _ hcl
          have hm32 : Mn S3 S2 := by
            cases o1 with
            | inl r => exact exF_mn hcm hjm _ _ _ _ _ _ hn
            | inr k =>
              dsimp only at hn
              cases hf : fh hd k with
              | none => rw [hf] at hn; cases hn; exact Mn.rf
              | some x => rw [hf] at hn; exact hjm _ _ _ _ _ _ hn
          have hthw : ∀ k, o1 = .inr k → fh hd k = none → o = .inr k := by
            intro k hk9 hf
            subst hk9
            dsimp only at hn
            rw [hf] at hn
            cases hn
            rfl
          obtain ⟨va, hr⟩ := hrun a pc lv st S1 α1 H1 locs1 ls1 o1 S3 hk hci hdc g1 g2 g3 hcl hm32 hthw I
          have so : ∀ z ∈ st.drop (g0 a.2.2 1), okv S1 z := fun z hz => I.2.2.2.2.2.1 z (List.mem_of_mem_drop hz)
          refine call_on C (I.rest so) hm13 hr (fun r hr9 α2 H2 locs2 I2 => ?_) (fun k hk9 α2 H2 locs2 q ce I2 hq hcv hcl9 => ?_)
          · subst hr9
            exact ih _ _ _ _ _ _ _ _ hcb2 hn I2
          · subst hk9
            refine hexc k S3 α2 H2 locs2 lv ls1 pc a _ q ce ?_ hci ?_ I2 hq hcv hcl9
            · rcases hk with ⟨n, z, z2⟩ | ⟨n, z, -⟩ | ⟨n, z, z2, -⟩
              · exact Or.inl ⟨n, z, z2⟩
              · exact Or.inr (Or.inl ⟨n, z⟩)
              · exact Or.inr (Or.inr ⟨n, z, z2⟩)
            · dsimp only at hn
              cases hf : fh hd k with
              | none => rw [hf] at hn; exact hn
              | some x => rw [hf] at hn; exact hn
      · cases hn
    obtain ⟨i, v, l9⟩ := a
    have hci : chkI m pc (i, v, l9) = true := by
      unfold chkB at hcb
      simp only [Bool.and_eq_true] at hcb
      exact hcb.1
    have hrest : (∀ _ : Unit, i ≠ .nop) → (∀ d9 lo hi os, i ≠ .tableswitch d9 lo hi os) → dcd m pc i = true ∧ chkB m (pc + ilen i) is = true := by
      intro n1 n2
      unfold chkB at hcb
      simp only [Bool.and_eq_true] at hcb
      have h2 := hcb.2
      cases i <;> first
        | (exact absurd rfl (n1 ()))
        | (exact absurd rfl (n2 _ _ _ _))
        | (simpa using h2)
    cases i with
    | nop =>
      simp only [exF] at h
      split at h
      · rename_i hv
        simp only [chkI] at hci
        rw [if_pos hv] at hci
        have := hj _ _ _ _ _ _ _ _ h I
        rw [of_decide_eq_true hci] at this
        exact this
      · cases h
    | goto off =>
      obtain ⟨hdc, -⟩ := hrest (fun _ z => by cases z) (fun _ _ _ _ z => by cases z)
      simp only [exF] at h
      exact lv_goto hx hb (of_decide_eq_true hdc) (of_decide_eq_true hci) (hj _ _ _ _ _ _ _ _ h I)
    | ifCond cd off =>
      obtain ⟨hdc, hcb2⟩ := hrest (fun _ z => by cases z) (fun _ _ _ _ z => by cases z)
      simp only [exF] at h
      replace h := pI_some h
      obtain ⟨x, st3, rfl, h⟩ := h
      have I3 := I.rest (st2 := st3) (fun z hz => I.2.2.2.2.2.1 z (List.mem_cons_of_mem _ hz))
      have ht : (pc : Int) + off = (pcs m (g0 l9 0) : Nat) := of_decide_eq_true hci
      have kt : caseN cd x 0 = true → W p l e R s mi args below meth c H1 locs1 (sN S1 - sN S0) (sM S1 - sM S0) Q (F0 mi (pcs m (g0 l9 0)) ls1 (st3.map (conc α1))) := fun hc9 => by
        rw [if_pos hc9] at h
        exact hj _ _ _ _ _ _ _ _ h I3
      have kf : ¬ caseN cd x 0 = true → W p l e R s mi args below meth c H1 locs1 (sN S1 - sN S0) (sM S1 - sM S0) Q (F0 mi (pc + 3) ls1 (st3.map (conc α1))) := fun hc9 => by
        rw [if_neg hc9] at h
        exact ih _ _ _ _ _ _ _ _ hcb2 h I3
      cases cd with
      | eq => exact lv_if_eq hx hb (of_decide_eq_true hdc) ht (fun z => kt (decide_eq_true z)) (fun z => kf (fun y => z (of_decide_eq_true y)))
      | ne => exact lv_if_ne hx hb (of_decide_eq_true hdc) ht (fun z => kt (decide_eq_true z)) (fun z => kf (fun y => (of_decide_eq_true (p := ¬ x = 0) y) z))
      | lt => exact lv_if_lt hx hb (of_decide_eq_true hdc) ht (fun z => kt (decide_eq_true z)) (fun z => kf (fun y => z (of_decide_eq_true y)))
      | ge => exact lv_if_ge hx hb (of_decide_eq_true hdc) ht (fun z => kt (decide_eq_true z)) (fun z => kf (fun y => z (of_decide_eq_true y)))
      | gt => exact lv_if_gt hx hb (of_decide_eq_true hdc) ht (fun z => kt (decide_eq_true z)) (fun z => kf (fun y => z (of_decide_eq_true y)))
      | le => exact lv_if_le hx hb (of_decide_eq_true hdc) ht (fun z => kt (decide_eq_true z)) (fun z => kf (fun y => z (of_decide_eq_true y)))
    | if_icmp cd off =>
      obtain ⟨hdc, hcb2⟩ := hrest (fun _ z => by cases z) (fun _ _ _ _ z => by cases z)
      simp only [exF] at h
      replace h := pII_some h
      obtain ⟨x, y, st3, rfl, h⟩ := h
      have I3 := I.rest (st2 := st3) (fun z hz => I.2.2.2.2.2.1 z (List.mem_cons_of_mem _ (List.mem_cons_of_mem _ hz)))
      have ht : (pc : Int) + off = (pcs m (g0 l9 0) : Nat) := of_decide_eq_true hci
      have kt : caseN cd x y = true → W p l e R s mi args below meth c H1 locs1 (sN S1 - sN S0) (sM S1 - sM S0) Q (F0 mi (pcs m (g0 l9 0)) ls1 (st3.map (conc α1))) := fun hc9 => by
        rw [if_pos hc9] at h
        exact hj _ _ _ _ _ _ _ _ h I3
      have kf : ¬ caseN cd x y = true → W p l e R s mi args below meth c H1 locs1 (sN S1 - sN S0) (sM S1 - sM S0) Q (F0 mi (pc + 3) ls1 (st3.map (conc α1))) := fun hc9 => by
        rw [if_neg hc9] at h
        exact ih _ _ _ _ _ _ _ _ hcb2 h I3
      cases cd with
      | eq => exact lv_icmp_eq hx hb (of_decide_eq_true hdc) ht (fun z => kt (decide_eq_true z)) (fun z => kf (fun y => z (of_decide_eq_true y)))
      | ne => exact lv_icmp_ne hx hb (of_decide_eq_true hdc) ht (fun z => kt (decide_eq_true z)) (fun z => kf (fun y9 => (of_decide_eq_true (p := ¬ x = y) y9) z))
      | lt => exact lv_icmp_lt hx hb (of_decide_eq_true hdc) ht (fun z => kt (decide_eq_true z)) (fun z => kf (fun y => z (of_decide_eq_true y)))
      | ge => exact lv_icmp_ge hx hb (of_decide_eq_true hdc) ht (fun z => kt (decide_eq_true z)) (fun z => kf (fun y => z (of_decide_eq_true y)))
      | gt => exact lv_icmp_gt hx hb (of_decide_eq_true hdc) ht (fun z => kt (decide_eq_true z)) (fun z => kf (fun y => z (of_decide_eq_true y)))
      | le => exact lv_icmp_le hx hb (of_decide_eq_true hdc) ht (fun z => kt (decide_eq_true z)) (fun z => kf (fun y => z (of_decide_eq_true y)))
    | tableswitch df lo hi offs =>
      obtain ⟨len, hdg⟩ : ∃ len, decode (mB m) pc = .ok (.tableswitch df lo hi offs, len) := by
        unfold chkB at hcb
        simp only [Bool.and_eq_true] at hcb
        have h2 := hcb.2
        cases hdx : decode (mB m) pc with
        | error er => rw [hdx] at h2; cases h2
        | ok r =>
          obtain ⟨i9, n9⟩ := r
          rw [hdx] at h2
          exact ⟨n9, by rw [show i9 = _ from of_decide_eq_true h2]⟩
      simp only [exF] at h
      replace h := pI_some h
      obtain ⟨x, st3, rfl, h⟩ := h
      have I3 := I.rest (st2 := st3) (fun z hz => I.2.2.2.2.2.1 z (List.mem_cons_of_mem _ hz))
      by_cases hr : x.toInt < lo ∨ hi < x.toInt
      · rw [if_pos hr] at h
        have ht : (pc : Int) + df = (pcs m (g0 l9 0) : Nat) := by
          simp only [chkI, Bool.and_eq_true, decide_eq_true_eq] at hci
          exact hci.1.1
        exact lv_tableOut hx hb hdg hr ht (hj _ _ _ _ _ _ _ _ h I3)
      · rw [if_neg hr] at h
        obtain ⟨h1, h2⟩ := not_or.mp hr
        obtain ⟨of9, ho, ht⟩ := tsw_tgt hci h1 h2
        exact lv_tableIn hx hb hdg h1 h2 ho ht (hj _ _ _ _ _ _ _ _ h I3)
    | new k9 =>
      obtain ⟨hdc, hcb2⟩ := hrest (fun _ z => by cases z) (fun _ _ _ _ z => by cases z)
      simp only [exF] at h
      split at h
      · rename_i hv
        exact straight (fun _ _ => hv) (fun _ z => by cases z) (fun _ z => by cases z) hci hdc hcb2 h
      · rename_i hv
        split at h
        · rename_i hcs
          exact hthr k9 v l9 pc lv st S1 α1 H1 locs1 ls1 hv hci hdc hcs (by cases h; rfl) I
        · cases h
    | invokestatic k9 =>
      obtain ⟨hdc, hcb2⟩ := hrest (fun _ z => by cases z) (fun _ _ _ _ z => by cases z)
      simp only [exF] at h
      split at h
      · rename_i hv
        exact straight (fun _ z => by cases z) (fun _ _ => hv) (fun _ z => by cases z) hci hdc hcb2 h
      · rename_i hv
        exact calls (Or.inl ⟨k9, rfl, hv⟩) hci hdc hcb2 h
    | invokevirtual k9 =>
      obtain ⟨hdc, hcb2⟩ := hrest (fun _ z => by cases z) (fun _ _ _ _ z => by cases z)
      simp only [exF] at h
      split at h
      · rename_i hv
        exact calls (Or.inr (Or.inl ⟨k9, rfl, hv⟩)) hci hdc hcb2 h
      · cases h
    | invokespecial k9 =>
      obtain ⟨hdc, hcb2⟩ := hrest (fun _ z => by cases z) (fun _ _ _ _ z => by cases z)
      simp only [exF] at h
      split at h
      · rename_i hv
        exact straight (fun _ z => by cases z) (fun _ z => by cases z) (fun _ _ => hv) hci hdc hcb2 h
      · rename_i hv
        split at h
        · rename_i hv2
          exact calls (Or.inr (Or.inr ⟨k9, rfl, hv, hv2⟩)) hci hdc hcb2 h
        · cases h
    | ireturn => exact hend _ pc lv st S1 α1 H1 locs1 ls1 rfl hci (hrest (fun _ z => by cases z) (fun _ _ _ _ z => by cases z)).1 h I
    | areturn => exact hend _ pc lv st S1 α1 H1 locs1 ls1 rfl hci (hrest (fun _ z => by cases z) (fun _ _ _ _ z => by cases z)).1 h I
    | freturn => exact hend _ pc lv st S1 α1 H1 locs1 ls1 rfl hci (hrest (fun _ z => by cases z) (fun _ _ _ _ z => by cases z)).1 h I
    | dreturn => exact hend _ pc lv st S1 α1 H1 locs1 ls1 rfl hci (hrest (fun _ z => by cases z) (fun _ _ _ _ z => by cases z)).1 h I
    | return_ => exact hend _ pc lv st S1 α1 H1 locs1 ls1 rfl hci (hrest (fun _ z => by cases z) (fun _ _ _ _ z => by cases z)).1 h I
    | _ =>
      obtain ⟨hdc, hcb2⟩ := hrest (fun _ z => by cases z) (fun _ _ _ _ z => by cases z)
      simp only [exF] at h
      exact straight (fun _ z => by cases z) (fun _ z => by cases z) (fun _ z => by cases z) hci hdc hcb2 h

end Sound
