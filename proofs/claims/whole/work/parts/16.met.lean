/-! the contract of every method without handlers -/
section Met2
variable {p : Program} {l : Launch} {e : Env} {R : Room} {s : State} {mi : MethodId} {args : Array Value} {below : List Frame} {meth : Method} {c : Code}
variable {D : va_G} {D7 : Nat → ClassId} {B0 : Nat} {E S0 : St} {α0 : Nat → Nat → Nat} {m : Nat}
/-- as vx_ofW, for a method that no row of the natives overrides -/
theorem vx_ofWF {y : MethodName} {ws ws' : List Cond} {rm : Room} {Pc : Array Value → State → Prop} {Qc : Array Value → State → Outcome → State → Prop} {XC : String → State → State → Prop} {mc ms : Nat} {free : Addr → Prop} {cc : ByteArray} {maxL : Nat} {ret : Option FieldType}
    (hy : plainFor y = true) (hw : ws = Cond.code y cc maxL ret :: ws')
    (body : ∀ p e s m args below meth c s₁, BodyLoose p l y (headSpec ws rm) cc maxL ret e s m args below meth c s₁ → c.maxLocals = maxL → (∀ x ∈ c.exceptionTable.toList, False) → Pc args s →
      W p l e (headSpec ws rm).room s m args below meth c s.heap [] 0 0 (vx_MQ below Qc XC args s mc ms free) (entryFrame m args maxL)) : vx_Met l y ws rm Pc Qc XC mc ms free := by
  refine MetFree.of_bodySF (code := cc) (maxLocals := maxL) (ret := ret) hy ?_ ?_
  · intro args s m h hn
    obtain ⟨meth, c, h1, h2, h3, h4, h5, h6, -, -⟩ := Cond.code_spec hn (atoms_spec (ws := ws) h _ (by rw [hw]; exact List.mem_cons_self))
    exact ⟨meth, c, h1, h2, h3, h4, h5, h6⟩
  · intro p e s m args below meth c s₁ B hml hP _
    have hh0 : s₁.heap = s.heap := by rw [B.state]; rfl
    have ht : ∀ x ∈ c.exceptionTable.toList, False := by
      obtain ⟨meth9, c9, h1, h2, -, -, -, -, h7, -⟩ := Cond.code_spec B.named (atoms_spec (ws := ws) B.pre _ (by rw [hw]; exact List.mem_cons_self))
      cases Option.some.inj (h1.symm.trans B.method)
      cases Option.some.inj (h2.symm.trans (Stand.of_body B).code)
      intro x hx
      rw [Array.isEmpty_iff.mp h7] at hx
      cases hx
    obtain ⟨t, a1, o, b1, b2, b3⟩ := body p e s m args below meth c s₁ B hml ht hP s₁ hh0 (Stand.of_body B)
    exact ⟨t, o, a1, b1, b2, b3⟩
theorem thr_words {k : Nat} (hk : k < 6) (hts : ∀ w ∈ TWG, w.before args s = true) (hc : CastOK s) : ∀ w ∈ exA k, w.before args s = true := by
  intro w hw
  have h := List.all_eq_true.mp (List.all_eq_true.mp ex_words k (List.mem_range.mpr hk)) w hw
  simp only [Bool.or_eq_true, Bool.and_eq_true, decide_eq_true_eq] at h
  rcases h with ⟨h1, h2⟩ | h
  · exact hts w (List.mem_filter.mpr ⟨ew_mem h1, h2⟩)
  · exact exB_at h (hc.1 w h)
theorem thr_ot {k : Nat} (hk : k < 6) : (∀ w ∈ exA k, vx_ot w = true) ∧ Bundle.fit (EXL.getD k "") = true := by
  have h := List.all_eq_true.mp ex_ot k (List.mem_range.mpr hk)
  simp only [Bool.and_eq_true] at h
  exact ⟨fun w hw => List.all_eq_true.mp h.1 w hw, h.2⟩
theorem inW_good {m : Nat} {w : Jvm.Cond} (h : inW m w = true) : vx_ot w = true := by
  simp only [inW, Bool.and_eq_true] at h
  simp only [vx_ot, h.2, Bool.or_true]
/-- where a run of AM stands, the world is the one that is owed -/
theorem Iv.post {α1 : Nat → Nat → Nat} {S1 : St} {lv st : List AV} {H1 : Heap} {locs1 : List Loc} {ls1 : Array Slot} (I : Iv s D D7 B0 E S0 α0 m α1 S1 lv st H1 locs1 ls1) {t : State} (ht : t.heap = H1) : PostM D D7 B0 E α0 S0 S1 α1 t := by
  obtain ⟨wi, ro, eq, ext, hS, so, lo, lvo, gr, mn⟩ := I
  exact ⟨gr, by rw [ht]; exact wi, ro, eq⟩
/-- the ends: what each return owes -/
theorem end_ok0 {cal : Nat → List AV → St → Rs} {jmp : Nat → List AV → List AV → St → Rs} {hd : List (Nat × Nat × Nat)} {o : Ot} {S2 : St} (C : Cx p l s mi args meth c D D7 B0 E S0 m) :
    ∀ (a : AI) pc lv st S1 α1 H1 locs1 ls1, isRet a.1 = true → chkI m pc a = true → dcd m pc a.1 = true → exF cal jmp hd [a] lv st S1 = some (o, S2) → Iv s D D7 B0 E S0 α0 m α1 S1 lv st H1 locs1 ls1 →
      W p l e R s mi args below meth c H1 locs1 (sN S1 - sN S0) (sM S1 - sM S0) (MQ below (QcM D D7 B0 E α0 S0 o S2) args s (sN S2 - sN S0) (sM S2 - sM S0) (fun q => B0 ≤ q)) (F0 mi pc ls1 (st.map (conc α1))) := by
  intro a pc lv st S1 α1 H1 locs1 ls1 hr hci hdc h I
  obtain ⟨hx, hb, hml, hown, hts, hK, hret, hlk, hB0, hnm, htr⟩ := C
  obtain ⟨i, v, l9⟩ := a
  have I0 := I
  obtain ⟨wi, ro, eq, ext, hS, so, lo, lvo, gr, mn⟩ := I
  cases i <;> first | (cases hr; done) | skip
  case ireturn =>
    simp only [exF] at h
    split at h
    · rename_i x
      split at h
      · rename_i hk
        cases h
        simp only [chkI, decide_eq_true_eq] at hci
        have fin : ∀ ty : FieldType, mR m = some ty → narrow ty (.int x) = .int x → W p l e R s mi args below meth c H1 locs1 (sN S2 - sN S0) (sM S2 - sM S0) (MQ below (QcM D D7 B0 E α0 S0 (.inl (some (vi x))) S2) args s (sN S2 - sN S0) (sM S2 - sM S0) (fun q => B0 ≤ q)) (F0 mi pc ls1 [.int x]) := fun ty hty hn =>
          (W.zret hx hb (hret.trans hty) hn (fun t ht hW => ⟨⟨α1, rfl, fun v hv => by cases hv; trivial, I0.post ht⟩, hS.F ht⟩) (fun q hq => hS.2.2 q hq) (of_decide_eq_true hdc) hlk)
        rcases hci with ⟨h1, h2⟩ | ⟨h1, h2⟩ | ⟨h1, h2⟩ | ⟨h1, h2⟩ <;> rw [h1] at hk
        · exact fin _ h2 rfl
        · refine fin _ h2 ?_
          rcases of_decide_eq_true hk with rfl | rfl <;> rfl
        · refine fin _ h2 ?_
          have hk2 : x = x.toInt8.toInt32 := of_decide_eq_true hk
          show Value.int x.toInt8.toInt32 = _
          rw [← hk2]
        · refine fin _ h2 ?_
          have hk2 : toCh x = x := of_decide_eq_true hk
          show Value.int (vp_nar .char x) = _
          rw [toCh_nar, hk2]
      · cases h
    · cases h
  case freturn =>
    simp only [exF] at h
    split at h
    · rename_i x
      cases h
      exact (W.fret hx hb (hret.trans (of_decide_eq_true hci)) (fun t ht hW => ⟨⟨α1, rfl, fun v hv => by cases hv; trivial, I0.post ht⟩, hS.F ht⟩) (fun q hq => hS.2.2 q hq) (of_decide_eq_true hdc) hlk)
    · cases h
  case dreturn =>
    simp only [exF] at h
    split at h
    · rename_i x
      cases h
      exact (W.dret hx hb (hret.trans (of_decide_eq_true hci)) (fun t ht hW => ⟨⟨α1, rfl, fun v hv => by cases hv; trivial, I0.post ht⟩, hS.F ht⟩) (fun q hq => hS.2.2 q hq) (of_decide_eq_true hdc) hlk)
    · cases h
  case areturn =>
    simp only [exF] at h
    split at h
    · rename_i t i
      cases h
      have h1 : ∃ ty, mR m = some ty ∧ isRefT ty = true := by
        simp only [chkI] at hci
        cases hm : mR m with
        | none => rw [hm] at hci; cases hci
        | some ty => rw [hm] at hci; exact ⟨ty, rfl, hci⟩
      obtain ⟨ty, h1, h2⟩ := h1
      have h3 : (∃ n, ty = .object n) ∨ ∃ t, ty = .array t := by
        cases ty <;> first | exact Or.inl ⟨_, rfl⟩ | exact Or.inr ⟨_, rfl⟩ | cases h2
      have ho := so (vr t i) List.mem_cons_self
      exact (W.aret hx hb (hret.trans h1) h3 (Or.inr ⟨_, rfl⟩) (fun t9 ht hW => ⟨⟨α1, rfl, fun v hv => by cases hv; exact ho, I0.post ht⟩, hS.F ht⟩) (fun q hq => hS.2.2 q hq) (of_decide_eq_true hdc) hlk)
    · cases h
  case return_ =>
    simp only [exF] at h
    split at h
    · cases h
      exact (W.vret hx hb (hret.trans (of_decide_eq_true hci)) (fun t ht hW => ⟨⟨α1, rfl, fun v hv => (by cases hv), I0.post ht⟩, hS.F ht⟩) (fun q hq => hS.2.2 q hq) (of_decide_eq_true hdc) hlk)
    · cases h
theorem end_ok {cal : Nat → List AV → St → Rs} {jmp : Nat → List AV → List AV → St → Rs} {hd : List (Nat × Nat × Nat)} {o : Ot} {S2 : St} {XC : String → State → State → Prop} (C : Cx p l s mi args meth c D D7 B0 E S0 m) :
    ∀ (a : AI) pc lv st S1 α1 H1 locs1 ls1, isRet a.1 = true → chkI m pc a = true → dcd m pc a.1 = true → exF cal jmp hd [a] lv st S1 = some (o, S2) → Iv s D D7 B0 E S0 α0 m α1 S1 lv st H1 locs1 ls1 →
      W p l e R s mi args below meth c H1 locs1 (sN S1 - sN S0) (sM S1 - sM S0) (vx_MQ below (QcM D D7 B0 E α0 S0 o S2) XC args s (sN S2 - sN S0) (sM S2 - sM S0) (fun q => B0 ≤ q)) (F0 mi pc ls1 (st.map (conc α1))) :=
  fun a pc lv st S1 α1 H1 locs1 ls1 h1 h2 h3 h4 I => vx_ret (end_ok0 C a pc lv st S1 α1 H1 locs1 ls1 h1 h2 h3 h4 I)
theorem thr_ok {o : Ot} {S2 : St} {Qc : Array Value → State → Outcome → State → Prop} (C : Cx p l s mi args meth c D D7 B0 E S0 m) (hcast : CastOK s) (hnt : ∀ x ∈ c.exceptionTable.toList, False) (hRc : sN S2 - sN S0 ≤ R.cells) (hRs : sM S2 - sM S0 ≤ R.slots) (hF : 6 ≤ R.frames) (hLo : 150 ≤ R.locals) :
    ∀ (k9 : Nat) (v : Int32) l9 pc lv st S1 α1 H1 locs1 ls1, v ≠ 0 → chkI m pc (.new k9, v, l9) = true → dcd m pc (.new k9) = true → catS st ≤ 8 → (o, S2) = (.inr (g0 l9 0), wst S1 1 6) → Iv s D D7 B0 E S0 α0 m α1 S1 lv st H1 locs1 ls1 →
      W p l e R s mi args below meth c H1 locs1 (sN S1 - sN S0) (sM S1 - sM S0) (vx_MQ below Qc (XcM D D7 B0 E α0 S0 o S2) args s (sN S2 - sN S0) (sM S2 - sM S0) (fun q => B0 ≤ q)) (F0 mi pc ls1 (st.map (conc α1))) := by
  intro k9 v l9 pc lv st S1 α1 H1 locs1 ls1 hv hci hdc hcs hoS I
  cases hoS
  obtain ⟨hx, hb, hml, hown, hts, hK, hret, hlk, hB0, hnm, htr⟩ := C
  have I0 := I
  obtain ⟨wi, ro, eq, ext, hS, so, lo, lvo, gr, mn⟩ := I
  simp only [chkI] at hci
  rw [if_neg hv] at hci
  simp only [Bool.and_eq_true, decide_eq_true_eq] at hci
  obtain ⟨⟨⟨⟨⟨⟨c1, c2⟩, c3⟩, c4⟩, c5⟩, c6⟩, c7⟩ := hci
  have e1 : sN (wst S1 1 6) = sN S1 + 1 := rfl
  have e2 : sM (wst S1 1 6) = sM S1 + 6 := rfl
  have m1 := mn.2.1
  have m2 := mn.2.2
  rw [c1] at hown c3
  refine vx_throw0 (own := "SighGranary") (cls := EXL.getD (g0 l9 0) "") (names := exN) (ik := k9) (ic := ICL.getD (g0 l9 0) 0) (A := fun q => B0 ≤ q) hx hb htr hown (thr_ot c2).2 (by decide +kernel) (hts _ (inW_mem c3)) (hts _ (inW_mem c4)) (thr_words c2 hts hcast) ?_ ext.2.2.2.2.2.1 ext.2.2.2.2.2.2.1 hS (lo.2.1.1.trans hml.symm) (of_decide_eq_true hdc) (of_decide_eq_true c5) (of_decide_eq_true c6) (of_decide_eq_true c7) (fun x hx9 => (hnt x hx9).elim) ?_ ?_ ?_ ?_ hlk ?_ (fun z hz => hS.2.2 z hz) ?_ ?_
  · intro w hw
    rcases List.mem_cons.mp hw with rfl | hw
    · exact inW_good c3
    · rcases List.mem_cons.mp hw with rfl | hw
      · exact inW_good c4
      · exact (thr_ot c2).1 w hw
  · show 2 + 3 < R.frames
    omega
  · rw [catS_map]
    show catS st + (13 * (2 + 1) + 42) ≤ R.locals
    omega
  · omega
  · omega
  · intro t hal hsz hkept
    refine ⟨rfl, ⟨α1, gr, ?_, ro, eq⟩, ⟨Nat.le_trans hS.1 hsz, fun q hq hA => ?_⟩⟩
    · obtain ⟨L, hn, hL, hP, hD⟩ := wi
      exact ⟨L, hn, hL, hP.kept (fun k q hk => hkept _ (vx_lt hP hk)), hD⟩
    · rw [hkept q (Nat.lt_of_lt_of_le hq hS.1)]
      exact hS.2.1 q hq hA
  · omega
  · omega
theorem out_ok {k : Nat} {o : Ot} {S2 S3 : St} {Qc : Array Value → State → Outcome → State → Prop} {α1 : Nat → Nat → Nat} {H1 : Heap} {locs1 : List Loc} {lv : List AV} {ls1 : Array Slot} {pc : Nat} {rest : List Value} {q : Addr} {ce : Cell} (C : Cx p l s mi args meth c D D7 B0 E S0 m) (hnt : ∀ x ∈ c.exceptionTable.toList, False)
    (h : some ((.inr k : Ot), S3) = some (o, S2)) (I : Iv s D D7 B0 E S0 α0 m α1 S3 lv [] H1 locs1 ls1) (hq : H1[q]? = some ce) (hv : ce.vm = .none) (hcl : s.vm.findClass (EXL.getD k "") = some ce.cls) :
    vx_W p l e R s mi args below meth c H1 locs1 (sN S3 - sN S0) (sM S3 - sM S0) (vx_MQ below Qc (XcM D D7 B0 E α0 S0 o S2) args s (sN S2 - sN S0) (sM S2 - sM S0) (fun q => B0 ≤ q)) (F0 mi pc ls1 rest) q := by
  cases h
  obtain ⟨hx, hb, hml, hown, hts, hK, hret, hlk, hB0, hnm, htr⟩ := C
  have I0 := I
  obtain ⟨wi, ro, eq, ext, hS, so, lo, lvo, gr, mn⟩ := I
  exact vx_out (fun x hx9 => (hnt x hx9).elim) hlk hq hv hcl (fun t ht hal => ⟨rfl, ⟨α1, I0.post ht⟩, hS.F ht⟩) (fun z hz => hS.2.2 z hz) (Nat.le_refl _) (Nat.le_refl _)
set_option maxHeartbeats 4000000 in
/-- every run of AM of a method without handlers is a run of the machine -/
theorem met_ok (htr : l.stackTraces = false) : ∀ (d m : Nat) (a : List AV) (S : St) (o : Ot) (S2 : St) (n : Nat) (α : Nat → Nat → Nat), m < 314 → a.length ≤ ML m → calF MC ML HD d n m a S = some (o, S2) → MetAM l D D7 B0 E d m a S o S2 α := by
  intro d
  induction d with
  | zero => intro m a S o S2 n α hm hal h; cases h
  | succ d ihd =>
    intro m a S o S2 n α hm hal h
    have hcw := cw_code m hm
    simp only [Bool.and_eq_true] at hcw
    refine vx_ofWF (cc := mB m) (maxL := ML m) (ret := mR m) hcw.1.2 rfl ?_
    intro p e s mi args below meth c s₁ B hml hnt hP
    obtain ⟨hv, hao, hac, wi, ro, eq, ext, hK, hB0, hcast⟩ := hP
    have hpre := atoms_spec (ws := wsM m) B.pre
    have hts : ∀ w ∈ TWG, w.before args s = true := fun w hw => hpre w (List.mem_cons_of_mem _ hw)
    have C : Cx p l s mi args meth c D D7 B0 E S m := ⟨B.exec, B.bytes, hml, findClass_of_methodNamed B.named, hts, hK, B.returns, B.notSynchronized, hB0, (name_of_methodNamed B.named B.method).1, htr⟩
    have hHD : HD m = [] := by unfold HD; rw [if_pos hm]
    have key : ∀ (k b : Nat) (lv st : List AV) (S1 : St) (α1 : Nat → Nat → Nat) (H1 : Heap) (locs1 : List Loc) (ls1 : Array Slot), jmF MC HD (calF MC ML HD d n) m k b lv st S1 = some (o, S2) → Iv s D D7 B0 E S α m α1 S1 lv st H1 locs1 ls1 →
        W p l e (rmD (d + 1) (sN S2 - sN S) (sM S2 - sM S)) s mi args below meth c H1 locs1 (sN S1 - sN S) (sM S1 - sM S) (vx_MQ below (QcM D D7 B0 E α S o S2) (XcM D D7 B0 E α S o S2) args s (sN S2 - sN S) (sM S2 - sM S) (fun q => B0 ≤ q)) (F0 mi (pcs m b) ls1 (st.map (conc α1))) := by
      intro k
      induction k with
      | zero => intro b lv st S1 α1 H1 locs1 ls1 h; cases h
      | succ k ihk =>
        intro b lv st S1 α1 H1 locs1 ls1 h I
        refine walk_ok C (fun m2 a S1 o1 S3 h => calF_mn _ _ _ _ _ _ _ h) (fun b lv st S1 o1 S3 h => jmF_mn h) (hj := fun b lv st S1 α1 H1 locs1 ls1 h I => ihk b lv st S1 α1 H1 locs1 ls1 h I) (hrun := run_ok (fun m2 a S1 o1 S3 α1 h1 h2 h3 => ihd m2 a S1 o1 S3 n α1 h1 h2 h3) (fun h9 => absurd h9 (by omega)) hcast C ?_ ?_ (Nat.le_refl _) (Nat.le_refl _)) (hexc := ?_) (hend := end_ok C) (hthr := thr_ok C hcast hnt (Nat.le_refl _) (Nat.le_refl _) ?_ ?_) (Nat.le_refl _) (Nat.le_refl _) ?_ ?_ (MC m b) (pcs m b) lv st S1 α1 H1 locs1 ls1 (ck_blk (by omega) b) h I
        · show 10 + 2 * d + 1 ≤ 10 + 2 * (d + 1); omega
        · show 29 + (200 + 60 * d) ≤ 200 + 60 * (d + 1); omega
        · intro k S3 α1 H1 locs1 lv ls1 pc a rest q ce _ _ h2 I2 hq hcv hcl
          rw [hHD] at h2
          exact out_ok C hnt h2 I2 hq hcv hcl
        · show 6 ≤ 10 + 2 * (d + 1); omega
        · show 150 ≤ 200 + 60 * (d + 1); omega
        · show 2 ≤ 10 + 2 * (d + 1); omega
        · show 150 ≤ 200 + 60 * (d + 1); omega
    subst hv
    rw [lg_entry_eq]
    have fin := key n 0 _ [] S α s.heap [] _ h ⟨wi, ro, eq, ext, va_S.rf, fun v hv => (by cases hv), LOK.entry hac hal, fun v hv => ?_, Grow.rf, Mn.rf⟩
    · rw [ck_pc0 (by omega), Nat.sub_self, Nat.sub_self] at fin
      exact fin
    · rcases List.mem_append.mp hv with hv | hv
      · exact Or.inr (hao v hv)
      · exact Or.inl (List.eq_of_mem_replicate hv)
end Met2
