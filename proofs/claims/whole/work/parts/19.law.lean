/-! the law's entry: from a run of AM to the claim -/
section LawE
theorem sel_priv {C : String} {y y0 : MethodName} {s : State} {args : Array Value} (hy : y.cls ≠ "java/lang/invoke/MethodHandle" ∧ y.cls ≠ "java/lang/invoke/VarHandle") (hc0 : y0.cls = y.cls) (h0 : (Cond.selects C y0 y0).before args s = true) (hpriv : (Cond.privateMethod y).before args s = true) (hinst : (Cond.instanceMethod y).before args s = true) : (Cond.selects C y y).before args s = true := by
  obtain ⟨mk, methM, hnamed, hmethM, -, -⟩ := Cond.instanceMethod_spec hinst
  have hfound := State.methodFound?_of_named hnamed hy
  simp only [Cond.before, Cond.holds, Cond.value] at h0
  cases hc : s.vm.findClass C with
  | none => simp [hc] at h0
  | some c =>
    cases hf : s.methodFound? y0.cls y0.name y0.desc with
    | none => simp [hc, hf] at h0
    | some r0 =>
      cases hn : s.methodNamed? y0 with
      | none => simp [hc, hf, hn] at h0
      | some m0 =>
        simp only [hc, hf, hn] at h0
        have e : m0.cls = mk.cls := by
          have a := findClass_of_methodNamed hn
          have b := findClass_of_methodNamed hnamed
          rw [hc0] at a
          exact Option.some.inj (a.symm.trans b)
        have hsel : selectMethod {} s.vm c mk = .method mk := selectMethod_private hmethM (Cond.privateMethod_at hpriv mk methM hnamed hmethM)
        have hi : (s.vm.classes[mk.cls]?).any (!·.isInterface) = true := by
          rw [← e]
          split at h0
          · simp at h0
            simpa using h0.2
          · simp at h0
        simp only [Cond.before, Cond.holds, Cond.value, hc, hfound, hnamed, hsel]
        simp [hi]
/-- the store at the law's entry: the script, the literals, the digits; vF: the formatter that nobody asks -/
def E0 (L : Nat) (xs : Nat → Int32) (vF : Value) : St :=
  (fun t i k => if t = 55 then xs k else if t = 56 then (TXB.getD i []).getD k 0 else if t = 57 then Int32.ofNat (48 + k % 10) else if t = 58 then Int32.ofNat (48 + k / 10) else if t = 60 then 1 else 0,
   fun t i k => if t = 12 ∧ i < 10 ∧ k = 0 then .inr (56, i) else if t = 60 ∧ i = 0 ∧ k = 2 then .inr (57, 0) else if t = 60 ∧ i = 0 ∧ k = 3 then .inr (58, 0) else if t = 60 ∧ i = 0 ∧ k = 1 then .inl vF else .inl .null,
   fun _ _ _ => 0, fun _ _ _ => 0,
   fun t i => if t = 55 then L else if t = 56 then TXN.getD i 0 else if t = 57 then 100 else if t = 58 then 100 else 0,
   fun _ => 0, 0, 0)
theorem ro_E0 {L : Nat} {xs : Nat → Int32} {vF : Value} : RO (E0 L xs vF) := by
  intro t i j q hl he
  have he2 : (if t = 12 ∧ i < 10 ∧ j = 0 then (.inr (56, i) : AV) else if t = 60 ∧ i = 0 ∧ j = 2 then .inr (57, 0) else if t = 60 ∧ i = 0 ∧ j = 3 then .inr (58, 0) else if t = 60 ∧ i = 0 ∧ j = 1 then .inl vF else .inl .null) = .inr q := he
  split at he2
  · rename_i h
    cases he2
    exact Or.inr (Or.inr (Or.inl ⟨rfl, h.2.1⟩))
  · split at he2
    · cases he2; exact Or.inr (Or.inr (Or.inr (Or.inr (Or.inl rfl))))
    · split at he2
      · cases he2; exact Or.inr (Or.inr (Or.inr (Or.inr (Or.inr rfl))))
      · split at he2 <;> cases he2
theorem fat_at {i : Nat} {w : Jvm.Cond} {b : Nat} {s : State} (hg : (Jvm.Cond.and given_1 narrow_1).before #[Value.ref b] s = true) (h : fatL i w = true) : w.before #[Value.ref b] s = true := flat_of_before _ hg _ (List.mem_of_getElem? (of_decide_eq_true h))
theorem arr_known {s : State} {args : Array Value} {ty : FieldType} (h : (Cond.arrayClass ty).before args s = true) : ∃ cA, ArrOfT s cA ty ∧ s.vm.findClass ("[" ++ ty.toString) = some cA := by
  obtain ⟨c, k, comp, h1, h2, h3⟩ := Cond.arrayClass_spec h
  exact ⟨c, fun n z => ⟨fun k9 => by simp [arrV], k, h2, comp, h3⟩, h1⟩
theorem cls_inst : (List.range 12).all (fun c => match clL[c]?, TWS[26 + c]? with
  | some q, some (_, .instantiable C _) => decide (C = q.1)
  | _, _ => false) = true := by decide +kernel
theorem nc_all {i j : Nat} (hi : i < 6) (hj : j < 6) (h : i ≠ j) : fatL ((PNc.getD i []).getD j 0) (.not (.castable (EXL.getD i "") (EXL.getD j ""))) = true := by
  have h2 := List.all_eq_true.mp (List.all_eq_true.mp fat_nc i (List.mem_range.mpr hi)) j (List.mem_range.mpr hj)
  rw [decide_eq_false h, Bool.false_or] at h2
  exact h2
theorem rng {n : Nat} {f : Nat → Bool} (h : (List.range n).all f = true) {i : Nat} (hi : i < n) : f i = true := List.all_eq_true.mp h i (List.mem_range.mpr hi)
set_option maxHeartbeats 4000000 in
set_option maxRecDepth 100000 in
/-- what the machine's heap is at the law's entry, in AM's words -/
theorem ent_ok {p : Program} {s : State} {m : MethodId} {meth : Method} {c : Code} {b L : Nat} {xs : Nat → Int32} (C0 : lw_At p s m meth c b L xs) :
    ∃ (D : va_G) (D7 : Nat → ClassId) (α : Nat → Nat → Nat) (vF : Value), cat (.inl vF : AV) = 1 ∧ α 55 0 = b ∧ (∀ w ∈ TWG, w.before #[Value.ref b] s = true) ∧ va_K D clL (tys D7) s ∧ ExtOK s.heap.size α (E0 L xs vF) s ∧ CastOK s := by
  obtain ⟨hx, hb, hr, hml, hown, hts0, hX, hbl, hlocks, hgv⟩ := C0
  have hA : ∀ a : Nat, a < s.heap.size → ¬ (fun q : Nat => s.heap.size ≤ q) a := fun a h => Nat.not_le.mpr h
  have hlt : ∀ w ∈ lw_tbl, w.before #[Value.ref b] s = true := hts0
  have htb : ∀ w ∈ tables_1, w.before #[Value.ref b] s = true := fun w hw => hts0 w (List.mem_append_right _ hw)
  have hlw : ∀ w ∈ lw2, w.before #[Value.ref b] s = true := by
    intro w hw
    rcases List.mem_append.mp hw with hw | hw
    · have h0 : (Cond.selects "java/lang/StringBuilder" ⟨"java/lang/AbstractStringBuilder", "isLatin1", "()Z"⟩ ⟨"java/lang/AbstractStringBuilder", "isLatin1", "()Z"⟩).before #[Value.ref b] s = true := htb _ (by decide +kernel)
      simp only [lwX, List.mem_cons, List.not_mem_nil, or_false] at hw
      rcases hw with rfl | rfl
      · exact sel_priv (y0 := ⟨"java/lang/AbstractStringBuilder", "isLatin1", "()Z"⟩) (by decide) rfl h0 (htb _ (by decide +kernel)) (htb _ (by decide +kernel))
      · exact sel_priv (y0 := ⟨"java/lang/AbstractStringBuilder", "isLatin1", "()Z"⟩) (by decide) rfl h0 (htb _ (by decide +kernel)) (htb _ (by decide +kernel))
    · exact hts0 w hw
  have hT : ∀ {k : Nat} {q : (Nat × Nat) × Jvm.Cond}, TWS[k]? = some q → q.2.before #[Value.ref b] s = true := fun h => hlw _ (tws_mem h)
  have htg : ∀ w ∈ TWG, w.before #[Value.ref b] s = true := fun w hw => hlw w (List.mem_filter.mp hw).1
  -- the classes
  have hcl : ∀ t : Nat, ∃ d : ClassId × (Nat → Nat), ∀ q, clL[t]? = some q → u_Kn s q.1 q.2.1 q.2.2 d.1 d.2 := by
    intro t
    cases hq : clL[t]? with
    | none => exact ⟨(0, fun _ => 0), fun q h => by cases h⟩
    | some q =>
      have h1 := rng cls_inst (cl_lt hq)
      rw [hq] at h1
      cases hz : TWS[26 + t]? with
      | none => rw [hz] at h1; cases h1
      | some z =>
        rw [hz] at h1
        have hz2 := hT hz
        obtain ⟨z1, z2⟩ := z
        cases z2 <;> first | (cases h1; done) | skip
        rename_i Cn n
        have e : Cn = q.1 := of_decide_eq_true h1
        subst e
        obtain ⟨cC, iS, hk⟩ := u_known (T := q.2.1) (N := q.2.2) htg (cls_fact hq).1 hz2
        exact ⟨(cC, iS), fun q2 h2 => by cases h2; exact hk⟩
  obtain ⟨dd, hdd⟩ := Classical.axiomOfChoice hcl
  -- the arrays
  obtain ⟨a1, ha1, hb1⟩ := arr_known (ty := .int) (hT (k := 10) rfl)
  obtain ⟨a2, ha2, hb2⟩ := arr_known (ty := .byte) (hT (k := 11) rfl)
  obtain ⟨a3, ha3, hb3⟩ := arr_known (ty := .boolean) (hT (k := 12) rfl)
  obtain ⟨a4, ha4, hb4⟩ := arr_known (ty := .char) (hT (k := 13) rfl)
  obtain ⟨a5, ha5, hb5⟩ := arr_known (ty := .long) (hT (k := 14) rfl)
  obtain ⟨a6, ha6, hb6⟩ := arr_known (ty := .double) (hT (k := 15) rfl)
  have hao : (Cond.arrayOver (.object "SighGranary$Data")).before #[Value.ref b] s = true := hT (k := 16) rfl
  obtain ⟨comp7, a7, k7, h71, h72, h73, h74, h75⟩ := Cond.arrayOver_spec hao
  -- the literals
  obtain ⟨adK, adV, hVS, hev⟩ := vk_Sof (args := #[Value.ref b]) (s := s) (N := 10) (tm := tmS) (len := TXN) (byt := TXB) (A := fun q : Nat => s.heap.size ≤ q) (by decide)
    (fun i hi => fat_at hgv (rng fat_ex hi)) (fun i hi => fat_at hgv (rng fat_co hi)) (fun i hi => fat_at hgv (rng fat_ar hi)) (fun i hi => fat_at hgv (rng fat_le hi))
    (fun i hi j hj => fat_at hgv (rng (rng fat_el hi) hj)) (fun i j hi hj hne => by
      have h2 := rng (rng fat_ne hi) hj
      rw [decide_eq_false hne, Bool.false_or, Bool.or_eq_true] at h2
      rcases h2 with h2 | h2
      · exact Or.inl (fat_at hgv h2)
      · exact Or.inr (fat_at hgv h2)) hA
  -- the digits
  obtain ⟨f1, f2, f3, f4, f5, f6, f7, f8⟩ := fat_do
  obtain ⟨tO, hO1, hO2⟩ := va_Tof (args := #[Value.ref b]) (s := s) (tm := dgO) (ty := .byte) (N := 100) (f := fun j => .int (Int32.ofNat (48 + j % 10))) (A := fun q : Nat => s.heap.size ≤ q) (by decide) (fat_at hgv f1) (va_eqt (fat_at hgv f2)) (fun j hj => by
    have h2 := rng fat_dg hj
    rw [Bool.and_eq_true] at h2
    exact va_eqt (fat_at hgv h2.1)) hA
  obtain ⟨tT, hT1, hT2⟩ := va_Tof (args := #[Value.ref b]) (s := s) (tm := dgT) (ty := .byte) (N := 100) (f := fun j => .int (Int32.ofNat (48 + j / 10))) (A := fun q : Nat => s.heap.size ≤ q) (by decide) (fat_at hgv f3) (va_eqt (fat_at hgv f4)) (fun j hj => by
    have h2 := rng fat_dg hj
    rw [Bool.and_eq_true] at h2
    exact va_eqt (fat_at hgv h2.2)) hA
  have hZc := va_Zof (A := fun q : Nat => s.heap.size ≤ q) (hT (k := 0) rfl) (hT (k := 6) rfl) (va_eqi (fat_at hgv f5)) hA
  have hZo := va_Zof (A := fun q : Nat => s.heap.size ≤ q) (hT (k := 4) rfl) (hT (k := 9) rfl) hO1 hA
  have hZt := va_Zof (A := fun q : Nat => s.heap.size ≤ q) (hT (k := 5) rfl) (hT (k := 9) rfl) hT1 hA
  have hZf : ∃ vF : Value, cat (.inl vF : AV) = 1 ∧ va_Z "jdk/internal/util/Preconditions" "SIOOBE_FORMATTER" "Ljava/util/function/BiFunction;" vF (fun q : Nat => s.heap.size ≤ q) s s.heap := by
    rcases va_Zqof (A := fun q : Nat => s.heap.size ≤ q) (hT (k := 3) rfl) (hT (k := 8) rfl) (fat_at hgv f8) hA with h | ⟨t, h⟩
    · exact ⟨_, rfl, h⟩
    · exact ⟨_, rfl, h⟩
  obtain ⟨vF, hvc, hZf⟩ := hZf
  refine ⟨(fun t => (dd t).1, fun t => (dd t).2), fun k => if k = 1 then a1 else if k = 2 then a2 else if k = 3 then a3 else if k = 4 then a4 else if k = 5 then a5 else if k = 6 then a6 else a7,
    fun t i => if t = 55 then b else if t = 12 then adK i else if t = 56 then adV i else if t = 57 then tO else tT, vF, hvc, rfl, htg, ⟨fun t q hq => hdd t q hq, ?_⟩, ?_, ?_⟩
  · intro k q hq
    match k, hq with
    | 0, hq => cases hq; exact ⟨ha1, hb1⟩
    | 1, hq => cases hq; exact ⟨ha2, hb2⟩
    | 2, hq => cases hq; exact ⟨ha3, hb3⟩
    | 3, hq => cases hq; exact ⟨ha4, hb4⟩
    | 4, hq => cases hq; exact ⟨ha5, hb5⟩
    | 5, hq => cases hq; exact ⟨ha6, hb6⟩
    | 6, hq => cases hq; exact ⟨fun n z => ⟨fun k9 => by simp [arrV], k7, h73, comp7, h74⟩, ⟨k7, comp7, h73, h74, h71, h75⟩⟩
    | k + 7, hq => simp [tys] at hq
  · refine ⟨⟨hX, hbl, Nat.not_le.mpr hbl⟩, fun i hi => ?_, hO2, hT2, ?_, vx_Zqof (hT (k := 1) rfl) (hT (k := 7) rfl) (fat_at hgv f6) hA, vx_Zqof (hT (k := 2) rfl) (hT (k := 7) rfl) (fat_at hgv f7) hA, ?_, va_AO.of hao⟩
    · obtain ⟨q1, q2, q3, q4⟩ := hVS.1 i hi
      refine ⟨q1, q2, ?_, q4, ?_⟩
      · have e : sR (E0 L xs vF) 12 i 0 = .inr (56, i) := by simp [sR, E0, hi]
        rw [e]
        exact q3
      · refine vk_R.of (A := #[Value.ref b]) ?_ (hev i hi)
        have key : (List.range 10).all (fun i => match TWS[38 + i]? with
          | some (_, w) => decide (w = .stringRef "SighGranary$Script" (TXK.getD i 0) (TXL.getD i ""))
          | none => false) = true := by decide +kernel
        have h2 := rng key hi
        cases hz : TWS[38 + i]? with
        | none => rw [hz] at h2; cases h2
        | some z =>
          rw [hz] at h2
          have h3 := hT hz
          rw [show z.2 = _ from of_decide_eq_true h2] at h3
          exact h3
    · intro j q hq
      match j, hq with
      | 0, hq => cases hq; exact hZc
      | 1, hq => cases hq; exact hZf
      | 2, hq => cases hq; exact hZo
      | 3, hq => cases hq; exact hZt
      | j + 4, hq => simp [SFL] at hq
    · intro w hw hn
      have h1 := hlw w hw
      cases w <;> first
        | exact va_Nw.of rfl h1
        | (simp [isNest] at hn)
  · refine ⟨fun w hw => ?_, fun j k hj hk hne => va_Nc.of (fat_at hgv (nc_all hj hk hne))⟩
    simp only [exB, List.mem_cons, List.not_mem_nil, or_false] at hw
    rcases hw with rfl | rfl | rfl | rfl | rfl | rfl | rfl | rfl | rfl
    · exact va_Nw.of rfl (hT (k := 17) rfl)
    · exact va_Nw.of rfl (hT (k := 18) rfl)
    · exact va_Nw.of rfl (hT (k := 19) rfl)
    · exact va_Nw.of rfl (hT (k := 20) rfl)
    · exact va_Nw.of rfl (hT (k := 21) rfl)
    · exact va_Nw.of rfl (hT (k := 22) rfl)
    · exact va_Nw.of rfl (hT (k := 23) rfl)
    · exact va_Nw.of rfl (hT (k := 24) rfl)
    · exact va_Nw.of rfl (hT (k := 25) rfl)
/-- what AM owes: the law's run on every script -/
def AMok : Prop := ∀ (L : Nat) (xs : Nat → Int32) (vF : Value), cat (.inl vF : AV) = 1 → L ≤ 2560 → ∃ (n : Nat) (S2 : St), calF MC ML HD 40 n 361 [vr 55 0] (E0 L xs vF) = some (.inl (some (vi 1)), S2) ∧ sN S2 ≤ 603072 ∧ sM S2 ≤ 7207018
set_option maxHeartbeats 4000000 in
theorem am_start (ham : AMok) {p : Program} {e : Env} {s : State} {m : MethodId} {below : List Frame} {meth : Method} {c : Code} (l : Launch) (hflags : l.flags = flags0) {b L : Nat} {xs : Nat → Int32} (hL : L ≤ 2560) (hnm : meth.name = "law") (C0 : lw_At p s m meth c b L xs) : W p l e room_1 s m #[Value.ref b] below meth c s.heap [] 0 0 (lw_Z below #[Value.ref b] s) (entryFrame m ([Value.ref b] : List Value).toArray 9) := by
  have htr : l.stackTraces = false := by
    simp only [Launch.stackTraces, hflags]
    decide
  obtain ⟨D, D7, α, vF, hvc, hα, htg, hK, hext, hcast⟩ := ent_ok C0
  obtain ⟨hx, hb, hr, hml, hown, hts0, hX, hbl, hlocks, hgv⟩ := C0
  obtain ⟨n, S2, h, hN, hM⟩ := ham L xs vF hvc hL
  have C : Cx p l s m #[Value.ref b] meth c D D7 s.heap.size (E0 L xs vF) (E0 L xs vF) 361 := ⟨hx, hb, hml, hown, htg, hK, hr, hlocks, Nat.le_refl _, hnm, htr⟩
  have hHD : HD 361 = [] := by decide +kernel
  have z1 : sN (E0 L xs vF) = 0 := rfl
  have z2 : sM (E0 L xs vF) = 0 := rfl
  have key : ∀ (k b9 : Nat) (lv st : List AV) (S1 : St) (α1 : Nat → Nat → Nat) (H1 : Heap) (locs1 : List Loc) (ls1 : Array Slot), jmF MC HD (calF MC ML HD 39 n) 361 k b9 lv st S1 = some (.inl (some (vi 1)), S2) → Iv s D D7 s.heap.size (E0 L xs vF) (E0 L xs vF) α 361 α1 S1 lv st H1 locs1 ls1 →
      W p l e room_1 s m #[Value.ref b] below meth c H1 locs1 (sN S1 - sN (E0 L xs vF)) (sM S1 - sM (E0 L xs vF)) (lw_Z below #[Value.ref b] s) (F0 m (pcs 361 b9) ls1 (st.map (conc α1))) := by
    intro k
    induction k with
    | zero => intro b9 lv st S1 α1 H1 locs1 ls1 h; cases h
    | succ k ihk =>
      intro b9 lv st S1 α1 H1 locs1 ls1 h I
      refine walk_ok C (fun m2 a S1 o1 S3 h => calF_mn _ _ _ _ _ _ _ h) (fun b lv st S1 o1 S3 h => jmF_mn h) (hj := fun b lv st S1 α1 H1 locs1 ls1 h I => ihk b lv st S1 α1 H1 locs1 ls1 h I) (hrun := run_ok (fun m2 a S1 o1 S3 α1 h1 h2 h3 => met_ok htr 39 m2 a S1 o1 S3 n α1 h1 h2 h3) (fun _ => ⟨fun k z => (by cases z), hHD, fun m2 a S1 r S3 α1 h1 h2 h3 h4 => metW_ok htr 39 m2 a S1 r S3 n α1 h1 h2 h3 h4⟩) hcast C ?_ ?_ ?_ ?_) (hexc := ?_) (hend := ?_) (hthr := ?_) ?_ ?_ ?_ ?_ (MC 361 b9) (pcs 361 b9) lv st S1 α1 H1 locs1 ls1 (ck_blk (by decide) b9) h I
      · exact Nat.le_of_ble_eq_true rfl
      · exact Nat.le_of_ble_eq_true rfl
      · rw [z1]; exact hN
      · rw [z2]; exact hM
      · intro k S3 α1 H1 locs1 lv ls1 pc a rest q ce _ _ h2 I2 hq hcv hcl
        rw [hHD] at h2
        cases h2
      · intro a pc lv st S1 α1 H1 locs1 ls1 hr9 hci hdc h9 I2
        obtain ⟨i, v, l9⟩ := a
        cases i <;> first | (cases hr9; done) | skip
        case ireturn =>
          simp only [exF] at h9
          split at h9
          · split at h9
            · cases h9
              refine va_forget (fun q hq => I2.2.2.2.2.1.2.2 q hq) ?_
              refine W.widen (k := 603072) (n := 7207018) (by rw [z1]; exact hN) (by rw [z2]; exact hM) ?_
              exact lw_ret (d0 := s.drawn) (Drawn.sameBut.refl s.drawn lw_cs) hx hb hr hlocks (of_decide_eq_true hdc)
            · cases h9
          · cases h9
        all_goals
          simp only [exF] at h9
          split at h9 <;> cases h9
      · intro k9 v l9 pc lv st S1 α1 H1 locs1 ls1 hv hci
        simp only [chkI] at hci
        rw [if_neg hv] at hci
        simp only [Bool.and_eq_true, decide_eq_true_eq] at hci
        exact absurd hci.1.1.1.1.1.1 (by decide +kernel)
      · rw [z1]; exact hN
      · rw [z2]; exact hM
      · exact Nat.le_of_ble_eq_true rfl
      · exact Nat.le_of_ble_eq_true rfl
  rw [lg_entry_eq]
  have hcn : conc α (vr 55 0) = .ref b := by rw [← hα]; rfl
  have hloc : LOK α 361 ([vr 55 0] ++ List.replicate (ML 361 - 1) unk) ((lg_sl [Value.ref b] ++ List.replicate (9 - (lg_sl [Value.ref b]).length) Slot.unset).toArray) := by
    have := LOK.entry (α := α) (m := 361) (a := [vr 55 0]) rfl (by decide +kernel)
    rw [List.map_cons, hcn] at this
    exact this
  have fin := key n 0 _ [] (E0 L xs vF) α s.heap [] _ h ⟨⟨[], List.nodup_nil, fun t i => by simp [E0, sC], fun k q hk => by simp [wOf] at hk, ⟨fun i j p q hi => by simp [wOf] at hi, fun k q hk => by simp [wOf] at hk⟩⟩, ro_E0, fun t _ => ⟨rfl, rfl, rfl⟩, hext, va_S.rf, fun v hv => (by cases hv), hloc, fun v hv => ?_, Grow.rf, Mn.rf⟩
  · rw [ck_pc0 (by decide), Nat.sub_self, Nat.sub_self] at fin
    exact fin
  · rcases List.mem_append.mp hv with hv | hv
    · rw [List.mem_singleton.mp hv]
      exact Or.inr (Or.inr (Or.inr (Or.inr (Or.inl rfl))))
    · exact Or.inl (List.eq_of_mem_replicate hv)
end LawE
