/-! every method without handlers, by contract: its runs in AM are runs of the machine -/
section MetC
theorem catS_ge : ∀ a : List AV, a.length ≤ catS a
  | [] => Nat.le_refl _
  | v :: a => by
    have h1 := catS_ge a
    have h2 : 1 ≤ cat v := by
      unfold cat
      split <;> omega
    simp only [List.length_cons, catS]
    omega
theorem catS_one : ∀ {a : List AV}, catS a = a.length → ∀ v ∈ a, cat v = 1
  | [], _ => fun _ h => by cases h
  | v :: a, h => by
    have h1 := catS_ge a
    have h2 : 1 ≤ cat v := by
      unfold cat
      split <;> omega
    simp only [List.length_cons, catS] at h
    have h3 : catS a = a.length := by omega
    intro w hw
    rcases List.mem_cons.mp hw with rfl | hw
    · omega
    · exact catS_one h3 w hw
theorem lgsl_of {α : Nat → Nat → Nat} : ∀ {a : List AV}, (∀ v ∈ a, cat v = 1) → lg_sl (a.map (conc α)) = a.map (fun v => Slot.val (conc α v))
  | [], _ => rfl
  | v :: a, h => by
    have h1 := lgsl_of (α := α) (a := a) (fun w hw => h w (List.mem_cons_of_mem _ hw))
    have h2 : (conc α v).category = 1 := by rw [conc_cat]; exact h v List.mem_cons_self
    simp only [List.map_cons]
    unfold lg_sl at h1 ⊢
    rw [List.flatMap_cons, h1, if_neg (by omega)]
    rfl
theorem LOK.entry {α : Nat → Nat → Nat} {m : Nat} {a : List AV} (hc : catS a = a.length) (hl : a.length ≤ ML m) :
    LOK α m (a ++ List.replicate (ML m - a.length) unk) ((lg_sl (a.map (conc α)) ++ List.replicate (ML m - (lg_sl (a.map (conc α))).length) Slot.unset).toArray) := by
  have h1 := catS_one hc
  have h2 := lgsl_of (α := α) h1
  have h3 : (lg_sl (a.map (conc α))).length = a.length := by rw [h2, List.length_map]
  obtain ⟨e1, e2, -⟩ := lv_entry (a.map (conc α)) (n := ML m) (by rw [h3]; exact hl)
  refine ⟨by rw [List.length_append, List.length_replicate]; omega, ⟨e1, e2, fun q hq => by cases hq⟩, fun j v hj hu => ?_, fun j v hj hc2 => ?_⟩
  · rw [List.getElem?_append] at hj
    split at hj
    · rename_i hlt
      rw [h2, List.getElem?_toArray, List.getElem?_append_left (by rw [List.length_map]; exact hlt), List.getElem?_map, hj]
      rfl
    · rw [List.getElem?_replicate] at hj
      split at hj
      · cases hj; exact absurd rfl hu
      · cases hj
  · rw [List.getElem?_append] at hj
    split at hj
    · have := h1 v (List.mem_of_getElem? hj)
      omega
    · rw [List.getElem?_replicate] at hj
      split at hj
      · cases hj; cases hc2
      · cases hj
theorem jmF_mn {d n m : Nat} : ∀ {k b : Nat} {lv st : List AV} {s : St} {o : Ot} {s2 : St}, jmF MC HD (calF MC ML HD d n) m k b lv st s = some (o, s2) → Mn s s2 := by
  intro k
  induction k with
  | zero => intro b lv st s o s2 h; cases h
  | succ k ih => intro b lv st s o s2 h; exact exF_mn (fun m a s o s2 h => calF_mn _ _ _ _ _ _ _ h) (fun b lv st s o s2 h => ih h) _ _ _ _ _ _ h
theorem CastOK.moved {u U : State} (hW : u.WarmedH U.vm) (h : CastOK u) : CastOK U := by
  refine ⟨fun w hw => ?_, fun j k hj hk hne => (h.2 j k hj hk hne).moved hW.alike⟩
  have h1 := h.1 w hw
  simp only [exB, List.mem_cons, List.not_mem_nil, or_false] at hw
  rcases hw with rfl | rfl | rfl | rfl | rfl | rfl | rfl | rfl | rfl
  · exact va_Nw.warmC hW h1
  · exact va_Nw.warmC hW h1
  · exact va_Nw.warmC hW h1
  · exact va_Nw.warmC hW h1
  · exact va_Nw.warmC hW h1
  · exact va_Nw.warmC hW h1
  · exact va_Nw.warmD hW h1
  · exact va_Nw.warmD hW h1
  · exact va_Nw.warmD hW h1
theorem exB_k {k : Nat} (h : k < 6) : exC k ∈ exB := by
  unfold exB
  rcases (show k = 0 ∨ k = 1 ∨ k = 2 ∨ k = 3 ∨ k = 4 ∨ k = 5 by omega) with rfl | rfl | rfl | rfl | rfl | rfl <;> simp
theorem exB_at {w : Jvm.Cond} {U : State} {A : Array Value} (hw : w ∈ exB) (h : va_Nw w U) : w.before A U = true := by
  refine va_Nw.use ?_ h
  have key : ∀ w ∈ exB, w.onTables = true := by decide
  exact key w hw
theorem twg_good {w : Jvm.Cond} (h : w ∈ TWG) : goodWord w = true := (List.mem_filter.mp h).2
theorem twg_cw {m : Nat} (hm : m < 314) : Cond.code (mY m) (mB m) (ML m) (mR m) ∈ TWG := by
  have h := cw_code m hm
  simp only [Bool.and_eq_true, decide_eq_true_eq] at h
  exact List.mem_filter.mpr ⟨cw_mem h.1.1, h.2⟩
theorem plain_of {m : Nat} (hm : m < 314) : plainFor (mY m) = true := by
  have h := cw_code m hm
  simp only [Bool.and_eq_true, decide_eq_true_eq] at h
  exact h.1.2
theorem good_wsM {m : Nat} (hm : m < 314) : GoodIn TWG (wsM m) := by
  intro w hw
  rcases List.mem_cons.mp hw with rfl | hw
  · exact ⟨twg_cw hm, good_of_word (twg_good (twg_cw hm))⟩
  · exact ⟨hw, good_of_word (twg_good hw)⟩
def wsW (m : Nat) : List Jvm.Cond := .codeWith (mY m) (mB m) (ML m) (mR m) (htL.getD (m - 314) []) :: TWG
theorem cw_withm {m : Nat} (h1 : 314 ≤ m) (h2 : m < 361) : cwOf m = some (.codeWith (mY m) (mB m) (ML m) (mR m) (htL.getD (m - 314) [])) ∧ plainName (mY m).cls = true ∧ goodWord (.codeWith (mY m) (mB m) (ML m) (mR m) (htL.getD (m - 314) [])) = true := by
  obtain ⟨i, rfl⟩ : ∃ i, m = 314 + i := ⟨m - 314, by omega⟩
  have h := List.all_eq_true.mp cw_with i (List.mem_range.mpr (by omega))
  simp only [Bool.and_eq_true, decide_eq_true_eq] at h
  rw [Nat.add_sub_cancel_left]
  exact ⟨h.1.1, h.1.2, h.2⟩
theorem twg_cwW {m : Nat} (h1 : 314 ≤ m) (h2 : m < 361) : Cond.codeWith (mY m) (mB m) (ML m) (mR m) (htL.getD (m - 314) []) ∈ TWG := by
  obtain ⟨a, -, b⟩ := cw_withm h1 h2
  exact List.mem_filter.mpr ⟨cw_mem a, b⟩
theorem good_wsW {m : Nat} (h1 : 314 ≤ m) (h2 : m < 361) : GoodIn TWG (wsW m) := by
  intro w hw
  rcases List.mem_cons.mp hw with rfl | hw
  · exact ⟨twg_cwW h1 h2, good_of_word (twg_good (twg_cwW h1 h2))⟩
  · exact ⟨hw, good_of_word (twg_good hw)⟩
theorem nestL : (WL 361).all (fun w => !isNest w) = true := by decide +kernel
theorem vx_ofRun {p : Program} {l : Launch} {e : Env} {R : Room} {s : State} {m : MethodId} {args : Array Value} {below : List Frame} {meth : Method} {c : Code} {H : Heap} {locs : List Loc} {cells slots mc ms : Nat} {g : JFrame} {rest : List Value} {Qa : State → Outcome → State → Prop} {XC : String → State → State → Prop} {free : Addr → Prop}
    (h : va_Run p l e R s m args below meth c H locs cells slots mc ms g rest Qa free) : vx_Run p l e R s m args below meth c H locs cells slots mc ms g rest Qa XC free := fun T hT X => Or.inl (h T hT X)
variable {p : Program} {l : Launch} {e : Env} {R : Room} {s : State} {mi : MethodId} {args : Array Value} {below : List Frame} {meth : Method} {c : Code}
variable {D : va_G} {D7 : Nat → ClassId} {B0 : Nat} {E S0 : St} {α0 : Nat → Nat → Nat} {m : Nat}
theorem PcM.blind {α : Nat → Nat → Nat} {S : St} {a : List AV} : FrameBlind (PcM D D7 B0 E α S a) := by
  intro v U g mk q
  obtain ⟨q1, q2, q3, q4, q5, q6, q7, q8, q9, q10⟩ := q
  have hW : U.WarmedH (U.calling g mk v).vm := State.WarmedH.refl U
  exact ⟨q1, q2, q3, q4, q5, q6, q7.step hW (Nat.le_refl _) (fun _ _ _ => rfl), va_K.moved hW.alike q8, q9, q10.moved hW⟩
theorem PcM.at {α1 : Nat → Nat → Nat} {S1 : St} {lv st : List AV} {H1 : Heap} {locs1 : List Loc} {ls1 : Array Slot} {a : List AV} {U : State}
    (C : Cx p l s mi args meth c D D7 B0 E S0 m) (hcast : CastOK s) (I : Iv s D D7 B0 E S0 α0 m α1 S1 lv st H1 locs1 ls1) (ho : ∀ x ∈ a, okv S1 x) (hc : catS a = a.length) (hU : U.heap = H1) (hW : s.WarmedH U.vm) :
    PcM D D7 B0 E α1 S1 a (a.map (conc α1)).toArray U := by
  obtain ⟨hx, hb, hml, hown, hts, hK, hret, hlk, hB0, hnm, htr⟩ := C
  obtain ⟨wi, ro, eq, ext, hS, so, lo, lvo, gr, mn⟩ := I
  refine ⟨rfl, ho, hc, by rw [hU]; exact wi, ro, eq, ext.step hW (by rw [hU]; exact hS.1) (fun q h1 h2 => by rw [hU]; exact hS.2.1 q h1 h2), va_K.moved hW.alike hK, ?_, hcast.moved hW⟩
  rw [hU]
  exact Nat.le_trans hB0 hS.1
/-- the cell that a receiver is -/
theorem recv_cell {α1 : Nat → Nat → Nat} {S1 : St} {lv st : List AV} {H1 : Heap} {locs1 : List Loc} {ls1 : Array Slot} {t i : Nat}
    (C : Cx p l s mi args meth c D D7 B0 E S0 m) (I : Iv s D D7 B0 E S0 α0 m α1 S1 lv st H1 locs1 ls1) (ho : okr S1 (t, i)) (ht : t ≤ 12) : ∃ cellB : Cell, H1[α1 t i]? = some cellB ∧ cellB.vm.isStatics = false ∧ s.vm.findClass (clN t) = some cellB.cls := by
  obtain ⟨hx, hb, hml, hown, hts, hK, hret, hlk, hB0, hnm, htr⟩ := C
  obtain ⟨wi, ro, eq, ext, hS, so, lo, lvo, gr, mn⟩ := I
  by_cases h12 : t = 12
  · subst h12
    obtain ⟨cell, h1, h2, h3, h4⟩ := (ext.2.1 i (okr12 ho)).1
    have hlt : α1 12 i < s.heap.size := (Array.getElem?_eq_some_iff.mp h1).1
    exact ⟨cell, by rw [hS.2.1 _ hlt h4]; exact h1, h2, h3⟩
  · have h3 : t < 12 := by omega
    have h2 : isW t = true := cl_isW h3
    have h1 : i < sC S1 t := okr_w h2 ho
    obtain ⟨L, hn, hL, hP, hD⟩ := wi
    obtain ⟨k, hk, hws⟩ := wOf_at (D7 := D7) (α := α1) (S := S1) ((hL t i).mpr ⟨h2, h1⟩)
    rw [entE_o h3] at hws
    have hcl : ∃ q, clL[t]? = some q := by
      have : t < clL.length := h3
      exact ⟨_, List.getElem?_eq_getElem this⟩
    obtain ⟨q, hq⟩ := hcl
    obtain ⟨cell, g1, g2, g3⟩ := va_recv hK hP hq hws
    refine ⟨cell, g1, g2, ?_⟩
    have : clN t = q.1 := by simp [clN, hq]
    rw [this]
    exact g3
theorem map_len {α : Nat → Nat → Nat} {a : List AV} : (a.map (conc α)).length = a.length := List.length_map ..
theorem stk_split {α : Nat → Nat → Nat} {st : List AV} {n : Nat} : st.map (conc α) = (((st.take n).reverse).map (conc α)).reverse ++ (st.drop n).map (conc α) := by
  rw [← List.map_reverse, List.reverse_reverse, ← List.map_append, List.take_append_drop]
theorem rcv_split {st : List AV} {k t : Nat} (h : rcv st (k + 1) t = true) : ∃ i, st.drop k = vr t i :: st.drop (k + 1) ∧ st.take (k + 1) = st.take k ++ [vr t i] := by
  unfold rcv at h
  rw [Nat.add_sub_cancel] at h
  split at h
  · rename_i t2 i rest he
    have e1 : t2 = t := of_decide_eq_true h
    subst e1
    have e2 : st.drop (k + 1) = rest := by
      have := congrArg List.tail he
      rw [List.tail_drop] at this
      exact this
    refine ⟨i, by rw [e2]; exact he, ?_⟩
    have e3 : st[k]? = some (vr t2 i) := by
      have := congrArg (fun z => z[0]?) he
      simpa using this
    rw [List.take_add_one, e3]
    rfl
  · cases h
theorem catS_app : ∀ a b : List AV, catS (a ++ b) = catS a + catS b
  | [], b => by simp [catS]
  | v :: a, b => by simp only [List.cons_append, catS, catS_app a b]; omega
theorem catS_rev : ∀ a : List AV, catS a.reverse = catS a
  | [] => rfl
  | v :: a => by
    rw [List.reverse_cons, catS_app, catS_rev a]
    simp only [catS]
    omega
theorem ml_le : ∀ m, ML m ≤ 10 := by
  intro m
  by_cases h : m < 362
  · have key : (List.range 362).all (fun m => decide (ML m ≤ 10)) = true := by decide +kernel
    exact of_decide_eq_true (List.all_eq_true.mp key m (List.mem_range.mpr h))
  · have hlen : MLL.length = 362 := by decide +kernel
    unfold ML
    rw [List.getD_eq_getElem?_getD, List.getElem?_eq_none (by omega)]
    exact Nat.zero_le _
theorem inH_mem {m h : Nat} {w : Jvm.Cond} (hw : inH m h w = true) : w ∈ TWG := by
  simp only [inH, Bool.and_eq_true, decide_eq_true_eq] at hw
  obtain ⟨i, -, hi⟩ := List.mem_filterMap.mp (List.mem_of_getElem? hw.1)
  exact List.mem_filter.mpr ⟨tbl_mem _ _ (List.mem_of_getElem? hi), hw.2⟩
theorem inG_mem {m h : Nat} {w : Jvm.Cond} (hw : inG m h w = true) : w ∈ lw2 := by
  simp only [inG, decide_eq_true_eq] at hw
  obtain ⟨i, -, hi⟩ := List.mem_filterMap.mp (List.mem_of_getElem? hw)
  exact tbl_mem _ _ (List.mem_of_getElem? hi)
theorem prm_one {y : MethodName} {n : Nat} (h : (parseMethodDescriptor y.desc).map (fun d => d.parameters.length) = some n) : (parseMethodDescriptor y.desc).map (fun d => d.parameters.length) = some n := h
set_option maxHeartbeats 4000000 in
theorem run_ok {d n : Nat} {o : Ot} {S2 : St} (hmet : ∀ (m2 : Nat) (a : List AV) (S1 : St) (o1 : Ot) (S3 : St) (α1 : Nat → Nat → Nat), m2 < 314 → a.length ≤ ML m2 → calF MC ML HD d n m2 a S1 = some (o1, S3) → MetAM l D D7 B0 E d m2 a S1 o1 S3 α1)
    (hmW : 361 ≤ m → (∀ k, o ≠ .inr k) ∧ HD m = [] ∧ ∀ (m2 : Nat) (a : List AV) (S1 : St) (r : Option AV) (S3 : St) (α1 : Nat → Nat → Nat), 314 ≤ m2 → m2 < 361 → a.length ≤ ML m2 → calF MC ML HD d n m2 a S1 = some (.inl r, S3) →
      Met l (mY m2) (wsW m2) (rmD d (sN S3 - sN S1) (sM S3 - sM S1)) (PcM D D7 B0 E α1 S1 a) (QcM D D7 B0 E α1 S1 (.inl r) S3) (sN S3 - sN S1) (sM S3 - sM S1) (fun q => B0 ≤ q)) (hcast : CastOK s) (C : Cx p l s mi args meth c D D7 B0 E S0 m) (hRf : 10 + 2 * d + 1 ≤ R.frames) (hRl : 29 + (200 + 60 * d) ≤ R.locals) (hRc : sN S2 - sN S0 ≤ R.cells) (hRs : sM S2 - sM S0 ≤ R.slots) :
    RunOK p l e R s mi args below meth c D D7 B0 E S0 α0 m (calF MC ML HD d n) (HD m) o S2 := by
  intro a pc lv st S1 α1 H1 locs1 ls1 o1 S3 hk hci hdc g1 g2 g3 hcl hm32 hthw I
  have I0 := I
  have C0 := C
  obtain ⟨hx, hb, hml, hown, hts, hK, hret, hlk, hB0, hnm, htr⟩ := C
  obtain ⟨wi, ro, eq, ext, hS, so, lo, lvo, gr, mn⟩ := I
  obtain ⟨i, v, l9⟩ := a
  dsimp only at g1 g2 g3
  have hm13 : Mn S1 S3 := calF_mn _ _ _ _ _ _ _ hcl
  have hal : ((st.take (g0 l9 1)).reverse).length = g0 l9 1 := by rw [List.length_reverse, List.length_take]; exact Nat.min_eq_left g2
  have hac : catS ((st.take (g0 l9 1)).reverse) = ((st.take (g0 l9 1)).reverse).length := by rw [hal, catS_rev]; exact g3
  have hao : ∀ x ∈ (st.take (g0 l9 1)).reverse, okv S1 x := fun x hx => so x (List.mem_of_mem_take (List.mem_reverse.mp hx))
  have hF : CallFix p mi c (mB m) (ML m) s args TWG (mY m).cls := ⟨hx, hb, hml, hown, hts⟩
  have hsz : ls1.size = ML m := lo.2.1.1
  have hrest : (((st.drop (g0 l9 1)).map (conc α1)).map fun v => v.category).sum ≤ 8 := by rw [catS_map]; exact g1
  have hmon : ∀ pc ls stk, (F0 mi pc ls stk).monitorRoom = 0 := fun _ _ _ => rfl
  have hW8 : ∀ pc ls stk, 2 * (F0 mi pc ls stk).monitorRoom + (((st.drop (g0 l9 1)).map (conc α1)).map fun v => v.category).sum ≤ 8 := fun pc ls stk => by rw [hmon]; omega
  have hcs : sN S1 - sN S0 + (sN S3 - sN S1) ≤ R.cells ∧ sM S1 - sM S0 + (sM S3 - sM S1) ≤ R.slots := by
    have a1 := mn.2.1
    have a2 := mn.2.2
    have a3 := hm13.2.1
    have a4 := hm13.2.2
    have a5 := hm32.2.1
    have a6 := hm32.2.2
    omega
  have hfr : ∀ m2, (rmD d (sN S3 - sN S1) (sM S3 - sM S1)).frames + 1 ≤ R.frames ∧ 8 + (ML m2 + 11) + (rmD d (sN S3 - sN S1) (sM S3 - sM S1)).locals ≤ R.locals := fun m2 => by
    have := ml_le m2
    exact ⟨hRf, by show 8 + (ML m2 + 11) + (200 + 60 * d) ≤ R.locals; omega⟩
  rcases hk with ⟨k, rfl, hv⟩ | ⟨k, rfl, hrc⟩ | ⟨k, rfl, hv, hrc⟩
  · -- static
    dsimp only at hv hci hdc hcl
    simp only [chkI] at hci
    rw [if_neg hv] at hci
    simp only [Bool.and_eq_true, Bool.or_eq_true, decide_eq_true_eq] at hci
    obtain ⟨⟨⟨⟨⟨⟨⟨⟨c1, c2⟩, c3⟩, c4⟩, c5⟩, c6⟩, c7⟩, c8⟩, -⟩ := hci
    have hd : (mY (g0 l9 0)).cls ≠ "java/lang/invoke/MethodHandle" ∧ (mY (g0 l9 0)).cls ≠ "java/lang/invoke/VarHandle" ∧ (parseMethodDescriptor (mY (g0 l9 0)).desc).map (fun d => d.parameters.length) = some (g0 l9 1) := by
      simp only [clsOk, Bool.and_eq_true, decide_eq_true_eq] at c6
      exact ⟨c6.1, c6.2, c5⟩
    have hp : PreS s H1 (PcM D D7 B0 E α1 S1 (st.take (g0 l9 1)).reverse) ((st.take (g0 l9 1)).reverse.map (conc α1)) := ⟨PcM.blind, fun U hU hW => PcM.at C0 hcast I0 hao hac hU hW⟩
    by_cases hm2 : g0 l9 0 < 314
    · have hM := hmet (g0 l9 0) _ S1 o1 S3 α1 hm2 (by rw [hal]; exact c7) hcl
      refine ⟨((st.take (g0 l9 1)).reverse.map (conc α1)).toArray, ?_⟩
      rcases c2 with c2 | c2
      · exact vx_runS hF hM ⟨callB_of (g0 l9 1) hts (good_wsM hm2) rfl rfl rfl (hts _ (inH_mem c4)) (hts _ (inH_mem c2)) hd (hfr _), hts _ (inH_mem c3)⟩ hp rfl (map_len.trans hal) hsz stk_split (hW8 _ _ _) (of_decide_eq_true hdc) hcs
      · exact vx_runSN hF hM ⟨va_cnB (g0 l9 1) hts (good_wsM hm2) rfl rfl rfl (ext.2.2.2.2.2.2.2.1 _ (inG_mem c2) rfl) (hts _ (inH_mem c4)) hd (hfr _), hts _ (inH_mem c3), trivial⟩ hp rfl (map_len.trans hal) hsz stk_split (hW8 _ _ _) (of_decide_eq_true hdc) hcs
    · obtain ⟨hm361, hm3⟩ := c8.resolve_left hm2
      obtain ⟨w1, w2, w3⟩ := hmW (by omega)
      have hm2' : 314 ≤ g0 l9 0 := by omega
      cases o1 with
      | inr k => exact absurd (hthw k rfl (by rw [w2]; rfl)) (w1 k)
      | inl r =>
        have hM := w3 (g0 l9 0) _ S1 r S3 α1 hm2' hm3 (by rw [hal]; exact c7) hcl
        have hlink : (Cond.methodLink (mY m).cls k (mY (g0 l9 0))).before args s = true := by
          rcases c2 with c2 | c2
          · exact hts _ (inH_mem c2)
          · subst hm361
            have := List.all_eq_true.mp nestL _ (List.mem_of_getElem? (of_decide_eq_true c2))
            cases this
        refine ⟨((st.take (g0 l9 1)).reverse.map (conc α1)).toArray, vx_ofRun (vx_runSW (hh := htL.getD (g0 l9 0 - 314) []) hF hM ⟨⟨rfl, rfl, (hfr (g0 l9 0)).1, (hfr (g0 l9 0)).2, pay_in hts (good_wsW hm2' hm3), List.mem_cons_self⟩, hts _ (twg_cwW hm2' hm3), hts _ (inH_mem c4), ⟨hd.1, hd.2.1⟩, fun sig h => by unfold prm at c5; rw [h] at c5; exact (Option.some.inj c5).symm, hlink, hts _ (inH_mem c3)⟩ hp rfl (map_len.trans hal) hsz stk_split (hW8 _ _ _) (of_decide_eq_true hdc) hcs)⟩
  · -- virtual
    dsimp only at hrc hci hdc hcl
    simp only [chkI] at hci
    simp only [Bool.and_eq_true, decide_eq_true_eq] at hci
    obtain ⟨⟨⟨⟨⟨⟨⟨⟨⟨c1, c2⟩, c3⟩, c4⟩, c5⟩, c6⟩, c9⟩, c7⟩, c8⟩, -⟩ := hci
    obtain ⟨k1, hp1, hk1⟩ := Option.map_eq_some_iff.mp c5
    obtain ⟨i, hsp1, hsp2⟩ := rcv_split (k := k1) (t := g0 l9 2) (by rw [hk1]; exact hrc)
    have hd : (mY (g0 l9 0)).cls ≠ "java/lang/invoke/MethodHandle" ∧ (mY (g0 l9 0)).cls ≠ "java/lang/invoke/VarHandle" ∧ (parseMethodDescriptor (mY (g0 l9 0)).desc).map (fun d => d.parameters.length) = some k1 := by
      simp only [clsOk, Bool.and_eq_true, decide_eq_true_eq] at c6
      exact ⟨c6.1, c6.2, hp1⟩
    have hM := hmet (g0 l9 0) _ S1 o1 S3 α1 c8 (by rw [hal]; exact c7) hcl
    have ea : (st.take (g0 l9 1)).reverse = vr (g0 l9 2) i :: (st.take k1).reverse := by rw [← hk1, hsp2, List.reverse_append]; rfl
    have hor : okr S1 (g0 l9 2, i) := so (vr (g0 l9 2) i) (List.mem_of_mem_drop (i := k1) (by rw [hsp1]; exact List.mem_cons_self))
    have hp : PreV s H1 (clN (g0 l9 2)) (α1 (g0 l9 2) i) (PcM D D7 B0 E α1 S1 (st.take (g0 l9 1)).reverse) ((st.take k1).reverse.map (conc α1)) := by
      refine ⟨PcM.blind, recv_cell C0 I0 hor c9, fun U hU hW => ?_⟩
      have := PcM.at C0 hcast I0 hao hac hU hW
      rw [ea] at this ⊢
      exact this
    have hk1l : k1 ≤ st.length := by omega
    have hstk : st.map (conc α1) = ((st.take k1).reverse.map (conc α1)).reverse ++ .ref (α1 (g0 l9 2) i) :: (st.drop (g0 l9 1)).map (conc α1) := by
      rw [stk_split (n := k1), hsp1, ← hk1]
      rfl
    refine ⟨(Value.ref (α1 (g0 l9 2) i) :: (st.take k1).reverse.map (conc α1)).toArray, ?_⟩
    exact vx_runV hF hM ⟨callB_of k1 hts (good_wsM c8) rfl rfl rfl (hts _ (inH_mem c4)) (hts _ (inH_mem c1)) hd (hfr _), hts _ (inH_mem c2), hts _ (inH_mem c3)⟩ hp rfl (by rw [map_len, List.length_reverse, List.length_take]; exact Nat.min_eq_left hk1l) hsz hstk (hW8 _ _ _) (of_decide_eq_true hdc) hcs
  · -- special
    dsimp only at hv hrc hci hdc hcl
    simp only [chkI] at hci
    rw [if_neg hv] at hci
    by_cases h0 : v = 0
    · rw [if_pos h0] at hci
      simp only [Bool.and_eq_true, Bool.or_eq_true, decide_eq_true_eq] at hci
      obtain ⟨⟨⟨⟨⟨⟨⟨⟨⟨c1, c2⟩, c4⟩, c3⟩, cr⟩, c5⟩, c6⟩, c7⟩, c8⟩, -⟩ := hci
      obtain ⟨k1, hp1, hk1⟩ := Option.map_eq_some_iff.mp c5
      obtain ⟨i, hsp1, hsp2⟩ := rcv_split (k := k1) (t := g0 l9 2) (by rw [hk1]; exact hrc)
      have hd : (mY (g0 l9 0)).cls ≠ "java/lang/invoke/MethodHandle" ∧ (mY (g0 l9 0)).cls ≠ "java/lang/invoke/VarHandle" ∧ (parseMethodDescriptor (mY (g0 l9 0)).desc).map (fun d => d.parameters.length) = some k1 := by
        simp only [clsOk, Bool.and_eq_true, decide_eq_true_eq] at c6
        exact ⟨c6.1, c6.2, hp1⟩
      have hM := hmet (g0 l9 0) _ S1 o1 S3 α1 c8 (by rw [hal]; exact c7) hcl
      have ea : (st.take (g0 l9 1)).reverse = vr (g0 l9 2) i :: (st.take k1).reverse := by rw [← hk1, hsp2, List.reverse_append]; rfl
      have hp : PreS s H1 (PcM D D7 B0 E α1 S1 (st.take (g0 l9 1)).reverse) (.ref (α1 (g0 l9 2) i) :: (st.take k1).reverse.map (conc α1)) := by
        refine ⟨PcM.blind, fun U hU hW => ?_⟩
        have := PcM.at C0 hcast I0 hao hac hU hW
        rw [ea] at this ⊢
        exact this
      have hk1l : k1 ≤ st.length := by omega
      have hstk : st.map (conc α1) = ((st.take k1).reverse.map (conc α1)).reverse ++ .ref (α1 (g0 l9 2) i) :: (st.drop (g0 l9 1)).map (conc α1) := by
        rw [stk_split (n := k1), hsp1, ← hk1]
        rfl
      refine ⟨(Value.ref (α1 (g0 l9 2) i) :: (st.take k1).reverse.map (conc α1)).toArray, ?_⟩
      rcases c1 with c1 | c1
      · exact vx_runI hF hM ⟨callB_of k1 hts (good_wsM c8) (by unfold wsM; rw [cr]) rfl rfl (hts _ (inH_mem c4)) (hts _ (inH_mem c1)) hd (hfr _), c3, hts _ (inH_mem c2)⟩ hp rfl (by rw [map_len, List.length_reverse, List.length_take]; exact Nat.min_eq_left hk1l) hsz hstk (hW8 _ _ _) (of_decide_eq_true hdc) hcs
      · exact vx_runIN hF hM ⟨va_cnB k1 hts (good_wsM c8) (by unfold wsM; rw [cr]) rfl rfl (ext.2.2.2.2.2.2.2.1 _ (inG_mem c1) rfl) (hts _ (inH_mem c4)) hd (hfr _), c3, hts _ (inH_mem c2)⟩ hp rfl (by rw [map_len, List.length_reverse, List.length_take]; exact Nat.min_eq_left hk1l) hsz hstk (hW8 _ _ _) (of_decide_eq_true hdc) hcs
    · rw [if_neg h0] at hci
      simp only [Bool.and_eq_true, decide_eq_true_eq] at hci
      obtain ⟨⟨⟨⟨⟨⟨⟨⟨⟨⟨⟨c0, c1⟩, c2⟩, c3⟩, c4⟩, c5⟩, c6⟩, c9⟩, c10⟩, c7⟩, c8⟩, -⟩ := hci
      obtain ⟨k1, hp1, hk1⟩ := Option.map_eq_some_iff.mp c9
      obtain ⟨i, hsp1, hsp2⟩ := rcv_split (k := k1) (t := g0 l9 2) (by rw [hk1]; exact hrc)
      have hM := hmet (g0 l9 0) _ S1 o1 S3 α1 c8 (by rw [hal]; exact c7) hcl
      have ea : (st.take (g0 l9 1)).reverse = vr (g0 l9 2) i :: (st.take k1).reverse := by rw [← hk1, hsp2, List.reverse_append]; rfl
      have hor : okr S1 (g0 l9 2, i) := so (vr (g0 l9 2) i) (List.mem_of_mem_drop (i := k1) (by rw [hsp1]; exact List.mem_cons_self))
      have hp : PreV s H1 (clN (g0 l9 2)) (α1 (g0 l9 2) i) (PcM D D7 B0 E α1 S1 (st.take (g0 l9 1)).reverse) ((st.take k1).reverse.map (conc α1)) := by
        refine ⟨PcM.blind, recv_cell C0 I0 hor (by omega), fun U hU hW => ?_⟩
        have := PcM.at C0 hcast I0 hao hac hU hW
        rw [ea] at this ⊢
        exact this
      have hk1l : k1 ≤ st.length := by omega
      have hstk : st.map (conc α1) = ((st.take k1).reverse.map (conc α1)).reverse ++ .ref (α1 (g0 l9 2) i) :: (st.drop (g0 l9 1)).map (conc α1) := by
        rw [stk_split (n := k1), hsp1, ← hk1]
        rfl
      have hat : ClassAt s (clN (g0 l9 2)) (D.1 10) := by
        rw [c10]
        exact (hK.1 10 _ rfl).2
      refine ⟨(Value.ref (α1 (g0 l9 2) i) :: (st.take k1).reverse.map (conc α1)).toArray, ?_⟩
      exact vx_runSU hat hF hM ⟨⟨rfl, rfl, (hfr (g0 l9 0)).1, (hfr (g0 l9 0)).2, pay_in hts (good_wsM c8), List.mem_cons_self⟩, hts _ (inH_mem c1), hts _ (inH_mem c2), hts _ (inH_mem c3), hts _ (inH_mem c4), hts _ (inH_mem c5), hts _ (twg_cw c8), c6, fun sig h => by unfold prm at hp1; rw [h] at hp1; exact (Option.some.inj hp1).symm⟩ hp rfl (by rw [map_len, List.length_reverse, List.length_take]; exact Nat.min_eq_left hk1l) hsz hstk (hW8 _ _ _) (of_decide_eq_true hdc) hcs
end MetC
