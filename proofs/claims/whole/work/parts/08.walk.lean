/-! the real machine follows AM's straight steps -/
def TWG : List Jvm.Cond := lw2.filter goodWord
def isNest (w : Jvm.Cond) : Bool := match w with
  | .methodLinkNest .. => true
  | _ => false
def ExtOK (B0 : Nat) (α : Nat → Nat → Nat) (E : St) (U : State) : Prop :=
  (va_X (α 55 0) (sL E 55 0) (sI E 55 0) U U.heap ∧ α 55 0 < U.heap.size ∧ ¬ B0 ≤ α 55 0) ∧
  (∀ i, i < 10 → va_O "java/lang/String" (α 12 i) (fun q => B0 ≤ q) U U.heap ∧ va_OF "java/lang/String" "coder" "B" (.int (sI E 12 i 1)) (α 12 i) (fun q => B0 ≤ q) U U.heap ∧ va_OF "java/lang/String" "value" "[B" (conc α (sR E 12 i 0)) (α 12 i) (fun q => B0 ≤ q) U U.heap ∧ va_T .byte (α 56 i) (sL E 56 i) (fun j => .int (sI E 56 i j)) (fun q => B0 ≤ q) U U.heap ∧ vk_R "SighGranary$Script" (TXK.getD i 0) (TXL.getD i "") (α 12 i) U) ∧
  va_T .byte (α 57 0) (sL E 57 0) (fun j => .int (sI E 57 0 j)) (fun q => B0 ≤ q) U U.heap ∧
  va_T .byte (α 58 0) (sL E 58 0) (fun j => .int (sI E 58 0 j)) (fun q => B0 ≤ q) U U.heap ∧
  (∀ j q, SFL[j]? = some q → va_Z q.1 q.2.1 q.2.2 (if j = 0 then .int (sI E 60 0 0) else conc α (sR E 60 0 j)) (fun q => B0 ≤ q) U U.heap) ∧
  vx_Zq Bundle.tN "UNASSIGNED_STACK" Bundle.steD (fun q => B0 ≤ q) U U.heap ∧ vx_Zq Bundle.tN "SUPPRESSED_SENTINEL" Bundle.listD (fun q => B0 ≤ q) U U.heap ∧
  (∀ w ∈ lw2, isNest w = true → va_Nw w U) ∧ va_AO "SighGranary$Data" U
theorem okr_w {S : St} {t i : Nat} (hw : isW t = true) (h : okr S (t, i)) : i < sC S t := by
  rcases h with h | ⟨h, -⟩ | ⟨h, -⟩ | h | h | h
  · exact h.2
  · dsimp only at h; subst h; exact absurd hw (by decide)
  · dsimp only at h; subst h; exact absurd hw (by decide)
  · cases h; exact absurd hw (by decide)
  · cases h; exact absurd hw (by decide)
  · cases h; exact absurd hw (by decide)
theorem EqX.ext {S E : St} (h : EqX S E) {t : Nat} (ht : isW t = false) : (∀ i j, sI S t i j = sI E t i j) ∧ (∀ i j, sR S t i j = sR E t i j) ∧ (∀ i, sL S t i = sL E t i) := by
  obtain ⟨h1, h2, h3⟩ := h t ht
  exact ⟨fun i j => by rw [h1], fun i j => by rw [h2], fun i => by rw [h3]⟩
theorem ExtOK.grow {B0 : Nat} {α α2 : Nat → Nat → Nat} {S E : St} {U : State} (h : ExtOK B0 α E U) (g : Grow α α2 S) (ho : RO S) (he : EqX S E) : ExtOK B0 α2 E U := by
  obtain ⟨h1, h2, h3, h4, h5, h6⟩ := h
  have e55 : α2 55 0 = α 55 0 := g (55, 0) (Or.inr (Or.inr (Or.inr (Or.inl rfl))))
  have e57 : α2 57 0 = α 57 0 := g (57, 0) (Or.inr (Or.inr (Or.inr (Or.inr (Or.inl rfl)))))
  have e58 : α2 58 0 = α 58 0 := g (58, 0) (Or.inr (Or.inr (Or.inr (Or.inr (Or.inr rfl)))))
  have e12 : ∀ i, i < 10 → α2 12 i = α 12 i := fun i hi => g (12, i) (Or.inr (Or.inl ⟨rfl, hi⟩))
  have e56 : ∀ i, i < 10 → α2 56 i = α 56 i := fun i hi => g (56, i) (Or.inr (Or.inr (Or.inl ⟨rfl, hi⟩)))
  have c12 : ∀ i, conc α2 (sR E 12 i 0) = conc α (sR E 12 i 0) := fun i => g.cc (by
    rw [← (he.ext (t := 12) rfl).2.1]
    cases hx : sR S 12 i 0 with
    | inl w => trivial
    | inr q => exact ho 12 i 0 q (Or.inr (Or.inl rfl)) hx)
  have c60 : ∀ j, conc α2 (sR E 60 0 j) = conc α (sR E 60 0 j) := fun j => g.cc (by
    rw [← (he.ext (t := 60) rfl).2.1]
    cases hx : sR S 60 0 j with
    | inl w => trivial
    | inr q => exact ho 60 0 j q (Or.inr (Or.inr rfl)) hx)
  refine ⟨by rw [e55]; exact h1, fun i hi => ?_, by rw [e57]; exact h3, by rw [e58]; exact h4, fun j q hq => by rw [c60]; exact h5 j q hq, h6⟩
  rw [e12 i hi, e56 i hi, c12]
  exact h2 i hi
theorem ExtOK.step {B0 : Nat} {α : Nat → Nat → Nat} {E : St} {s U : State} (h : ExtOK B0 α E s) (hW : s.WarmedH U.vm) (hz : s.heap.size ≤ U.heap.size) (hk : ∀ q : Nat, q < s.heap.size → ¬ B0 ≤ q → U.heap[q]? = s.heap[q]?) : ExtOK B0 α E U := by
  obtain ⟨⟨h1, h1b, h1c⟩, h2, h3, h4, h5, h6, h7, h8, h9⟩ := h
  have ha := hW.alike
  refine ⟨⟨(h1.moved ha).kept (hk _ h1b h1c), Nat.lt_of_lt_of_le h1b hz, h1c⟩, fun i hi => ?_, (h3.moved ha).kept hk, (h4.moved ha).kept hk, fun j q hq => ((h5 j q hq).moved ha).kept hk, (h6.moved ha).kept hk, (h7.moved ha).kept hk, fun w hw hn => ?_, h9.moved ha⟩
  · obtain ⟨a1, a2, a3, a4, a5⟩ := h2 i hi
    exact ⟨(a1.moved ha).kept hk, (a2.moved ha).kept hk, (a3.moved ha).kept hk, (a4.moved ha).kept hk, a5.warm hW⟩
  · have := h8 w hw hn
    cases w <;> first
      | exact va_Nw.warmM hW this
      | (simp [isNest] at hn)
theorem cl_lt {t : Nat} {q : vw_C} (h : clL[t]? = some q) : t < 12 := (List.getElem?_eq_some_iff.mp h).1
theorem cl_isW {t : Nat} (h : t < 12) : isW t = true := by simp [isW, h]
theorem inW_mem {m : Nat} {w : Jvm.Cond} (h : inW m w = true) : w ∈ TWG := by
  simp only [inW, Bool.and_eq_true, decide_eq_true_eq] at h
  obtain ⟨i, -, hi⟩ := List.mem_filterMap.mp h.1
  exact List.mem_filter.mpr ⟨tbl_mem _ _ (List.mem_of_getElem? hi), h.2⟩
theorem inN_mem {m : Nat} {w : Jvm.Cond} (h : inN m w = true) : w ∈ lw2 := by
  simp only [inN, decide_eq_true_eq] at h
  obtain ⟨i, -, hi⟩ := List.mem_filterMap.mp h
  exact tbl_mem _ _ (List.mem_of_getElem? hi)
/-- what each class's table is good for -/
def clsFact (q : vw_C) (t : Nat) : Bool := (u_ws q.1 q.2.1 q.2.2).all (fun w => decide (w ∈ TWG)) && (List.range q.2.2).all (fun k => (parseFieldDescriptor (q.2.1 k).2.2.1).isSome) &&
  (List.range q.2.2).all (fun a => (List.range q.2.2).all (fun b => decide (a = b) || decide ((q.2.1 a).2.1 ≠ (q.2.1 b).2.1))) &&
  (List.range q.2.2).all (fun k => decide (defaultValue ((parseFieldDescriptor (q.2.1 k).2.2.1).getD .int) = if refF t k then .null else .int 0)) && decide (q.2.2 ≤ 30)
theorem cls_facts : (List.range 12).all (fun t => match clL[t]? with
  | some q => clsFact q t
  | none => false) = true := by decide +kernel
theorem cls_fact {t : Nat} {q : vw_C} (h : clL[t]? = some q) : (∀ w ∈ u_ws q.1 q.2.1 q.2.2, w ∈ TWG) ∧ (∀ k, k < q.2.2 → parseFieldDescriptor (q.2.1 k).2.2.1 = some ((parseFieldDescriptor (q.2.1 k).2.2.1).getD .int)) ∧
    (∀ a, a < q.2.2 → ∀ b, b < q.2.2 → a ≠ b → (q.2.1 a).2.1 ≠ (q.2.1 b).2.1) ∧ (∀ k, k < q.2.2 → defaultValue ((parseFieldDescriptor (q.2.1 k).2.2.1).getD .int) = if refF t k = true then .null else .int 0) := by
  have h0 := List.all_eq_true.mp cls_facts t (List.mem_range.mpr (cl_lt h))
  rw [h] at h0
  simp only [clsFact, Bool.and_eq_true, List.all_eq_true, List.mem_range, decide_eq_true_eq, Bool.or_eq_true] at h0
  obtain ⟨⟨⟨⟨h1, h2⟩, h3⟩, h4⟩, -⟩ := h0
  refine ⟨h1, fun k hk => ?_, fun a ha b hb hne => (h3 a ha b hb).resolve_left hne, h4⟩
  obtain ⟨x, hx⟩ := Option.isSome_iff_exists.mp (h2 k hk)
  rw [hx]; rfl
theorem nF_eq {t : Nat} {q : vw_C} (h : clL[t]? = some q) : nF t = q.2.2 := by simp [nF, h]
def LOK (α : Nat → Nat → Nat) (m : Nat) (lv : List AV) (ls : Array Slot) : Prop :=
  lv.length = ML m ∧ lv_has ls (ML m) [] ∧ (∀ (j : Nat) v, lv[j]? = some v → v ≠ unk → ls[j]? = some (.val (conc α v))) ∧ ∀ (j : Nat) v, lv[j]? = some v → cat v = 2 → j ∈ dst m
def Cx (p : Program) (l : Launch) (s : State) (mi : MethodId) (args : Array Value) (meth : Method) (c : Code) (D : va_G) (D7 : Nat → ClassId) (B0 : Nat) (E S0 : St) (m : Nat) : Prop :=
  p.tables.exec = Jvm.exec ∧ c.code = mB m ∧ c.maxLocals = ML m ∧ s.vm.findClass (mY m).cls = some mi.cls ∧ (∀ w ∈ TWG, w.before args s = true) ∧ va_K D clL (tys D7) s ∧ meth.sig.returnType = mR m ∧ meth.locks = false ∧ B0 ≤ s.heap.size ∧ meth.name = (mY m).name ∧ l.stackTraces = false
def Iv (s : State) (D : va_G) (D7 : Nat → ClassId) (B0 : Nat) (E S0 : St) (α0 : Nat → Nat → Nat) (m : Nat) (α : Nat → Nat → Nat) (S : St) (lv st : List AV) (H : Heap) (locs : List Loc) (ls : Array Slot) : Prop :=
  WI D D7 B0 α S H ∧ RO S ∧ EqX S E ∧ ExtOK B0 α E s ∧ va_S (fun q => B0 ≤ q) s.heap H locs ∧ (∀ v ∈ st, okv S v) ∧ LOK α m lv ls ∧ (∀ v ∈ lv, v = unk ∨ okv S v) ∧ Grow α0 α S0 ∧ Mn S0 S
section Pop
variable {ρ : Type} {st : List AV} {r : ρ}
theorem pI_some {k : Int32 → List AV → Option ρ} (h : pI st k = some r) : ∃ x st2, st = vi x :: st2 ∧ k x st2 = some r := by
  unfold pI at h
  split at h
  · exact ⟨_, _, rfl, h⟩
  · cases h
theorem pII_some {k : Int32 → Int32 → List AV → Option ρ} (h : pII st k = some r) : ∃ x y st2, st = vi y :: vi x :: st2 ∧ k x y st2 = some r := by
  unfold pII at h
  split at h
  · exact ⟨_, _, _, rfl, h⟩
  · cases h
theorem pR_some {k : Nat → Nat → List AV → Option ρ} (h : pR st k = some r) : ∃ t i st2, st = vr t i :: st2 ∧ k t i st2 = some r := by
  unfold pR at h
  split at h
  · exact ⟨_, _, _, rfl, h⟩
  · cases h
theorem pIR_some {k : Nat → Nat → Int32 → List AV → Option ρ} (h : pIR st k = some r) : ∃ t i j st2, st = vi j :: vr t i :: st2 ∧ k t i j st2 = some r := by
  unfold pIR at h
  split at h
  · exact ⟨_, _, _, _, rfl, h⟩
  · cases h
theorem pIIR_some {k : Nat → Nat → Int32 → Int32 → List AV → Option ρ} (h : pIIR st k = some r) : ∃ t i j x st2, st = vi x :: vi j :: vr t i :: st2 ∧ k t i j x st2 = some r := by
  unfold pIIR at h
  split at h
  · exact ⟨_, _, _, _, _, rfl, h⟩
  · cases h
theorem pV_some {k : AV → List AV → Option ρ} (h : pV st k = some r) : ∃ v st2, st = v :: st2 ∧ k v st2 = some r := by
  unfold pV at h
  split at h
  · exact ⟨_, _, rfl, h⟩
  · cases h
theorem pVV_some {k : AV → AV → List AV → Option ρ} (h : pVV st k = some r) : ∃ v w st2, st = v :: w :: st2 ∧ k v w st2 = some r := by
  unfold pVV at h
  split at h
  · exact ⟨_, _, _, rfl, h⟩
  · cases h
end Pop
theorem conc_cat {α : Nat → Nat → Nat} {v : AV} : (conc α v).category = cat v := by
  cases v with
  | inl w => cases w <;> rfl
  | inr q => rfl
theorem catS_map {α : Nat → Nat → Nat} : ∀ st : List AV, ((st.map (conc α)).map fun v => v.category).sum = catS st
  | [] => rfl
  | v :: st => by
    simp only [List.map_cons, List.sum_cons, catS, conc_cat]
    rw [← catS_map (α := α) st, List.map_map]
theorem toCh_nar (x : Int32) : vp_nar .char x = toCh x := by
  rw [vp_nar_char]
  unfold toCh
  congr 1
theorem vp_of {j : Int32} {n : Nat} (h : inbB j n = true) : vp_in j n := vp_in_iff.mpr (inbB_iff.mp h)
section Loc
variable {α : Nat → Nat → Nat} {m : Nat} {lv : List AV} {ls : Array Slot}
/-- the known places, as a list for the kit's rows -/
def knL (α : Nat → Nat → Nat) (lv : List AV) : List (Nat × Value) := (List.range lv.length).filterMap (fun j => match lv[j]? with
  | some v => if v = unk then none else some (j, conc α v)
  | none => none)
theorem knL_mem {q : Nat × Value} : q ∈ knL α lv ↔ ∃ v, lv[q.1]? = some v ∧ v ≠ unk ∧ q.2 = conc α v := by
  unfold knL
  rw [List.mem_filterMap]
  constructor
  · rintro ⟨j, -, hj⟩
    cases hv : lv[j]? with
    | none => rw [hv] at hj; cases hj
    | some v =>
      rw [hv] at hj
      dsimp only at hj
      split at hj
      · cases hj
      · rename_i hu
        cases hj
        exact ⟨v, hv, hu, rfl⟩
  · rintro ⟨v, hv, hu, hq⟩
    refine ⟨q.1, List.mem_range.mpr (List.getElem?_eq_some_iff.mp hv).1, ?_⟩
    rw [hv]
    dsimp only
    rw [if_neg hu, ← hq]
theorem LOK.has (h : LOK α m lv ls) : lv_has ls (ML m) (knL α lv) := by
  obtain ⟨h1, ⟨a, b, -⟩, h3, -⟩ := h
  refine ⟨a, b, fun q hq => ?_⟩
  obtain ⟨v, hv, hu, e⟩ := knL_mem.mp hq
  rw [e]
  exact h3 _ _ hv hu
theorem LOK.set1 {x : Nat} {v : AV} {ls2 : Array Slot} (h : LOK α m lv ls) (hx : x < ML m) (hd : ∀ y ∈ dst m, y + 1 ≠ x) (hc : cat v = 1) (h2 : lv_has ls2 (ML m) ((x, conc α v) :: (knL α lv).filter (fun q => !(q.1 == x) && !(q.1 + 1 == x && q.2.category == 2)))) : LOK α m (lv.set x v) ls2 := by
  obtain ⟨h1, -, h3, h4⟩ := h
  obtain ⟨a, b, g⟩ := h2
  refine ⟨by rw [List.length_set]; exact h1, ⟨a, b, fun q hq => by cases hq⟩, fun j w hj hw => ?_, fun j w hj hw => ?_⟩
  · rw [List.getElem?_set] at hj
    by_cases hxj : x = j
    · subst hxj
      rw [if_pos rfl, if_pos (by omega)] at hj
      cases hj
      exact g (x, conc α v) List.mem_cons_self
    · rw [if_neg hxj] at hj
      refine g (j, conc α w) (List.mem_cons_of_mem _ (List.mem_filter.mpr ⟨knL_mem.mpr ⟨w, hj, hw, rfl⟩, ?_⟩))
      simp only [Bool.and_eq_true, Bool.not_eq_true', beq_eq_false_iff_ne, ne_eq, Bool.and_eq_false_iff]
      refine ⟨fun z => hxj z.symm, ?_⟩
      by_cases hc2 : cat w = 2
      · exact Or.inl (hd j (h4 j w hj hc2))
      · exact Or.inr (by rw [conc_cat]; exact hc2)
  · rw [List.getElem?_set] at hj
    by_cases hxj : x = j
    · subst hxj
      rw [if_pos rfl, if_pos (by omega)] at hj
      cases hj
      omega
    · rw [if_neg hxj] at hj
      exact h4 j w hj hw
theorem LOK.set2 {x : Nat} {v : AV} {ls2 : Array Slot} (h : LOK α m lv ls) (hx : x + 1 < ML m) (hm : x ∈ dst m) (hd : ∀ y ∈ dst m, y + 1 ≠ x) (h2 : lv_has ls2 (ML m) ((x, conc α v) :: (knL α lv).filter (fun q => !(q.1 == x) && (!(q.1 == x + 1) && !(q.1 + 1 == x && q.2.category == 2))))) : LOK α m ((lv.set x v).set (x + 1) unk) ls2 := by
  obtain ⟨h1, -, h3, h4⟩ := h
  obtain ⟨a, b, g⟩ := h2
  have key : ∀ (j : Nat) w, ((lv.set x v).set (x + 1) unk)[j]? = some w → (j = x + 1 ∧ w = unk) ∨ (j = x ∧ w = v) ∨ (j ≠ x ∧ j ≠ x + 1 ∧ lv[j]? = some w) := by
    intro j w hj
    rw [List.getElem?_set] at hj
    by_cases e1 : x + 1 = j
    · rw [if_pos e1, if_pos (by rw [List.length_set]; omega)] at hj
      cases hj
      exact Or.inl ⟨e1.symm, rfl⟩
    · rw [if_neg e1, List.getElem?_set] at hj
      by_cases e2 : x = j
      · rw [if_pos e2, if_pos (by omega)] at hj
        cases hj
        exact Or.inr (Or.inl ⟨e2.symm, rfl⟩)
      · rw [if_neg e2] at hj
        exact Or.inr (Or.inr ⟨fun z => e2 z.symm, fun z => e1 z.symm, hj⟩)
  refine ⟨by rw [List.length_set, List.length_set]; exact h1, ⟨a, b, fun q hq => by cases hq⟩, fun j w hj hw => ?_, fun j w hj hw => ?_⟩
  · rcases key j w hj with ⟨-, rfl⟩ | ⟨rfl, rfl⟩ | ⟨e1, e2, hj⟩
    · exact absurd rfl hw
    · exact g (j, conc α w) List.mem_cons_self
    · refine g (j, conc α w) (List.mem_cons_of_mem _ (List.mem_filter.mpr ⟨knL_mem.mpr ⟨w, hj, hw, rfl⟩, ?_⟩))
      simp only [Bool.and_eq_true, Bool.not_eq_true', beq_eq_false_iff_ne, ne_eq, Bool.and_eq_false_iff]
      refine ⟨e1, e2, ?_⟩
      by_cases hc2 : cat w = 2
      · exact Or.inl (hd j (h4 j w hj hc2))
      · exact Or.inr (by rw [conc_cat]; exact hc2)
  · rcases key j w hj with ⟨-, rfl⟩ | ⟨rfl, rfl⟩ | ⟨e1, e2, hj⟩
    · cases hw
    · exact hm
    · exact h4 j w hj hw
end Loc
theorem getD_some {l : List AV} {x : Nat} {v : AV} (h : l.getD x unk = v) (hv : v ≠ unk) : l[x]? = some v := by
  rw [List.getD_eq_getElem?_getD] at h
  cases hx : l[x]? with
  | none => rw [hx] at h; exact absurd h.symm hv
  | some w => rw [hx] at h; exact congrArg some h
section Ent
variable {D7 : Nat → ClassId} {α : Nat → Nat → Nat} {S E : St} {t i k j : Nat}
theorem entE_o (ht : t < 12) : entE D7 α S (t, i) = .inr (t, (List.range (nF t)).map (fldV α S t i)) := by
  unfold entE
  rw [if_pos ht]
theorem entE_l (ht : ¬ t < 12) (hk : kd t = 5) : entE D7 α S (t, i) = .inl (D7 5, sL S t i, .inr (.inl (sJ S t i))) := by
  unfold entE
  rw [if_neg ht, if_pos hk]
theorem entE_d (ht : ¬ t < 12) (hk : kd t = 6) : entE D7 α S (t, i) = .inl (D7 6, sL S t i, .inr (.inr (.inr (.inl (sD S t i))))) := by
  unfold entE
  rw [if_neg ht, if_neg (by rw [hk]; decide), if_pos hk]
theorem entE_q (ht : ¬ t < 12) (hk : kd t = 7) : entE D7 α S (t, i) = .inl (D7 7, sL S t i, .inr (.inr (.inr (.inr (fun n => rfo α (sR S t i n)))))) := by
  unfold entE
  rw [if_neg ht, if_neg (by rw [hk]; decide), if_neg (by rw [hk]; decide), if_pos hk]
theorem entE_len (ht : ¬ t < 12) (h0 : kd t ≠ 0) (h8 : kd t < 8) : ∃ (cA : ClassId) (x : vp_A) (ty : FieldType) (t0 : Nat), entE D7 α S (t, i) = .inl (cA, x) ∧ (tys D7)[t0]? = some (cA, ty) ∧ x.1 = sL S t i := by
  by_cases h5 : kd t = 5
  · exact ⟨_, _, .long, 4, entE_l ht h5, rfl, rfl⟩
  by_cases h6 : kd t = 6
  · exact ⟨_, _, .double, 5, entE_d ht h6, rfl, rfl⟩
  by_cases h7 : kd t = 7
  · exact ⟨_, _, .object "SighGranary$Data", 6, entE_q ht h7, rfl, rfl⟩
  have e := entE_i (D7 := D7) (α := α) (S := S) (t := t) (i := i) ht h5 h6 h7
  have hz : kd t = 1 ∨ kd t = 2 ∨ kd t = 3 ∨ kd t = 4 := by omega
  rcases hz with hz | hz | hz | hz <;> rw [hz] at e
  · exact ⟨_, _, .int, 0, e, rfl, rfl⟩
  · exact ⟨_, _, .byte, 1, e, rfl, rfl⟩
  · exact ⟨_, _, .boolean, 2, e, rfl, rfl⟩
  · exact ⟨_, _, .char, 3, e, rfl, rfl⟩
theorem entE_wR_ne {x : AV} {q : Nat × Nat} (h : q ≠ (t, i)) : entE D7 α (wR S t i k x) q = entE D7 α S q := by
  have hs : sR (wR S t i k x) q.1 q.2 = sR S q.1 q.2 := by
    funext j
    show (if q.1 = t ∧ q.2 = i ∧ j = k then x else _) = _
    exact if_neg (fun z => h (Prod.ext z.1 z.2.1))
  have hf : fldV α (wR S t i k x) q.1 q.2 = fldV α S q.1 q.2 := by
    funext j
    unfold fldV
    rw [show sR (wR S t i k x) q.1 q.2 j = sR S q.1 q.2 j from congrFun hs j]
    rfl
  unfold entE
  rw [hs, hf]
  rfl
theorem entE_wRq {x : AV} (ht : ¬ t < 12) (hk : kd t = 7) : entE D7 α (wR S t i j x) (t, i) = .inl (D7 7, sL S t i, .inr (.inr (.inr (.inr (va_up (fun n => rfo α (sR S t i n)) j (rfo α x)))))) := by
  rw [entE_q ht hk]
  rw [show (fun n => rfo α (sR (wR S t i j x) t i n)) = va_up (fun n => rfo α (sR S t i n)) j (rfo α x) by
    funext n
    show rfo α (if t = t ∧ i = i ∧ n = j then x else sR S t i n) = if n = j then rfo α x else rfo α (sR S t i n)
    by_cases h : n = j
    · simp [h]
    · simp [h]]
  rfl
theorem entE_wJ {x : Int64} (ht : ¬ t < 12) (hk : kd t = 5) : entE D7 α (wJ S t i j x) (t, i) = .inl (D7 5, sL S t i, .inr (.inl (vp_updL (sJ S t i) j x))) := by
  rw [entE_l ht hk]
  rw [show sJ (wJ S t i j x) t i = vp_updL (sJ S t i) j x by
    funext n
    show (if t = t ∧ i = i ∧ n = j then x else sJ S t i n) = if n = j then x else sJ S t i n
    simp]
  rfl
theorem entE_wJ_ne {x : Int64} {q : Nat × Nat} (h : q ≠ (t, i)) : entE D7 α (wJ S t i k x) q = entE D7 α S q := by
  have hs : sJ (wJ S t i k x) q.1 q.2 = sJ S q.1 q.2 := by
    funext j
    show (if q.1 = t ∧ q.2 = i ∧ j = k then x else _) = _
    exact if_neg (fun z => h (Prod.ext z.1 z.2.1))
  unfold entE
  rw [hs]
  rfl
theorem entE_wD {x : UInt64} (ht : ¬ t < 12) (hk : kd t = 6) : entE D7 α (wD S t i j x) (t, i) = .inl (D7 6, sL S t i, .inr (.inr (.inr (.inl (vf_upd (sD S t i) j x))))) := by
  rw [entE_d ht hk]
  rw [show sD (wD S t i j x) t i = vf_upd (sD S t i) j x by
    funext n
    show (if t = t ∧ i = i ∧ n = j then x else sD S t i n) = if n = j then x else sD S t i n
    simp]
  rfl
theorem entE_wD_ne {x : UInt64} {q : Nat × Nat} (h : q ≠ (t, i)) : entE D7 α (wD S t i k x) q = entE D7 α S q := by
  have hs : sD (wD S t i k x) q.1 q.2 = sD S q.1 q.2 := by
    funext j
    show (if q.1 = t ∧ q.2 = i ∧ j = k then x else _) = _
    exact if_neg (fun z => h (Prod.ext z.1 z.2.1))
  unfold entE
  rw [hs]
  rfl
theorem RO.wR {t2 i2 : Nat} (ho : RO S) (hx : okr S (t2, i2)) : RO (wR S t i k (.inr (t2, i2))) := by
  intro a b n q hl he
  have he2 : (if a = t ∧ b = i ∧ n = k then (.inr (t2, i2) : AV) else sR S a b n) = .inr q := he
  split at he2
  · cases he2; exact hx
  · exact ho a b n q hl he2
theorem EqX.wR {x : AV} (h : EqX S E) (ht : isW t = true) : EqX (wR S t i k x) E := by
  intro u hu
  obtain ⟨h1, h2, h3⟩ := h u hu
  refine ⟨h1, ?_, h3⟩
  rw [← h2]
  funext a n
  show (if u = t ∧ a = i ∧ n = k then x else sR S u a n) = _
  exact if_neg (fun z => by rw [z.1, ht] at hu; cases hu)
theorem kd_big {t : Nat} (h : 59 ≤ t) : kd t = 0 := by simp [kd, kdL, List.getD, List.getElem?_eq_none, h]
theorem kd_8 (t : Nat) (hk : kd t = 8) : t = 55 := by
  by_cases h : t < 59
  · have key : ∀ t : Nat, t < 59 → kd t = 8 → t = 55 := by decide +kernel
    exact key t h hk
  · rw [kd_big (by omega)] at hk; cases hk
theorem kd_9 (t : Nat) (hk : kd t = 9) : t = 56 := by
  by_cases h : t < 59
  · have key : ∀ t : Nat, t < 59 → kd t = 9 → t = 56 := by decide +kernel
    exact key t h hk
  · rw [kd_big (by omega)] at hk; cases hk
theorem kd_10 (t : Nat) (hk : kd t = 10) : t = 57 ∨ t = 58 := by
  by_cases h : t < 59
  · have key : ∀ t : Nat, t < 59 → kd t = 10 → t = 57 ∨ t = 58 := by decide +kernel
    exact key t h hk
  · rw [kd_big (by omega)] at hk; cases hk
theorem kd_89 (t : Nat) (h8 : ¬ kd t < 8) (h10 : kd t ≠ 10) : t = 55 ∨ t = 56 := by
  by_cases h : t < 59
  · have key : ∀ t : Nat, t < 59 → ¬ kd t < 8 → kd t ≠ 10 → t = 55 ∨ t = 56 := by decide +kernel
    exact key t h h8 h10
  · rw [kd_big (by omega)] at h8; exact absurd (by decide) h8
theorem nar_bool {x : Int32} (h : x = 0 ∨ x = 1) : vp_nar .boolean x = x := by
  rcases h with rfl | rfl <;> decide +kernel
end Ent
section Alloc
variable {D : va_G} {D7 : Nat → ClassId} {B0 : Nat} {α : Nat → Nat → Nat} {S E : St} {t n k : Nat}
def alp (α : Nat → Nat → Nat) (t i q : Nat) : Nat → Nat → Nat := fun a b => if a = t ∧ b = i then q else α a b
theorem nw_at {β : Type} (f : Nat → Nat → Nat → β) (i : Nat) (z : β) : clr f t i z t i = fun _ => z := by
  funext j
  simp [clr]
theorem nw_ne {β : Type} {f : Nat → Nat → Nat → β} {i : Nat} {z : β} {q : Nat × Nat} (h : q ≠ (t, i)) : clr f t i z q.1 q.2 = f q.1 q.2 := by
  funext j
  unfold clr
  exact if_neg (fun z => h (Prod.ext z.1 z.2))
theorem sC_nw {a : Nat} : sC (nw S t n k) a = if a = t then sC S t + 1 else sC S a := rfl
theorem grow_nw {q : Nat} (ht : isW t = true) : Grow α (alp α t (sC S t) q) S := by
  intro r hr
  unfold alp
  rw [if_neg]
  rintro ⟨h1, h2⟩
  obtain ⟨a, b⟩ := r
  dsimp only at h1 h2
  subst h1; subst h2
  exact absurd (okr_w ht hr) (Nat.lt_irrefl _)
theorem ro_nw (ro : RO S) (ht : isW t = true) : RO (nw S t n k) := by
  intro a b j q hl he
  by_cases hne : (a, b) = (t, sC S t)
  · cases hne
    have he2 : clr (fun a b j => sR S a b j) t (sC S t) (.inl .null) t (sC S t) j = .inr q := he
    rw [nw_at] at he2
    cases he2
  · have he2 : clr (fun a b j => sR S a b j) t (sC S t) (.inl .null) a b j = .inr q := he
    rw [nw_ne (q := (a, b)) hne] at he2
    refine okr.mn Mn_nw (ro a b j q ?_ he2)
    rcases hl with ⟨h1, h2⟩ | hl
    · refine Or.inl ⟨h1, ?_⟩
      rw [sC_nw] at h2
      split at h2
      · rename_i h3
        subst h3
        have : b ≠ sC S a := fun z => hne (by rw [z])
        omega
      · exact h2
    · exact Or.inr hl
theorem eqX_nw (h : EqX S E) (ht : isW t = true) : EqX (nw S t n k) E := by
  intro u hu
  obtain ⟨h1, h2, h3⟩ := h u hu
  have hne : u ≠ t := by
    rintro rfl
    rw [ht] at hu
    cases hu
  refine ⟨?_, ?_, ?_⟩
  · rw [← h1]
    funext a j
    exact if_neg (fun z => hne z.1)
  · rw [← h2]
    funext a j
    exact if_neg (fun z => hne z.1)
  · rw [← h3]
    funext a
    exact if_neg (fun z => hne z.1)
theorem entE_nw {q : Nat} {r : Nat × Nat} (ro : RO S) (ht : isW t = true) (hl : isW r.1 = true ∧ r.2 < sC S r.1) (hne : r ≠ (t, sC S t)) : entE D7 (alp α t (sC S t) q) (nw S t n k) r = entE D7 α S r := by
  have g : Grow α (alp α t (sC S t) q) S := grow_nw ht
  have e1 : sI (nw S t n k) r.1 r.2 = sI S r.1 r.2 := nw_ne (f := S.1) hne
  have e2 : sR (nw S t n k) r.1 r.2 = sR S r.1 r.2 := nw_ne (f := S.2.1) hne
  have e3 : sJ (nw S t n k) r.1 r.2 = sJ S r.1 r.2 := nw_ne (f := S.2.2.1) hne
  have e4 : sD (nw S t n k) r.1 r.2 = sD S r.1 r.2 := nw_ne (f := S.2.2.2.1) hne
  have e5 : sL (nw S t n k) r.1 r.2 = sL S r.1 r.2 := by
    show (if r.1 = t ∧ r.2 = sC S t then n else sL S r.1 r.2) = _
    exact if_neg (fun z => hne (Prod.ext z.1 z.2))
  have ov : ∀ j, okv S (sR S r.1 r.2 j) := fun j => by
    cases hx : sR S r.1 r.2 j with
    | inl w => trivial
    | inr q9 => exact ro _ _ _ q9 (Or.inl hl) hx
  have e6 : fldV (alp α t (sC S t) q) (nw S t n k) r.1 r.2 = fldV α S r.1 r.2 := by
    funext j
    unfold fldV
    rw [show sR (nw S t n k) r.1 r.2 j = sR S r.1 r.2 j from congrFun e2 j, show sI (nw S t n k) r.1 r.2 j = sI S r.1 r.2 j from congrFun e1 j, g.cc (ov j)]
  have e7 : (fun j => rfo (alp α t (sC S t) q) (sR (nw S t n k) r.1 r.2 j)) = fun j => rfo α (sR S r.1 r.2 j) := by
    funext j
    rw [show sR (nw S t n k) r.1 r.2 j = sR S r.1 r.2 j from congrFun e2 j, g.cr (ov j)]
  unfold entE
  rw [e1, e3, e4, e5, e6, e7]
theorem WI.alloc {H1 : Heap} {L : List (Nat × Nat)} {q : Nat} {e : va_E} (hn : L.Nodup) (hL : ∀ t i, (t, i) ∈ L ↔ isW t = true ∧ i < sC S t) (ro : RO S) (ht : isW t = true) (he : e = entE D7 (alp α t (sC S t) q) (nw S t n k) (t, sC S t))
    (hP : va_P D clL (wOf D7 α S L ++ [(q, e)]) H1) (hD : va_D (fun q => B0 ≤ q) (wOf D7 α S L ++ [(q, e)])) : WI D D7 B0 (alp α t (sC S t) q) (nw S t n k) H1 := by
  have hnew : (t, sC S t) ∉ L := fun h => absurd ((hL _ _).mp h).2 (Nat.lt_irrefl _)
  have hw : wOf D7 (alp α t (sC S t) q) (nw S t n k) (L ++ [(t, sC S t)]) = wOf D7 α S L ++ [(q, e)] := by
    unfold wOf
    rw [List.map_append, he]
    congr 1
    · exact List.map_congr_left fun r hr => by
        have hne : r ≠ (t, sC S t) := fun z => hnew (z ▸ hr)
        have hl := (hL r.1 r.2).mp hr
        rw [entE_nw ro ht hl hne, grow_nw ht r (Or.inl hl)]
    · simp [alp]
  refine ⟨L ++ [(t, sC S t)], ?_, fun a b => ?_, by rw [hw]; exact hP, by rw [hw]; exact hD⟩
  · refine List.nodup_append.mpr ⟨hn, by simp, fun a ha b hb => ?_⟩
    rw [List.mem_singleton.mp hb]
    rintro rfl
    exact hnew ha
  · rw [List.mem_append, hL, List.mem_singleton, sC_nw]
    constructor
    · rintro (⟨h1, h2⟩ | h)
      · refine ⟨h1, ?_⟩
        split
        · rename_i h3; subst h3; omega
        · exact h2
      · cases h
        exact ⟨ht, by simp⟩
    · rintro ⟨h1, h2⟩
      split at h2
      · rename_i h3
        subst h3
        by_cases hb : b = sC S a
        · exact Or.inr (by rw [hb])
        · exact Or.inl ⟨h1, by omega⟩
      · exact Or.inl ⟨h1, h2⟩
end Alloc
theorem i32_nat {x : Int32} (h : 0 ≤ x.toInt) : ¬ x < 0 := by
  intro hlt
  have := Int32.lt_iff_toInt_lt.mp hlt
  rw [Int32.toInt_zero] at this
  omega
theorem ix_lt {x : Int32} {N : Nat} (h0 : 0 ≤ x.toInt) (h1 : x.toInt < N) : ix x < N := by
  show x.toInt.toNat < N
  omega
theorem entE_wCp {D7 : Nat → ClassId} {α : Nat → Nat → Nat} {S : St} {t i t2 i2 sp dp n : Nat} (ht : ¬ t2 < 12) (h5 : kd t2 ≠ 5) (h6 : kd t2 ≠ 6) (h7 : kd t2 ≠ 7) : entE D7 α (wCp S t i sp t2 i2 dp n) (t2, i2) = .inl (D7 (kd t2), sL S t2 i2, .inl (va_cpy (sI S t i) (sI S t2 i2) sp dp n)) := by
  rw [entE_i ht h5 h6 h7]
  rw [show sI (wCp S t i sp t2 i2 dp n) t2 i2 = va_cpy (sI S t i) (sI S t2 i2) sp dp n by
    funext j
    show (if t2 = t2 ∧ i2 = i2 ∧ dp ≤ j ∧ j < dp + n then sI S t i (sp + (j - dp)) else sI S t2 i2 j) = if dp ≤ j ∧ j < dp + n then sI S t i (sp + (j - dp)) else sI S t2 i2 j
    simp]
  rfl
theorem entE_wCp_ne {D7 : Nat → ClassId} {α : Nat → Nat → Nat} {S : St} {t i t2 i2 sp dp n : Nat} {q : Nat × Nat} (h : q ≠ (t2, i2)) : entE D7 α (wCp S t i sp t2 i2 dp n) q = entE D7 α S q := by
  have hs : sI (wCp S t i sp t2 i2 dp n) q.1 q.2 = sI S q.1 q.2 := by
    funext j
    show (if q.1 = t2 ∧ q.2 = i2 ∧ dp ≤ j ∧ j < dp + n then _ else sI S q.1 q.2 j) = _
    exact if_neg (fun z => h (Prod.ext z.1 z.2.1))
  have hf : fldV α (wCp S t i sp t2 i2 dp n) q.1 q.2 = fldV α S q.1 q.2 := by
    funext j
    unfold fldV
    rw [show sI (wCp S t i sp t2 i2 dp n) q.1 q.2 j = sI S q.1 q.2 j from congrFun hs j]
    rfl
  unfold entE
  rw [hs, hf]
  rfl
theorem EqX.wCp {S E : St} {t i t2 i2 sp dp n : Nat} (h : EqX S E) (ht : isW t2 = true) : EqX (wCp S t i sp t2 i2 dp n) E := by
  intro u hu
  obtain ⟨h1, h2, h3⟩ := h u hu
  refine ⟨?_, h2, h3⟩
  rw [← h1]
  funext a j
  show (if u = t2 ∧ a = i2 ∧ dp ≤ j ∧ j < dp + n then _ else sI S u a j) = _
  exact if_neg (fun z => by rw [z.1, ht] at hu; cases hu)
theorem LOK.grow {α α2 : Nat → Nat → Nat} {S : St} {m : Nat} {lv : List AV} {ls : Array Slot} (h : LOK α m lv ls) (g : Grow α α2 S) (hv : ∀ v ∈ lv, v = unk ∨ okv S v) : LOK α2 m lv ls :=
  ⟨h.1, h.2.1, fun j v hj hu => by rw [g.cc ((hv v (List.mem_of_getElem? hj)).resolve_left hu)]; exact h.2.2.1 j v hj hu, h.2.2.2⟩
section OkrX
variable {S : St} {i : Nat}
theorem okr12 (h : okr S (12, i)) : i < 10 := by
  rcases h with ⟨z, -⟩ | ⟨-, z⟩ | ⟨z, -⟩ | z | z | z
  · exact absurd (show isW 12 = true from z) (by decide)
  · exact z
  · exact absurd (show (12 : Nat) = 56 from z) (by decide)
  all_goals cases z
theorem okr56 (h : okr S (56, i)) : i < 10 := by
  rcases h with ⟨z, -⟩ | ⟨z, -⟩ | ⟨-, z⟩ | z | z | z
  · exact absurd (show isW 56 = true from z) (by decide)
  · exact absurd (show (56 : Nat) = 12 from z) (by decide)
  · exact z
  all_goals cases z
theorem okr55 (h : okr S (55, i)) : i = 0 := by
  rcases h with ⟨z, -⟩ | ⟨z, -⟩ | ⟨z, -⟩ | z | z | z
  · exact absurd (show isW 55 = true from z) (by decide)
  · exact absurd (show (55 : Nat) = 12 from z) (by decide)
  · exact absurd (show (55 : Nat) = 56 from z) (by decide)
  · cases z; rfl
  all_goals cases z
theorem okr57 (h : okr S (57, i)) : i = 0 := by
  rcases h with ⟨z, -⟩ | ⟨z, -⟩ | ⟨z, -⟩ | z | z | z
  · exact absurd (show isW 57 = true from z) (by decide)
  · exact absurd (show (57 : Nat) = 12 from z) (by decide)
  · exact absurd (show (57 : Nat) = 56 from z) (by decide)
  · cases z
  · cases z; rfl
  · cases z
theorem okr58 (h : okr S (58, i)) : i = 0 := by
  rcases h with ⟨z, -⟩ | ⟨z, -⟩ | ⟨z, -⟩ | z | z | z
  · exact absurd (show isW 58 = true from z) (by decide)
  · exact absurd (show (58 : Nat) = 12 from z) (by decide)
  · exact absurd (show (58 : Nat) = 56 from z) (by decide)
  · cases z
  · cases z
  · cases z; rfl
end OkrX
theorem n32_vf {r : UInt32} (h : n32 r = true) : vf_n32 r := of_decide_eq_true (p := r &&& 0x7fffffff ≤ 0x7f800000) h
theorem n64_vf {r : UInt64} (h : n64 r = true) : vf_n64 r := of_decide_eq_true (p := r &&& 0x7fffffffffffffff ≤ 0x7ff0000000000000) h
/-- the machine follows the straight step a, wherever it stands -/
def StepOK (p : Program) (l : Launch) (e : Env) (R : Room) (s : State) (mi : MethodId) (args : Array Value) (below : List Frame) (meth : Method) (c : Code) (Q : State → Prop) (D : va_G) (D7 : Nat → ClassId) (B0 : Nat) (E S0 : St) (α0 : Nat → Nat → Nat) (m : Nat) (a : AI) : Prop :=
  ∀ (pc : Nat) (α : Nat → Nat → Nat) (S : St) (lv st : List AV) (H : Heap) (locs : List Loc) (ls : Array Slot) (lv2 st2 : List AV) (S2 : St), Cx p l s mi args meth c D D7 B0 E S0 m → Iv s D D7 B0 E S0 α0 m α S lv st H locs ls → chkI m pc a = true → dcd m pc a.1 = true →
    stp a lv st S = some (lv2, st2, S2) → sN S2 - sN S0 ≤ R.cells → sM S2 - sM S0 ≤ R.slots → 2 ≤ R.frames → 150 ≤ R.locals →
    (∀ (α2 : Nat → Nat → Nat) (H2 : Heap) (locs2 : List Loc) (ls2 : Array Slot), Iv s D D7 B0 E S0 α0 m α2 S2 lv2 st2 H2 locs2 ls2 → W p l e R s mi args below meth c H2 locs2 (sN S2 - sN S0) (sM S2 - sM S0) Q (F0 mi (pc + ilen a.1) ls2 (st2.map (conc α2)))) →
    W p l e R s mi args below meth c H locs (sN S - sN S0) (sM S - sM S0) Q (F0 mi pc ls (st.map (conc α)))
