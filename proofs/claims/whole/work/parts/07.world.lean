/-! the world of AM's store in the machine's heap -/
def isW (t : Nat) : Bool := decide (t < 12) || (decide (20 ≤ t) && decide (t < 55))
def tys (D7 : Nat → ClassId) : List (ClassId × FieldType) := [(D7 1, .int), (D7 2, .byte), (D7 3, .boolean), (D7 4, .char), (D7 5, .long), (D7 6, .double), (D7 7, .object "SighGranary$Data")]
def conc (α : Nat → Nat → Nat) (v : AV) : Value := match v with
  | .inl w => w
  | .inr q => .ref (α q.1 q.2)
def rfo (α : Nat → Nat → Nat) (v : AV) : Option Nat := match v with
  | .inr q => some (α q.1 q.2)
  | _ => none
def nF (t : Nat) : Nat := match clL[t]? with
  | some q => q.2.2
  | none => 0
def fldV (α : Nat → Nat → Nat) (S : St) (t i j : Nat) : Value := if refF t j = true then conc α (sR S t i j) else .int (sI S t i j)
def entE (D7 : Nat → ClassId) (α : Nat → Nat → Nat) (S : St) (q : Nat × Nat) : va_E :=
  if q.1 < 12 then .inr (q.1, (List.range (nF q.1)).map (fldV α S q.1 q.2)) else
  if kd q.1 = 5 then .inl (D7 5, sL S q.1 q.2, .inr (.inl (sJ S q.1 q.2))) else
  if kd q.1 = 6 then .inl (D7 6, sL S q.1 q.2, .inr (.inr (.inr (.inl (sD S q.1 q.2))))) else
  if kd q.1 = 7 then .inl (D7 7, sL S q.1 q.2, .inr (.inr (.inr (.inr (fun k => rfo α (sR S q.1 q.2 k)))))) else
  .inl (D7 (kd q.1), sL S q.1 q.2, .inl (sI S q.1 q.2))
def wOf (D7 : Nat → ClassId) (α : Nat → Nat → Nat) (S : St) (L : List (Nat × Nat)) : va_W := L.map (fun q => (α q.1 q.2, entE D7 α S q))
def okr (S : St) (q : Nat × Nat) : Prop := (isW q.1 = true ∧ q.2 < sC S q.1) ∨ (q.1 = 12 ∧ q.2 < 10) ∨ (q.1 = 56 ∧ q.2 < 10) ∨ q = (55, 0) ∨ q = (57, 0) ∨ q = (58, 0)
def okv (S : St) (v : AV) : Prop := match v with
  | .inl _ => True
  | .inr q => okr S q
def WI (D : va_G) (D7 : Nat → ClassId) (B0 : Nat) (α : Nat → Nat → Nat) (S : St) (H : Heap) : Prop :=
  ∃ L : List (Nat × Nat), L.Nodup ∧ (∀ t i, (t, i) ∈ L ↔ isW t = true ∧ i < sC S t) ∧ va_P D clL (wOf D7 α S L) H ∧ va_D (fun q => B0 ≤ q) (wOf D7 α S L)
def RO (S : St) : Prop := ∀ t i j q, ((isW t = true ∧ i < sC S t) ∨ t = 12 ∨ t = 60) → sR S t i j = .inr q → okr S q
def EqX (S E : St) : Prop := ∀ t, isW t = false → sI S t = sI E t ∧ sR S t = sR E t ∧ sL S t = sL E t
def Mn (S S2 : St) : Prop := (∀ t, sC S t ≤ sC S2 t) ∧ sN S ≤ sN S2 ∧ sM S ≤ sM S2
theorem Mn.rf {S : St} : Mn S S := ⟨fun _ => Nat.le_refl _, Nat.le_refl _, Nat.le_refl _⟩
theorem Mn.tr {S S2 S3 : St} (h : Mn S S2) (h2 : Mn S2 S3) : Mn S S3 := ⟨fun t => Nat.le_trans (h.1 t) (h2.1 t), Nat.le_trans h.2.1 h2.2.1, Nat.le_trans h.2.2 h2.2.2⟩
theorem okr.mn {S S2 : St} {q : Nat × Nat} (h : Mn S S2) (hq : okr S q) : okr S2 q := by
  rcases hq with ⟨h1, h2⟩ | hq
  · exact Or.inl ⟨h1, Nat.lt_of_lt_of_le h2 (h.1 _)⟩
  · exact Or.inr hq
theorem okv.mn {S S2 : St} {v : AV} (h : Mn S S2) (hv : okv S v) : okv S2 v := by
  cases v with
  | inl w => trivial
  | inr q => exact okr.mn h hv
def Grow (α α2 : Nat → Nat → Nat) (S : St) : Prop := ∀ q, okr S q → α2 q.1 q.2 = α q.1 q.2
theorem Grow.rf {α : Nat → Nat → Nat} {S : St} : Grow α α S := fun _ _ => rfl
theorem Grow.tr {α α2 α3 : Nat → Nat → Nat} {S S2 : St} (h : Grow α α2 S) (hm : Mn S S2) (h2 : Grow α2 α3 S2) : Grow α α3 S := fun q hq => (h2 q (hq.mn hm)).trans (h q hq)
theorem Grow.cc {α α2 : Nat → Nat → Nat} {S : St} (h : Grow α α2 S) {v : AV} (hv : okv S v) : conc α2 v = conc α v := by
  cases v with
  | inl w => rfl
  | inr q => show Value.ref _ = Value.ref _; rw [h q hv]
theorem Grow.cr {α α2 : Nat → Nat → Nat} {S : St} (h : Grow α α2 S) {v : AV} (hv : okv S v) : rfo α2 v = rfo α v := by
  cases v with
  | inl w => rfl
  | inr q => show some _ = some _; rw [h q hv]
theorem Grow.mp {α α2 : Nat → Nat → Nat} {S : St} (h : Grow α α2 S) {l : List AV} (hv : ∀ v ∈ l, okv S v) : l.map (conc α2) = l.map (conc α) := List.map_congr_left fun v hm => h.cc (hv v hm)
theorem kd_isW : ∀ t, kd t ≠ 0 → kd t < 8 → isW t = true ∧ 20 ≤ t ∧ t < 55 := by
  intro t
  by_cases h : t < 59
  · revert t
    decide +kernel
  · intro h0
    exact absurd (by simp [kd, kdL, List.getD, List.getElem?_eq_none, show 59 ≤ t by omega]) h0
theorem wOf_at {D7 : Nat → ClassId} {α : Nat → Nat → Nat} {S : St} {L : List (Nat × Nat)} {t i : Nat} (h : (t, i) ∈ L) : ∃ k : Nat, L[k]? = some (t, i) ∧ (wOf D7 α S L)[k]? = some (α t i, entE D7 α S (t, i)) := by
  obtain ⟨k, hk⟩ := List.getElem?_of_mem h
  exact ⟨k, hk, by simp [wOf, hk]⟩
theorem wOf_set {D7 : Nat → ClassId} {α : Nat → Nat → Nat} {S S2 : St} {L : List (Nat × Nat)} {t i k : Nat} {e : va_E} (hn : L.Nodup) (hk : L[k]? = some (t, i)) (he : e = entE D7 α S2 (t, i)) (ho : ∀ q ∈ L, q ≠ (t, i) → entE D7 α S2 q = entE D7 α S q) :
    (wOf D7 α S L).set k (α t i, e) = wOf D7 α S2 L := by
  subst he
  apply List.ext_getElem?
  intro j
  rw [List.getElem?_set]
  by_cases hj : k = j
  · subst hj
    have hlt := (List.getElem?_eq_some_iff.mp hk).1
    rw [if_pos rfl, if_pos (by simpa [wOf] using hlt)]
    simp [wOf, hk]
  · rw [if_neg hj]
    simp only [wOf, List.getElem?_map]
    cases hq : L[j]? with
    | none => rfl
    | some q =>
      have hne : q ≠ (t, i) := by
        rintro rfl
        exact hj ((List.getElem?_inj (List.getElem?_eq_some_iff.mp hk).1 hn).mp (hk.trans hq.symm))
      simp only [Option.map_some]
      rw [ho q (List.mem_of_getElem? hq) hne]
theorem wOf_cong {D7 : Nat → ClassId} {α α2 : Nat → Nat → Nat} {S S2 : St} {L : List (Nat × Nat)} (h : ∀ q ∈ L, α2 q.1 q.2 = α q.1 q.2 ∧ entE D7 α2 S2 q = entE D7 α S q) : wOf D7 α2 S2 L = wOf D7 α S L :=
  List.map_congr_left fun q hq => by rw [(h q hq).1, (h q hq).2]
/-- a store that only touches ints -/
theorem entE_wI_ne {D7 : Nat → ClassId} {α : Nat → Nat → Nat} {S : St} {t i k : Nat} {x : Int32} {q : Nat × Nat} (h : q ≠ (t, i)) : entE D7 α (wI S t i k x) q = entE D7 α S q := by
  have hs : sI (wI S t i k x) q.1 q.2 = sI S q.1 q.2 := by
    funext j
    show (if q.1 = t ∧ q.2 = i ∧ j = k then x else _) = _
    exact if_neg (fun z => h (Prod.ext z.1 z.2.1))
  have hf : fldV α (wI S t i k x) q.1 q.2 = fldV α S q.1 q.2 := by
    funext j
    unfold fldV
    rw [show sI (wI S t i k x) q.1 q.2 j = sI S q.1 q.2 j from congrFun hs j]
    rfl
  unfold entE
  rw [hs, hf]
  rfl
theorem entE_wI {D7 : Nat → ClassId} {α : Nat → Nat → Nat} {S : St} {t i k : Nat} {x : Int32} (ht : ¬ t < 12) (h5 : kd t ≠ 5) (h6 : kd t ≠ 6) (h7 : kd t ≠ 7) : entE D7 α (wI S t i k x) (t, i) = .inl (D7 (kd t), sL S t i, .inl (upd (sI S t i) k x)) := by
  unfold entE
  rw [if_neg ht, if_neg h5, if_neg h6, if_neg h7]
  rw [show sI (wI S t i k x) t i = upd (sI S t i) k x by
    funext j
    show (if t = t ∧ i = i ∧ j = k then x else sI S t i j) = if j = k then x else sI S t i j
    simp]
  rfl
theorem entE_i {D7 : Nat → ClassId} {α : Nat → Nat → Nat} {S : St} {t i : Nat} (ht : ¬ t < 12) (h5 : kd t ≠ 5) (h6 : kd t ≠ 6) (h7 : kd t ≠ 7) : entE D7 α S (t, i) = .inl (D7 (kd t), sL S t i, .inl (sI S t i)) := by
  unfold entE
  rw [if_neg ht, if_neg h5, if_neg h6, if_neg h7]
theorem EqX.wI {S E : St} {t i k : Nat} {x : Int32} (h : EqX S E) (ht : isW t = true) : EqX (wI S t i k x) E := by
  intro u hu
  obtain ⟨h1, h2, h3⟩ := h u hu
  refine ⟨?_, h2, h3⟩
  rw [← h1]
  funext a j
  show (if u = t ∧ a = i ∧ j = k then x else sI S u a j) = _
  exact if_neg (fun z => by rw [z.1, ht] at hu; cases hu)
/-- a store of an int into the cell (t, i), in the world -/
theorem WI.putI {D : va_G} {D7 : Nat → ClassId} {B0 : Nat} {α : Nat → Nat → Nat} {S : St} {H1 : Heap} {L : List (Nat × Nat)} {t i k j : Nat} {x : Int32} {e : va_E} (hn : L.Nodup) (hL : ∀ t i, (t, i) ∈ L ↔ isW t = true ∧ i < sC S t) (hk : L[k]? = some (t, i)) (he : e = entE D7 α (wI S t i j x) (t, i))
    (hP : va_P D clL ((wOf D7 α S L).set k (α t i, e)) H1) (hD : va_D (fun q => B0 ≤ q) ((wOf D7 α S L).set k (α t i, e))) : WI D D7 B0 α (wI S t i j x) H1 := by
  rw [wOf_set hn hk he (fun q _ hq => entE_wI_ne hq)] at hP hD
  exact ⟨L, hn, hL, hP, hD⟩
section MonoC
theorem Mn_nw {S : St} {t n k : Nat} : Mn S (nw S t n k) := by
  refine ⟨fun u => ?_, Nat.le_succ _, Nat.le_add_right _ _⟩
  show _ ≤ if u = t then sC S t + 1 else sC S u
  split
  · rename_i h; subst h; exact Nat.le_succ _
  · exact Nat.le_refl _
theorem Mn_wst {S : St} {a b : Nat} : Mn S (wst S a b) := ⟨fun _ => Nat.le_refl _, Nat.le_add_right _ _, Nat.le_add_right _ _⟩
set_option maxHeartbeats 4000000 in
theorem stp_mn {a : AI} {lv st : List AV} {s : St} {r : List AV × List AV × St} (h : stp a lv st s = some r) : Mn s r.2.2 := by
  obtain ⟨i, v, l⟩ := a
  cases i <;> simp only [stp, pI, pII, pR, pIR, pIIR, pV, pVV] at h <;> (try (cases h; done)) <;> repeat' split at h
  all_goals first
    | (cases h; done)
    | (cases h; exact Mn.rf)
    | (cases h; exact Mn_nw)
    | (simp only [reduceCtorEq] at h)
variable {cal : Nat → List AV → St → Rs} {jmp : Nat → List AV → List AV → St → Rs} {hd : List (Nat × Nat × Nat)}
theorem cll_mn (hc : ∀ m a s o s2, cal m a s = some (o, s2) → Mn s s2) (hj : ∀ b lv st s o s2, jmp b lv st s = some (o, s2) → Mn s s2) {k : List AV → List AV → St → Rs} (ih : ∀ lv st s o s2, k lv st s = some (o, s2) → Mn s s2) {m n : Nat} {lv st : List AV} {s : St} {o : Ot} {s2 : St}
    (h : cll cal jmp hd k m n lv st s = some (o, s2)) : Mn s s2 := by
  unfold cll at h
  split at h
  · split at h
    · cases h
    · rename_i he; exact (hc _ _ _ _ _ he).tr (ih _ _ _ _ _ h)
    · rename_i he
      split at h
      · cases h; exact hc _ _ _ _ _ he
      · exact (hc _ _ _ _ _ he).tr (hj _ _ _ _ _ _ h)
  · cases h
theorem nxt_mn {a : AI} {lv st : List AV} {s : St} {k : List AV → List AV → St → Rs} (ih : ∀ lv st s o s2, k lv st s = some (o, s2) → Mn s s2) {o : Ot} {s2 : St} (h : nxt (stp a lv st s) k = some (o, s2)) : Mn s s2 := by
  cases hx : stp a lv st s with
  | none => rw [hx] at h; cases h
  | some r => rw [hx] at h; exact (stp_mn hx).tr (ih _ _ _ _ _ h)
theorem exF_mn (hc : ∀ m a s o s2, cal m a s = some (o, s2) → Mn s s2) (hj : ∀ b lv st s o s2, jmp b lv st s = some (o, s2) → Mn s s2) :
    ∀ (is : List AI) (lv st : List AV) (s : St) (o : Ot) (s2 : St), exF cal jmp hd is lv st s = some (o, s2) → Mn s s2 := by
  intro is
  induction is with
  | nil => intro lv st s o s2 h; simp [exF] at h
  | cons a is ih =>
    intro lv st s o s2 h
    obtain ⟨i, v, l⟩ := a
    cases i <;> simp only [exF, pI, pII] at h <;> (try exact nxt_mn ih h) <;> repeat' split at h
    all_goals first
      | (cases h; done)
      | exact hj _ _ _ _ _ _ h
      | exact ih _ _ _ _ _ h
      | exact nxt_mn ih h
      | exact cll_mn hc hj ih h
      | (cases h; exact Mn.rf)
      | (cases h; exact Mn_wst)
end MonoC
theorem calF_mn : ∀ (d n m : Nat) (a : List AV) (s : St) (o : Ot) (s2 : St), calF MC ML HD d n m a s = some (o, s2) → Mn s s2 := by
  intro d
  induction d with
  | zero => intro n m a s o s2 h; cases h
  | succ d ihd =>
    intro n m a s o s2 h
    have key : ∀ (k b : Nat) (lv st : List AV) (s : St) (o : Ot) (s2 : St), jmF MC HD (calF MC ML HD d n) m k b lv st s = some (o, s2) → Mn s s2 := by
      intro k
      induction k with
      | zero => intro b lv st s o s2 h; cases h
      | succ k ihk => intro b lv st s o s2 h; exact exF_mn (fun m a s o s2 h => ihd n m a s o s2 h) ihk _ _ _ _ _ _ h
    exact key _ _ _ _ _ _ _ h
