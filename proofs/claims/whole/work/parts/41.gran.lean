/-! the class as a whole: its state, its changes -/
/-- now, history, snapshot, (reason, detail, cause, place of the latest error), input, output -/
abbrev Cst : Type := Dt × List Dt × Option Dt × (Int32 × Int32 × Int32 × Int32) × List Int32 × List Int32
abbrev cN (C : Cst) : Dt := C.1
abbrev cH (C : Cst) : List Dt := C.2.1
abbrev cS (C : Cst) : Option Dt := C.2.2.1
abbrev cR (C : Cst) : Int32 × Int32 × Int32 × Int32 := C.2.2.2.1
abbrev cI (C : Cst) : List Int32 := C.2.2.2.2.1
abbrev cO (C : Cst) : List Int32 := C.2.2.2.2.2
def LayT (f : SF) (l : List Int32) : Prop := f 9 0 1 = ik l.length ∧ l.length ≤ 60 ∧ (∀ k c, l[k]? = some c → f 39 0 k = c) ∧ ∀ c ∈ l, inR c 32 126 = true
def LayW (f : SF) (r : SR) (l : List Int32) : Prop := ∃ j cap, r.1 10 0 0 = vr 42 j ∧ f 10 0 1 = 0 ∧ f 10 0 3 = ik l.length ∧ r.2.2.2.1 42 j = cap ∧ l.length ≤ cap ∧ 16 ≤ cap ∧ cap ≤ 1000 ∧ (j < r.2.2.2.2.1 42 ∧ ∀ k, k < cap → (f 42 j k).toInt8.toInt32 = f 42 j k) ∧ (∀ k c, l[k]? = some c → f 42 j k = c) ∧ ∀ c ∈ l, inR c 32 126 = true
def LaySn (f : SF) (o : Option Dt) : Prop := match o with
  | none => f 0 0 3 = 0
  | some D => f 0 0 3 = 1 ∧ LayD f 2 D
def LayRj (f : SF) (q : Int32 × Int32 × Int32 × Int32) : Prop := f 0 0 9 = q.1 ∧ f 0 0 10 = q.2.1 ∧ f 0 0 11 = q.2.2.1 ∧ f 0 0 12 = q.2.2.2
def LayC (f : SF) (r : SR) (C : Cst) : Prop := Stt r ∧ LayD f 0 (cN C) ∧ (∃ nx, LayH f nx (cH C)) ∧ LaySn f (cS C) ∧ LayRj f (cR C) ∧ LayT f (cI C) ∧ LayW f r (cO C)
/-- the class' own cells -/
def tgC (t : Nat) : Bool := decide (t ≤ 10) || (decide (20 ≤ t) && decide (t ≤ 42))
def FrC (f f' : SF) : Prop := ∀ t j n, tgC t = false → f' t j n = f t j n
theorem FrC.rf {f : SF} : FrC f f := fun _ _ _ _ => rfl
theorem FrC.tr {f g h : SF} (a : FrC f g) (b : FrC g h) : FrC f h := fun t j n q => (b t j n q).trans (a t j n q)
theorem FrC.up {f : SF} {t j n : Nat} {v : Int32} (h : tgC t = true) : FrC f (up3 f t j n v) := fun a b k q => by
  unfold up3
  rw [if_neg]
  rintro ⟨rfl, -⟩
  rw [h] at q
  cases q
theorem Fr.c {P : Nat → Bool} {i : Nat} {f f' : SF} (h : Fr P i f f') (hp : ∀ t, P t = true → tgC t = true) : FrC f f' := fun t j n q => h t j n (Or.inl (by
  cases hpt : P t with
  | false => rfl
  | true => rw [hp t hpt] at q; cases q))
theorem tgD_C : ∀ t, tgD t = true → tgC t = true := by intro t; simp [tgD, tgC]; omega
theorem tgQ_C : ∀ t, tgQ t = true → tgC t = true := by intro t; simp [tgQ, tgC]; omega
theorem LayD.dep {f f' : SF} {i : Nat} {D : Dt} (h : LayD f i D) (e : ∀ t n, (t = 1 ∨ t = 2 ∨ t = 3 ∨ t = 4 ∨ 20 ≤ t ∧ t ≤ 30) → f' t i n = f t i n) : LayD f' i D := by
  obtain ⟨h1, h2, h3, h4, h5, h6⟩ := h
  refine ⟨⟨(e _ _ (by omega)).trans h1.1, h1.2.1, fun k b hb => ?_⟩, ⟨(e _ _ (by omega)).trans h2.1, h2.2.1, fun k x hx => ?_⟩, fun k hk => (e _ _ (by omega)).trans (h3 k hk), fun k hk => (e _ _ (by omega)).trans (h4 k hk), (e _ _ (by omega)).trans h5, (e _ _ (by omega)).trans h6⟩
  · obtain ⟨a, b, c, d⟩ := h1.2.2 k b hb
    exact ⟨(e _ _ (by omega)).trans a, (e _ _ (by omega)).trans b, (e _ _ (by omega)).trans c, (e _ _ (by omega)).trans d⟩
  · obtain ⟨a, b, c, d, e5, e6⟩ := h2.2.2 k x hx
    exact ⟨(e _ _ (by omega)).trans a, (e _ _ (by omega)).trans b, (e _ _ (by omega)).trans c, (e _ _ (by omega)).trans d, (e _ _ (by omega)).trans e5, (e _ _ (by omega)).trans e6⟩
theorem LayH.dep {f f' : SF} {nx : Nat} {hs : List Dt} (h : LayH f nx hs) (h6 : ∀ n, f' 6 0 n = f 6 0 n) (e : ∀ t j n, 3 ≤ j → (t = 1 ∨ t = 2 ∨ t = 3 ∨ t = 4 ∨ 20 ≤ t ∧ t ≤ 30) → f' t j n = f t j n) : LayH f' nx hs :=
  h.fr h6 (fun j _ hj hD => hD.dep (fun t n ht => e t j n hj ht))
theorem LaySn.dep {f f' : SF} {o : Option Dt} (h : LaySn f o) (h0 : f' 0 0 3 = f 0 0 3) (e : ∀ t n, (t = 1 ∨ t = 2 ∨ t = 3 ∨ t = 4 ∨ 20 ≤ t ∧ t ≤ 30) → f' t 2 n = f t 2 n) : LaySn f' o := by
  cases o with
  | none => exact h0.trans h
  | some D => exact ⟨h0.trans h.1, h.2.dep e⟩
theorem LayRj.dep {f f' : SF} {q : Int32 × Int32 × Int32 × Int32} (h : LayRj f q) (e : ∀ n, 9 ≤ n → f' 0 0 n = f 0 0 n) : LayRj f' q := ⟨(e _ (by omega)).trans h.1, (e _ (by omega)).trans h.2.1, (e _ (by omega)).trans h.2.2.1, (e _ (by omega)).trans h.2.2.2⟩
theorem LayT.dep {f f' : SF} {l : List Int32} (h : LayT f l) (e : f' 9 0 1 = f 9 0 1) (e2 : ∀ n, f' 39 0 n = f 39 0 n) : LayT f' l := ⟨e.trans h.1, h.2.1, fun k c hk => (e2 k).trans (h.2.2.1 k c hk), h.2.2.2⟩
theorem LayW.dep {f f' : SF} {r : SR} {l : List Int32} (h : LayW f r l) (e : ∀ t j n, t = 10 ∨ t = 42 → f' t j n = f t j n) : LayW f' r l := by
  obtain ⟨j, cap, h1, h2, h3, h4, h5, h5b, h6, h7, h8, h9⟩ := h
  exact ⟨j, cap, h1, (e _ _ _ (by omega)).trans h2, (e _ _ _ (by omega)).trans h3, h4, h5, h5b, h6, ⟨h7.1, fun k hk => by rw [e _ _ _ (by omega)]; exact h7.2 k hk⟩, fun k c hk => (e _ _ _ (by omega)).trans (h8 k c hk), h9⟩
/-- nothing but what is laid anew before each use has changed -/
def Scr (f f' : SF) : Prop := ∀ t j n, ¬ (tgQ t = true ∨ (j = 1 ∧ tgD t = true)) → f' t j n = f t j n
theorem Scr.rf {f : SF} : Scr f f := fun _ _ _ _ => rfl
theorem Scr.tr {f g h : SF} (a : Scr f g) (b : Scr g h) : Scr f h := fun t j n q => (b t j n q).trans (a t j n q)
theorem Fr.scr {i : Nat} {f f' : SF} (h : Fr tgQ i f f') : Scr f f' := fun t j n q => h t j n (Or.inl (by
  cases hp : tgQ t with
  | false => rfl
  | true => exact absurd (Or.inl hp) q))
theorem Scr.up7 {f : SF} {v : Int32} : Scr f (up3 f 7 0 0 v) := Fr.scr (i := 0) (Fr.up rfl)
theorem Scr.b4 {f f' : SF} (h : Fr tgD 1 f f') : Scr f f' := fun t j n q => h t j n (by
  by_cases hj : j = 1
  · left
    cases hp : tgD t with
    | false => rfl
    | true => exact absurd (Or.inr ⟨hj, hp⟩) q
  · exact Or.inr hj)
theorem Scr.c {f f' : SF} (h : Scr f f') : FrC f f' := fun t j n q => h t j n (by
  rintro (z | ⟨-, z⟩)
  · rw [tgQ_C t z] at q; cases q
  · rw [tgD_C t z] at q; cases q)
theorem nQ {t j : Nat} (h : tgQ t = false) (h2 : j ≠ 1 ∨ tgD t = false) : ¬ (tgQ t = true ∨ (j = 1 ∧ tgD t = true)) := by
  rintro (z | ⟨z, z2⟩)
  · rw [h] at z; cases z
  · rcases h2 with h2 | h2
    · exact h2 z
    · rw [h2] at z2; cases z2
theorem tgQ_d {t : Nat} (h : t = 1 ∨ t = 2 ∨ t = 3 ∨ t = 4 ∨ 20 ≤ t ∧ t ≤ 30) : tgQ t = false := by simp [tgQ]; omega
theorem LayC.scr {f f' : SF} {r : SR} {C : Cst} (h : LayC f r C) (hs : Scr f f') : LayC f' r C := by
  obtain ⟨h1, h2, ⟨nx, h3⟩, h4, h5, h6, h7⟩ := h
  exact ⟨h1, h2.dep (fun t n ht => hs _ _ _ (nQ (tgQ_d ht) (Or.inl (by decide)))), ⟨nx, h3.dep (fun n => hs _ _ _ (nQ rfl (Or.inl (by decide)))) (fun t j n hj ht => hs _ _ _ (nQ (tgQ_d ht) (Or.inl (by omega))))⟩,
    h4.dep (hs _ _ _ (nQ rfl (Or.inl (by decide)))) (fun t n ht => hs _ _ _ (nQ (tgQ_d ht) (Or.inl (by decide)))), h5.dep (fun n _ => hs _ _ _ (nQ rfl (Or.inl (by decide)))), h6.dep (hs _ _ _ (nQ rfl (Or.inl (by decide)))) (fun n => hs _ _ _ (nQ rfl (Or.inl (by decide)))),
    h7.dep (fun t j n ht => hs _ _ _ (by rcases ht with rfl | rfl <;> exact nQ rfl (Or.inr rfl)))⟩
def setN (C : Cst) (D : Dt) : Cst := (D, C.2)
def setRj (C : Cst) (q : Int32 × Int32 × Int32 × Int32) : Cst := (cN C, cH C, cS C, q, cI C, cO C)
/-- a change: what it answers, the state behind it -/
def chg (C : Cst) (k : Nat) (a b c e : Int32) : An × Cst :=
  if (judgeK (cN C) k a b c e).1 = 0 then (.inl (doK (cN C) k a b c e).1, ((doK (cN C) k a b c e).2, (cN C :: cH C).take 8, C.2.2))
  else if (judgeK (cN C) k a b c e).1 = -1 then (.inr 0, C)
  else if (judgeK (cN C) k a b c e).1 = -2 then (.inr 1, C)
  else if (judgeK (cN C) k a b c e).1 = -3 then (.inr 2, C)
  else (.inr 5, setRj C ((judgeK (cN C) k a b c e).1, ((judgeK (cN C) k a b c e).2.getD 0), 0, (cR C).2.2.2))
section Gran
variable {d : Nat} {f : SF} {r : SR} {s : St} {Q : Ot → St → Prop}
/-- where there is a reason there is a detail -/
theorem jRoom_d {D : Dt} {b w c : Int32} : (jRoom D b w c).1 = 0 ∨ (jRoom D b w c).2 ≠ none := by
  unfold jRoom
  split
  · right; simp
  · split
    · left; rfl
    · right; simp
theorem jInB_v {D : Dt} {b : Int32} {c : Bool} : jInB D b c = 0 ∨ jInB D b c = -1 ∨ jInB D b c = -3 := by
  unfold jInB
  cases hasB D b <;> cases c <;> simp
theorem judge_d {D : Dt} {k : Nat} {a b c e : Int32} : (judgeK D k a b c e).1 = 0 ∨ (judgeK D k a b c e).1 = -1 ∨ (judgeK D k a b c e).1 = -2 ∨ (judgeK D k a b c e).1 = -3 ∨ (judgeK D k a b c e).2 ≠ none := by
  have hB : ∀ b c, jInB D b c = 0 ∨ jInB D b c = -1 ∨ jInB D b c = -2 ∨ jInB D b c = -3 := fun b c => by rcases jInB_v (D := D) (b := b) (c := c) with h | h | h <;> simp [h]
  unfold judgeK
  split
  · unfold jBin
    split
    · split
      · left; rfl
      · right; right; right; right; simp
    · right; right; right; left; rfl
  · rcases hB a (isMB b) with h | h | h | h <;> simp [h]
  · unfold jSack
    split
    · rcases jRoom_d (D := D) (b := a) (w := b) (c := capOf D a) with h | h
      · exact Or.inl h
      · exact Or.inr (Or.inr (Or.inr (Or.inr h)))
    · rcases hB a (inR b 1 60 && inR c 1 30 && inR e 0 9) with h | h | h | h <;> simp [h]
  · unfold jMove
    split
    · right; right; left; rfl
    · split
      · split
        · right; right; right; right; simp
        · rename_i x _ _ _
          rcases jRoom_d (D := D) (b := b) (w := kW x) (c := capOf D b) with h | h
          · exact Or.inl h
          · exact Or.inr (Or.inr (Or.inr (Or.inr h)))
      · right; left; rfl
  · rcases hB a (inR b 0 20) with h | h | h | h <;> simp [h]
  · rcases hB a (inR b 0 9) with h | h | h | h <;> simp [h]
  · cases inR a 0 11 && inR b 1 30 <;> simp
  · rcases hB a (inR b 1 9) with h | h | h | h <;> simp [h]
  · unfold jSale
    split
    · split
      · left; rfl
      · right; right; right; right; simp
    · rcases hB a (inR b 1 400) with h | h | h | h <;> simp [h]
  · cases inR a 1 24 <;> simp
  · simp
theorem dtl_scr {o : Option Int32} : Scr f (dtl f o) := by
  cases o with
  | none => exact Scr.rf
  | some t => exact Scr.up7
theorem rjt_ok {C : Cst} {v t u : Int32} (h : LayC f r C) (hq : ∀ f', LayC f' r (setRj C (v, t, u, (cR C).2.2.2)) → FrC f f' → Q (.inr 5) (wst (f', r) 1 6)) : Cl (d + 1) 123 [vr 0 0, vi v, vi t, vi u] (f, r) Q := by
  rw [en123]
  simp only [B123_0, ex_iconst, ex_bipush, ex_sipush, ex_ldc, ex_ldcs, ex_fconst, ex_dconst, ex_iload_n, ex_iload, ex_aload_n, ex_aload, ex_dload_n, ex_dload, ex_fload, ex_istore_n, ex_istore, ex_fstore, ex_dstore_n, ex_dstore, ex_astore_n, ex_astore, ex_iinc, ex_ginc, ex_pop_i, ex_pop_r, ex_dup_i, ex_dup_r, ex_dup_x1, ex_dup2, ex_iadd, ex_isub, ex_imul, ex_iand, ex_ior, ex_ixor, ex_ishl, ex_ishr, ex_idiv, ex_irem, ex_ineg, ex_i2l, ex_i2c, ex_i2b, ex_i2f, ex_i2d, ex_f2d, ex_fdiv, ex_ddiv, ex_lcmp, ex_dcmp, ex_getI, ex_getR, ex_putI, ex_putB, ex_putZ, ex_putR, ex_getsI, ex_getsR, ex_iald, ex_cald, ex_iast, ex_cast, ex_aast, ex_alen, ex_copy1, ex_copy2, ex_throw, ex_goto, ex_fall, ex_if_eq, ex_ic_eq, ex_if_ne, ex_ic_ne, ex_if_lt, ex_ic_lt, ex_if_ge, ex_ic_ge, ex_if_gt, ex_ic_gt, ex_if_le, ex_ic_le, ex_switch, ex_ireturn, ex_ireturn_z, ex_ireturn_b, ex_ireturn_c, ex_areturn, ex_freturn, ex_dreturn, ex_return, ex_is0, ex_is1, ex_is2, ex_is3, ex_is4, ex_is5, ex_is6, ex_is7, ex_iv1, ex_iv2, ex_iv3, ex_iv4, ex_iv5, ex_iv6, ex_iv7, ex_ip1, ex_ip2, ex_ip3, ex_ip4, ex_ip5, ex_ip6, ex_ip7, ex_iu1, ex_iu2, ex_iu3, ex_iu4, ex_iu5, ex_iu6, ex_iu7, List.getD_cons_zero, List.getD_cons_succ, List.set_cons_zero, List.set_cons_succ, isI_i, isA_r, isD_d, isF_f, GInc, ko_v, ko_n, cat_i2, cat_r2, cat_n2, cat_f2, cat_d2, cat_l2, Nat.zero_le, Nat.zero_add, Nat.le_refl, Nat.reduceAdd, Nat.reduceLeDiff, ne_eq, not_false_eq_true, Nat.reduceEqDiff, sI_mk, wI_mk, wCp_mk, Option.toList, List.nil_append, List.cons_append, kd_20, kd_21, kd_22, kd_23, kd_24, kd_25, kd_26, kd_27, kd_28, kd_29, kd_30, kd_31, kd_32, kd_33, kd_34, kd_35, kd_36, kd_37, kd_38, kd_39, kd_40, kd_41, kd_42, kd_43, kd_44, kd_45, kd_46, kd_47, kd_48, kd_49, kd_50, kd_51, kd_52, kd_53, kd_54]
  obtain ⟨h1, h2, ⟨nx, h3⟩, h4, h5, h6, h7⟩ := h
  have e : ∀ t2 j n, t2 ≠ 0 → up3 (up3 (up3 f 0 0 9 v) 0 0 10 t) 0 0 11 u t2 j n = f t2 j n := fun t2 j n ht => by simp [up3, ht]
  refine hq _ ⟨h1, h2.dep (fun t n ht => e _ _ _ (by omega)), ⟨nx, h3.dep (fun n => e _ _ _ (by omega)) (fun t j n _ ht => e _ _ _ (by omega))⟩, h4.dep (by simp [up3]) (fun t n ht => e _ _ _ (by omega)), ⟨by simp [up3, setRj], by simp [up3, setRj], by simp [up3, setRj], ?_⟩, h6.dep (e _ _ _ (by omega)) (fun n => e _ _ _ (by omega)), h7.dep (fun t j n ht => e _ _ _ (by omega))⟩ ((FrC.up rfl).tr ((FrC.up rfl).tr (FrC.up rfl)))
  simp [up3, setRj]
  exact h5.2.2.2
theorem hist_c {D D2 : Dt} {C : Cst} {f1 f2 : SF} {nx : Nat} (h : LayC f r C) (hD : LayD f2 0 D2) (hH : LayH f1 nx (cH (D2, (D :: cH C).take 8, C.2.2))) (F1 : ∀ t j k, (tgH t = false ∨ j ≠ 0 ∧ j < 3 ∨ j = 0 ∧ t ≠ 6) → f1 t j k = f t j k) (F2 : Fr tgD 0 f1 f2) : LayC f2 r (D2, (D :: cH C).take 8, C.2.2) ∧ FrC f f2 := by
  obtain ⟨h1, h2, -, h4, h5, h6, h7⟩ := h
  have tH : ∀ t, tgH t = false → tgD t = false := fun t ht => by unfold tgH at ht; rw [Bool.or_eq_false_iff] at ht; exact ht.1
  refine ⟨⟨h1, hD, ⟨nx, hH.dep (fun n => F2 _ _ _ (Or.inl rfl)) (fun t j n hj _ => F2 _ _ _ (Or.inr (by omega)))⟩, ?_, ?_, ?_, ?_⟩, fun t j n ht => ?_⟩
  · exact h4.dep ((F2 _ _ _ (Or.inl rfl)).trans (F1 _ _ _ (Or.inl rfl))) (fun t n ht => (F2 _ _ _ (Or.inr (by decide))).trans (F1 _ _ _ (Or.inr (Or.inl (by decide)))))
  · exact h5.dep (fun n _ => (F2 _ _ _ (Or.inl rfl)).trans (F1 _ _ _ (Or.inl rfl)))
  · exact h6.dep ((F2 _ _ _ (Or.inl rfl)).trans (F1 _ _ _ (Or.inl rfl))) (fun n => (F2 _ _ _ (Or.inl rfl)).trans (F1 _ _ _ (Or.inl rfl)))
  · exact h7.dep (fun t j n ht => by rcases ht with rfl | rfl <;> exact (F2 _ _ _ (Or.inl rfl)).trans (F1 _ _ _ (Or.inl rfl)))
  · have hD : tgD t = false := by
      cases hz : tgD t with
      | false => rfl
      | true => rw [tgD_C t hz] at ht; cases ht
    have h6 : tgH t = false := by
      unfold tgH
      rw [hD, Bool.false_or]
      have : t ≠ 6 := by rintro rfl; revert ht; decide
      simp [this]
    exact (F2 _ _ _ (Or.inl hD)).trans (F1 _ _ _ (Or.inl h6))
theorem chg_ok {C : Cst} (h : LayC f r C) (hF : Fit (cN C)) {k : Nat} (hk : k < 10) {a b c e : Int32} (hq : ∀ f', LayC f' r (chg C k a b c e).2 → FrC f f' → QA Q (chg C k a b c e).1 (f', r)) : Cl (d + 8) 120 [vr 0 0, vi (ik k), vi a, vi b, vi c, vi e] (f, r) Q := by
  have hS := h.1
  have hG := hS.2.1
  have hD := hS.1 0 (by decide)
  have h0 := h.2.1
  rw [en120]
  simp only [B120_0, ex_iconst, ex_bipush, ex_sipush, ex_ldc, ex_ldcs, ex_fconst, ex_dconst, ex_iload_n, ex_iload, ex_aload_n, ex_aload, ex_dload_n, ex_dload, ex_fload, ex_istore_n, ex_istore, ex_fstore, ex_dstore_n, ex_dstore, ex_astore_n, ex_astore, ex_iinc, ex_ginc, ex_pop_i, ex_pop_r, ex_dup_i, ex_dup_r, ex_dup_x1, ex_dup2, ex_iadd, ex_isub, ex_imul, ex_iand, ex_ior, ex_ixor, ex_ishl, ex_ishr, ex_idiv, ex_irem, ex_ineg, ex_i2l, ex_i2c, ex_i2b, ex_i2f, ex_i2d, ex_f2d, ex_fdiv, ex_ddiv, ex_lcmp, ex_dcmp, ex_getI, ex_getR, ex_putI, ex_putB, ex_putZ, ex_putR, ex_getsI, ex_getsR, ex_iald, ex_cald, ex_iast, ex_cast, ex_aast, ex_alen, ex_copy1, ex_copy2, ex_throw, ex_goto, ex_fall, ex_if_eq, ex_ic_eq, ex_if_ne, ex_ic_ne, ex_if_lt, ex_ic_lt, ex_if_ge, ex_ic_ge, ex_if_gt, ex_ic_gt, ex_if_le, ex_ic_le, ex_switch, ex_ireturn, ex_ireturn_z, ex_ireturn_b, ex_ireturn_c, ex_areturn, ex_freturn, ex_dreturn, ex_return, ex_is0, ex_is1, ex_is2, ex_is3, ex_is4, ex_is5, ex_is6, ex_is7, ex_iv1, ex_iv2, ex_iv3, ex_iv4, ex_iv5, ex_iv6, ex_iv7, ex_ip1, ex_ip2, ex_ip3, ex_ip4, ex_ip5, ex_ip6, ex_ip7, ex_iu1, ex_iu2, ex_iu3, ex_iu4, ex_iu5, ex_iu6, ex_iu7, List.getD_cons_zero, List.getD_cons_succ, List.set_cons_zero, List.set_cons_succ, isI_i, isA_r, isD_d, isF_f, GInc, ko_v, ko_n, cat_i2, cat_r2, cat_n2, cat_f2, cat_d2, cat_l2, Nat.zero_le, Nat.zero_add, Nat.le_refl, Nat.reduceAdd, Nat.reduceLeDiff, ne_eq, not_false_eq_true, Nat.reduceEqDiff, sI_mk, wI_mk, wCp_mk, Option.toList, List.nil_append, List.cons_append, kd_20, kd_21, kd_22, kd_23, kd_24, kd_25, kd_26, kd_27, kd_28, kd_29, kd_30, kd_31, kd_32, kd_33, kd_34, kd_35, kd_36, kd_37, kd_38, kd_39, kd_40, kd_41, kd_42, kd_43, kd_44, kd_45, kd_46, kd_47, kd_48, kd_49, kd_50, kd_51, kd_52, kd_53, kd_54, rg0_0 hG, rg0_1 hG, rg0_2 hG, rg0_4 hG, rg0_5 hG, rg0_6 hG, rg0_7 hG, rg0_8 hG, rg6_0 hG, rg8_0 hG, rg8_1 hG, rg8_4 hG, rg8_5 hG, rg8_6 hG, rg8_7 hG, rg9_0 hG, rg9_2 hG, rg9_3 hG, rg11_0 hG, rg11_1 hG, rg11_2 hG, rg11_3 hG, rg11_4 hG, rg11_5 hG, rg11_15 hG, rg11_17 hG, rg11_18 hG, rg11_19 hG, rl32 hG, rl33 hG, rl34 hG, rl35 hG, rl36 hG, rl37 hG, rl38 hG, rl39 hG, rl40 hG, rl41 hG, rl43 hG, rl44 hG, rl45 hG, rl46 hG, rl47 hG, rl48 hG, rl49 hG, rl50 hG, rl51 hG, rl52 hG, ver_ok hD h0 hk]
  have hd := dtl_scr (f := f) (o := (judgeK (cN C) k a b c e).2)
  have g1 := h.scr hd
  have gD := g1.2.1
  obtain ⟨nx, gH⟩ := g1.2.2.1
  unfold chg at hq
  by_cases hJ : (judgeK (cN C) k a b c e).1 = 0
  · simp only [hJ, if_true, jb120_1, B120_1, ex_iconst, ex_bipush, ex_sipush, ex_ldc, ex_ldcs, ex_fconst, ex_dconst, ex_iload_n, ex_iload, ex_aload_n, ex_aload, ex_dload_n, ex_dload, ex_fload, ex_istore_n, ex_istore, ex_fstore, ex_dstore_n, ex_dstore, ex_astore_n, ex_astore, ex_iinc, ex_ginc, ex_pop_i, ex_pop_r, ex_dup_i, ex_dup_r, ex_dup_x1, ex_dup2, ex_iadd, ex_isub, ex_imul, ex_iand, ex_ior, ex_ixor, ex_ishl, ex_ishr, ex_idiv, ex_irem, ex_ineg, ex_i2l, ex_i2c, ex_i2b, ex_i2f, ex_i2d, ex_f2d, ex_fdiv, ex_ddiv, ex_lcmp, ex_dcmp, ex_getI, ex_getR, ex_putI, ex_putB, ex_putZ, ex_putR, ex_getsI, ex_getsR, ex_iald, ex_cald, ex_iast, ex_cast, ex_aast, ex_alen, ex_copy1, ex_copy2, ex_throw, ex_goto, ex_fall, ex_if_eq, ex_ic_eq, ex_if_ne, ex_ic_ne, ex_if_lt, ex_ic_lt, ex_if_ge, ex_ic_ge, ex_if_gt, ex_ic_gt, ex_if_le, ex_ic_le, ex_switch, ex_ireturn, ex_ireturn_z, ex_ireturn_b, ex_ireturn_c, ex_areturn, ex_freturn, ex_dreturn, ex_return, ex_is0, ex_is1, ex_is2, ex_is3, ex_is4, ex_is5, ex_is6, ex_is7, ex_iv1, ex_iv2, ex_iv3, ex_iv4, ex_iv5, ex_iv6, ex_iv7, ex_ip1, ex_ip2, ex_ip3, ex_ip4, ex_ip5, ex_ip6, ex_ip7, ex_iu1, ex_iu2, ex_iu3, ex_iu4, ex_iu5, ex_iu6, ex_iu7, List.getD_cons_zero, List.getD_cons_succ, List.set_cons_zero, List.set_cons_succ, isI_i, isA_r, isD_d, isF_f, GInc, ko_v, ko_n, cat_i2, cat_r2, cat_n2, cat_f2, cat_d2, cat_l2, Nat.zero_le, Nat.zero_add, Nat.le_refl, Nat.reduceAdd, Nat.reduceLeDiff, ne_eq, not_false_eq_true, Nat.reduceEqDiff, sI_mk, wI_mk, wCp_mk, Option.toList, List.nil_append, List.cons_append, kd_20, kd_21, kd_22, kd_23, kd_24, kd_25, kd_26, kd_27, kd_28, kd_29, kd_30, kd_31, kd_32, kd_33, kd_34, kd_35, kd_36, kd_37, kd_38, kd_39, kd_40, kd_41, kd_42, kd_43, kd_44, kd_45, kd_46, kd_47, kd_48, kd_49, kd_50, kd_51, kd_52, kd_53, kd_54, rg0_0 hG, rg0_1 hG, rg0_2 hG, rg0_4 hG, rg0_5 hG, rg0_6 hG, rg0_7 hG, rg0_8 hG, rg6_0 hG, rg8_0 hG, rg8_1 hG, rg8_4 hG, rg8_5 hG, rg8_6 hG, rg8_7 hG, rg9_0 hG, rg9_2 hG, rg9_3 hG, rg11_0 hG, rg11_1 hG, rg11_2 hG, rg11_3 hG, rg11_4 hG, rg11_5 hG, rg11_15 hG, rg11_17 hG, rg11_18 hG, rg11_19 hG, rl32 hG, rl33 hG, rl34 hG, rl35 hG, rl36 hG, rl37 hG, rl38 hG, rl39 hG, rl40 hG, rl41 hG, rl43 hG, rl44 hG, rl45 hG, rl46 hG, rl47 hG, rl48 hG, rl49 hG, rl50 hG, rl51 hG, rl52 hG] at hq ⊢
    refine keep_ok hS (by decide) gD gH (fun f1 h1 F1 => ?_)
    have hD1 : LayD f1 0 (cN C) := gD.dep (fun t n ht => F1 _ _ _ (Or.inr (Or.inr ⟨rfl, by omega⟩)))
    simp only [ex_iconst, ex_bipush, ex_sipush, ex_ldc, ex_ldcs, ex_fconst, ex_dconst, ex_iload_n, ex_iload, ex_aload_n, ex_aload, ex_dload_n, ex_dload, ex_fload, ex_istore_n, ex_istore, ex_fstore, ex_dstore_n, ex_dstore, ex_astore_n, ex_astore, ex_iinc, ex_ginc, ex_pop_i, ex_pop_r, ex_dup_i, ex_dup_r, ex_dup_x1, ex_dup2, ex_iadd, ex_isub, ex_imul, ex_iand, ex_ior, ex_ixor, ex_ishl, ex_ishr, ex_idiv, ex_irem, ex_ineg, ex_i2l, ex_i2c, ex_i2b, ex_i2f, ex_i2d, ex_f2d, ex_fdiv, ex_ddiv, ex_lcmp, ex_dcmp, ex_getI, ex_getR, ex_putI, ex_putB, ex_putZ, ex_putR, ex_getsI, ex_getsR, ex_iald, ex_cald, ex_iast, ex_cast, ex_aast, ex_alen, ex_copy1, ex_copy2, ex_throw, ex_goto, ex_fall, ex_if_eq, ex_ic_eq, ex_if_ne, ex_ic_ne, ex_if_lt, ex_ic_lt, ex_if_ge, ex_ic_ge, ex_if_gt, ex_ic_gt, ex_if_le, ex_ic_le, ex_switch, ex_ireturn, ex_ireturn_z, ex_ireturn_b, ex_ireturn_c, ex_areturn, ex_freturn, ex_dreturn, ex_return, ex_is0, ex_is1, ex_is2, ex_is3, ex_is4, ex_is5, ex_is6, ex_is7, ex_iv1, ex_iv2, ex_iv3, ex_iv4, ex_iv5, ex_iv6, ex_iv7, ex_ip1, ex_ip2, ex_ip3, ex_ip4, ex_ip5, ex_ip6, ex_ip7, ex_iu1, ex_iu2, ex_iu3, ex_iu4, ex_iu5, ex_iu6, ex_iu7, List.getD_cons_zero, List.getD_cons_succ, List.set_cons_zero, List.set_cons_succ, isI_i, isA_r, isD_d, isF_f, GInc, ko_v, ko_n, cat_i2, cat_r2, cat_n2, cat_f2, cat_d2, cat_l2, Nat.zero_le, Nat.zero_add, Nat.le_refl, Nat.reduceAdd, Nat.reduceLeDiff, ne_eq, not_false_eq_true, Nat.reduceEqDiff, sI_mk, wI_mk, wCp_mk, Option.toList, List.nil_append, List.cons_append, kd_20, kd_21, kd_22, kd_23, kd_24, kd_25, kd_26, kd_27, kd_28, kd_29, kd_30, kd_31, kd_32, kd_33, kd_34, kd_35, kd_36, kd_37, kd_38, kd_39, kd_40, kd_41, kd_42, kd_43, kd_44, kd_45, kd_46, kd_47, kd_48, kd_49, kd_50, kd_51, kd_52, kd_53, kd_54, rg0_0 hG, rg0_1 hG, rg0_2 hG, rg0_4 hG, rg0_5 hG, rg0_6 hG, rg0_7 hG, rg0_8 hG, rg6_0 hG, rg8_0 hG, rg8_1 hG, rg8_4 hG, rg8_5 hG, rg8_6 hG, rg8_7 hG, rg9_0 hG, rg9_2 hG, rg9_3 hG, rg11_0 hG, rg11_1 hG, rg11_2 hG, rg11_3 hG, rg11_4 hG, rg11_5 hG, rg11_15 hG, rg11_17 hG, rg11_18 hG, rg11_19 hG, rl32 hG, rl33 hG, rl34 hG, rl35 hG, rl36 hG, rl37 hG, rl38 hG, rl39 hG, rl40 hG, rl41 hG, rl43 hG, rl44 hG, rl45 hG, rl46 hG, rl47 hG, rl48 hG, rl49 hG, rl50 hG, rl51 hG, rl52 hG]
    refine co_ok hD hD1 hF hk hJ (fun f2 h2 F2 => ?_)
    simp only [ex_iconst, ex_bipush, ex_sipush, ex_ldc, ex_ldcs, ex_fconst, ex_dconst, ex_iload_n, ex_iload, ex_aload_n, ex_aload, ex_dload_n, ex_dload, ex_fload, ex_istore_n, ex_istore, ex_fstore, ex_dstore_n, ex_dstore, ex_astore_n, ex_astore, ex_iinc, ex_ginc, ex_pop_i, ex_pop_r, ex_dup_i, ex_dup_r, ex_dup_x1, ex_dup2, ex_iadd, ex_isub, ex_imul, ex_iand, ex_ior, ex_ixor, ex_ishl, ex_ishr, ex_idiv, ex_irem, ex_ineg, ex_i2l, ex_i2c, ex_i2b, ex_i2f, ex_i2d, ex_f2d, ex_fdiv, ex_ddiv, ex_lcmp, ex_dcmp, ex_getI, ex_getR, ex_putI, ex_putB, ex_putZ, ex_putR, ex_getsI, ex_getsR, ex_iald, ex_cald, ex_iast, ex_cast, ex_aast, ex_alen, ex_copy1, ex_copy2, ex_throw, ex_goto, ex_fall, ex_if_eq, ex_ic_eq, ex_if_ne, ex_ic_ne, ex_if_lt, ex_ic_lt, ex_if_ge, ex_ic_ge, ex_if_gt, ex_ic_gt, ex_if_le, ex_ic_le, ex_switch, ex_ireturn, ex_ireturn_z, ex_ireturn_b, ex_ireturn_c, ex_areturn, ex_freturn, ex_dreturn, ex_return, ex_is0, ex_is1, ex_is2, ex_is3, ex_is4, ex_is5, ex_is6, ex_is7, ex_iv1, ex_iv2, ex_iv3, ex_iv4, ex_iv5, ex_iv6, ex_iv7, ex_ip1, ex_ip2, ex_ip3, ex_ip4, ex_ip5, ex_ip6, ex_ip7, ex_iu1, ex_iu2, ex_iu3, ex_iu4, ex_iu5, ex_iu6, ex_iu7, List.getD_cons_zero, List.getD_cons_succ, List.set_cons_zero, List.set_cons_succ, isI_i, isA_r, isD_d, isF_f, GInc, ko_v, ko_n, cat_i2, cat_r2, cat_n2, cat_f2, cat_d2, cat_l2, Nat.zero_le, Nat.zero_add, Nat.le_refl, Nat.reduceAdd, Nat.reduceLeDiff, ne_eq, not_false_eq_true, Nat.reduceEqDiff, sI_mk, wI_mk, wCp_mk, Option.toList, List.nil_append, List.cons_append, kd_20, kd_21, kd_22, kd_23, kd_24, kd_25, kd_26, kd_27, kd_28, kd_29, kd_30, kd_31, kd_32, kd_33, kd_34, kd_35, kd_36, kd_37, kd_38, kd_39, kd_40, kd_41, kd_42, kd_43, kd_44, kd_45, kd_46, kd_47, kd_48, kd_49, kd_50, kd_51, kd_52, kd_53, kd_54]
    obtain ⟨l1, l2⟩ := hist_c (C := C) g1 h2 h1 F1 F2
    exact hq f2 l1 (hd.c.tr l2)
  · simp only [hJ, if_false, ex_iconst, ex_bipush, ex_sipush, ex_ldc, ex_ldcs, ex_fconst, ex_dconst, ex_iload_n, ex_iload, ex_aload_n, ex_aload, ex_dload_n, ex_dload, ex_fload, ex_istore_n, ex_istore, ex_fstore, ex_dstore_n, ex_dstore, ex_astore_n, ex_astore, ex_iinc, ex_ginc, ex_pop_i, ex_pop_r, ex_dup_i, ex_dup_r, ex_dup_x1, ex_dup2, ex_iadd, ex_isub, ex_imul, ex_iand, ex_ior, ex_ixor, ex_ishl, ex_ishr, ex_idiv, ex_irem, ex_ineg, ex_i2l, ex_i2c, ex_i2b, ex_i2f, ex_i2d, ex_f2d, ex_fdiv, ex_ddiv, ex_lcmp, ex_dcmp, ex_getI, ex_getR, ex_putI, ex_putB, ex_putZ, ex_putR, ex_getsI, ex_getsR, ex_iald, ex_cald, ex_iast, ex_cast, ex_aast, ex_alen, ex_copy1, ex_copy2, ex_throw, ex_goto, ex_fall, ex_if_eq, ex_ic_eq, ex_if_ne, ex_ic_ne, ex_if_lt, ex_ic_lt, ex_if_ge, ex_ic_ge, ex_if_gt, ex_ic_gt, ex_if_le, ex_ic_le, ex_switch, ex_ireturn, ex_ireturn_z, ex_ireturn_b, ex_ireturn_c, ex_areturn, ex_freturn, ex_dreturn, ex_return, ex_is0, ex_is1, ex_is2, ex_is3, ex_is4, ex_is5, ex_is6, ex_is7, ex_iv1, ex_iv2, ex_iv3, ex_iv4, ex_iv5, ex_iv6, ex_iv7, ex_ip1, ex_ip2, ex_ip3, ex_ip4, ex_ip5, ex_ip6, ex_ip7, ex_iu1, ex_iu2, ex_iu3, ex_iu4, ex_iu5, ex_iu6, ex_iu7, List.getD_cons_zero, List.getD_cons_succ, List.set_cons_zero, List.set_cons_succ, isI_i, isA_r, isD_d, isF_f, GInc, ko_v, ko_n, cat_i2, cat_r2, cat_n2, cat_f2, cat_d2, cat_l2, Nat.zero_le, Nat.zero_add, Nat.le_refl, Nat.reduceAdd, Nat.reduceLeDiff, ne_eq, not_false_eq_true, Nat.reduceEqDiff, sI_mk, wI_mk, wCp_mk, Option.toList, List.nil_append, List.cons_append, kd_20, kd_21, kd_22, kd_23, kd_24, kd_25, kd_26, kd_27, kd_28, kd_29, kd_30, kd_31, kd_32, kd_33, kd_34, kd_35, kd_36, kd_37, kd_38, kd_39, kd_40, kd_41, kd_42, kd_43, kd_44, kd_45, kd_46, kd_47, kd_48, kd_49, kd_50, kd_51, kd_52, kd_53, kd_54, rg0_0 hG, rg0_1 hG, rg0_2 hG, rg0_4 hG, rg0_5 hG, rg0_6 hG, rg0_7 hG, rg0_8 hG, rg6_0 hG, rg8_0 hG, rg8_1 hG, rg8_4 hG, rg8_5 hG, rg8_6 hG, rg8_7 hG, rg9_0 hG, rg9_2 hG, rg9_3 hG, rg11_0 hG, rg11_1 hG, rg11_2 hG, rg11_3 hG, rg11_4 hG, rg11_5 hG, rg11_15 hG, rg11_17 hG, rg11_18 hG, rg11_19 hG, rl32 hG, rl33 hG, rl34 hG, rl35 hG, rl36 hG, rl37 hG, rl38 hG, rl39 hG, rl40 hG, rl41 hG, rl43 hG, rl44 hG, rl45 hG, rl46 hG, rl47 hG, rl48 hG, rl49 hG, rl50 hG, rl51 hG, rl52 hG] at hq ⊢
    refine en122.mpr ?_
    simp only [B122_0, ex_iconst, ex_bipush, ex_sipush, ex_ldc, ex_ldcs, ex_fconst, ex_dconst, ex_iload_n, ex_iload, ex_aload_n, ex_aload, ex_dload_n, ex_dload, ex_fload, ex_istore_n, ex_istore, ex_fstore, ex_dstore_n, ex_dstore, ex_astore_n, ex_astore, ex_iinc, ex_ginc, ex_pop_i, ex_pop_r, ex_dup_i, ex_dup_r, ex_dup_x1, ex_dup2, ex_iadd, ex_isub, ex_imul, ex_iand, ex_ior, ex_ixor, ex_ishl, ex_ishr, ex_idiv, ex_irem, ex_ineg, ex_i2l, ex_i2c, ex_i2b, ex_i2f, ex_i2d, ex_f2d, ex_fdiv, ex_ddiv, ex_lcmp, ex_dcmp, ex_getI, ex_getR, ex_putI, ex_putB, ex_putZ, ex_putR, ex_getsI, ex_getsR, ex_iald, ex_cald, ex_iast, ex_cast, ex_aast, ex_alen, ex_copy1, ex_copy2, ex_throw, ex_goto, ex_fall, ex_if_eq, ex_ic_eq, ex_if_ne, ex_ic_ne, ex_if_lt, ex_ic_lt, ex_if_ge, ex_ic_ge, ex_if_gt, ex_ic_gt, ex_if_le, ex_ic_le, ex_switch, ex_ireturn, ex_ireturn_z, ex_ireturn_b, ex_ireturn_c, ex_areturn, ex_freturn, ex_dreturn, ex_return, ex_is0, ex_is1, ex_is2, ex_is3, ex_is4, ex_is5, ex_is6, ex_is7, ex_iv1, ex_iv2, ex_iv3, ex_iv4, ex_iv5, ex_iv6, ex_iv7, ex_ip1, ex_ip2, ex_ip3, ex_ip4, ex_ip5, ex_ip6, ex_ip7, ex_iu1, ex_iu2, ex_iu3, ex_iu4, ex_iu5, ex_iu6, ex_iu7, List.getD_cons_zero, List.getD_cons_succ, List.set_cons_zero, List.set_cons_succ, isI_i, isA_r, isD_d, isF_f, GInc, ko_v, ko_n, cat_i2, cat_r2, cat_n2, cat_f2, cat_d2, cat_l2, Nat.zero_le, Nat.zero_add, Nat.le_refl, Nat.reduceAdd, Nat.reduceLeDiff, ne_eq, not_false_eq_true, Nat.reduceEqDiff, sI_mk, wI_mk, wCp_mk, Option.toList, List.nil_append, List.cons_append, kd_20, kd_21, kd_22, kd_23, kd_24, kd_25, kd_26, kd_27, kd_28, kd_29, kd_30, kd_31, kd_32, kd_33, kd_34, kd_35, kd_36, kd_37, kd_38, kd_39, kd_40, kd_41, kd_42, kd_43, kd_44, kd_45, kd_46, kd_47, kd_48, kd_49, kd_50, kd_51, kd_52, kd_53, kd_54, jb122_1, B122_1, jb122_2, B122_2, jb122_3, B122_3, rg0_0 hG, rg0_1 hG, rg0_2 hG, rg0_4 hG, rg0_5 hG, rg0_6 hG, rg0_7 hG, rg0_8 hG, rg6_0 hG, rg8_0 hG, rg8_1 hG, rg8_4 hG, rg8_5 hG, rg8_6 hG, rg8_7 hG, rg9_0 hG, rg9_2 hG, rg9_3 hG, rg11_0 hG, rg11_1 hG, rg11_2 hG, rg11_3 hG, rg11_4 hG, rg11_5 hG, rg11_15 hG, rg11_17 hG, rg11_18 hG, rg11_19 hG, rl32 hG, rl33 hG, rl34 hG, rl35 hG, rl36 hG, rl37 hG, rl38 hG, rl39 hG, rl40 hG, rl41 hG, rl43 hG, rl44 hG, rl45 hG, rl46 hG, rl47 hG, rl48 hG, rl49 hG, rl50 hG, rl51 hG, rl52 hG]
    by_cases h1 : (judgeK (cN C) k a b c e).1 = -1
    · simp only [h1, if_true, not_true_eq_false, if_false, ne_eq] at hq ⊢
      simpa [ko_t, QA] using hq _ g1 hd.c
    · by_cases h2 : (judgeK (cN C) k a b c e).1 = -2
      · have n1 : ¬ (-2 : Int32) = -1 := by decide
        simp only [h2, n1, if_true, not_true_eq_false, not_false_eq_true, if_false, ne_eq] at hq ⊢
        simpa [ko_t, QA] using hq _ g1 hd.c
      · by_cases h3 : (judgeK (cN C) k a b c e).1 = -3
        · have n1 : ¬ (-3 : Int32) = -1 := by decide
          have n2 : ¬ (-3 : Int32) = -2 := by decide
          simp only [h3, n1, n2, if_true, not_true_eq_false, not_false_eq_true, if_false, ne_eq] at hq ⊢
          simpa [ko_t, QA] using hq _ g1 hd.c
        · simp only [h1, h2, h3, if_true, not_true_eq_false, not_false_eq_true, if_false, ne_eq] at hq ⊢
          have hn : (judgeK (cN C) k a b c e).2 ≠ none := by
            rcases judge_d (D := cN C) (k := k) (a := a) (b := b) (c := c) (e := e) with z | z | z | z | z
            · exact absurd z hJ
            · exact absurd z h1
            · exact absurd z h2
            · exact absurd z h3
            · exact z
          cases ho : (judgeK (cN C) k a b c e).2 with
          | none => exact absurd ho hn
          | some t =>
            rw [ho] at hd g1 hq
            have e7 : dtl f (some t) 7 0 0 = t := by simp [dtl, up3]
            simp only [e7]
            refine rjt_ok g1 (fun f1 l1 F1 => ?_)
            simp only [ko_t, Nat.reduceLT]
            exact hq f1 l1 (hd.c.tr F1)
end Gran
