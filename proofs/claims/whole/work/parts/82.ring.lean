/-! data made, one after another; the ring made -/
theorem StD.dep {r r' : SR} {i : Nat} (h : StD r i) (e1 : ∀ t k, tgD t = true → r'.1 t i k = r.1 t i k) (e2 : ∀ t, tgD t = true → r'.2.2.2.1 t i = r.2.2.2.1 t i) : StD r' i := by
  unfold StD at h ⊢
  simp only [show ∀ k, r'.1 1 i k = r.1 1 i k from fun k => e1 1 k rfl, show ∀ k, r'.1 2 i k = r.1 2 i k from fun k => e1 2 k rfl, show ∀ k, r'.1 3 i k = r.1 3 i k from fun k => e1 3 k rfl, show ∀ k, r'.1 5 i k = r.1 5 i k from fun k => e1 5 k rfl, show r'.2.2.2.1 20 i = r.2.2.2.1 20 i from e2 20 rfl, show r'.2.2.2.1 21 i = r.2.2.2.1 21 i from e2 21 rfl, show r'.2.2.2.1 22 i = r.2.2.2.1 22 i from e2 22 rfl, show r'.2.2.2.1 23 i = r.2.2.2.1 23 i from e2 23 rfl, show r'.2.2.2.1 24 i = r.2.2.2.1 24 i from e2 24 rfl, show r'.2.2.2.1 25 i = r.2.2.2.1 25 i from e2 25 rfl, show r'.2.2.2.1 26 i = r.2.2.2.1 26 i from e2 26 rfl, show r'.2.2.2.1 27 i = r.2.2.2.1 27 i from e2 27 rfl, show r'.2.2.2.1 28 i = r.2.2.2.1 28 i from e2 28 rfl, show r'.2.2.2.1 29 i = r.2.2.2.1 29 i from e2 29 rfl, show r'.2.2.2.1 30 i = r.2.2.2.1 30 i from e2 30 rfl, show r'.2.2.2.1 31 i = r.2.2.2.1 31 i from e2 31 rfl]
  exact h
theorem tgD_l {t : Nat} (h : t = 1 ∨ t = 2 ∨ t = 3 ∨ t = 4 ∨ 20 ≤ t ∧ t ≤ 30) : tgD t = true := by
  simp [tgD]
  omega
/-- n data made, nothing in them -/
def AllD (n : Nat) (f : SF) (r : SR) : Prop := (∀ t, tgD t = true → r.2.2.2.2.1 t = n) ∧ ∀ j, j < n → StD r j ∧ LayD f j D0
theorem AllD.dep {n : Nat} {f f' : SF} {r r' : SR} (h : AllD n f r) (e0 : ∀ t j k, tgD t = true → f' t j k = f t j k) (e1 : ∀ t j k, tgD t = true → r'.1 t j k = r.1 t j k) (e2 : ∀ t j, tgD t = true → r'.2.2.2.1 t j = r.2.2.2.1 t j) (e3 : ∀ t, tgD t = true → r'.2.2.2.2.1 t = r.2.2.2.2.1 t) : AllD n f' r' :=
  ⟨fun t ht => (e3 t ht).trans (h.1 t ht), fun j hj => ⟨(h.2 j hj).1.dep (fun t k ht => e1 t j k ht) (fun t ht => e2 t j ht), (h.2 j hj).2.dep (fun t k ht => e0 t j k (tgD_l ht))⟩⟩
/-- nothing else changed; so much room taken -/
def FrN (P : Nat → Bool) (a b : Nat) (f : SF) (r : SR) (f' : SF) (r' : SR) : Prop := (∀ t j k, P t = false → f' t j k = f t j k) ∧ (∀ t j k, P t = false → r'.1 t j k = r.1 t j k) ∧ (∀ t j, P t = false → r'.2.2.2.1 t j = r.2.2.2.1 t j) ∧ (∀ t, P t = false → r'.2.2.2.2.1 t = r.2.2.2.2.1 t) ∧ r'.2.2.2.2.2.1 = r.2.2.2.2.2.1 + a ∧ r'.2.2.2.2.2.2 = r.2.2.2.2.2.2 + b
theorem FrN.rf {P : Nat → Bool} {f : SF} {r : SR} : FrN P 0 0 f r f r := ⟨fun _ _ _ _ => rfl, fun _ _ _ _ => rfl, fun _ _ _ => rfl, fun _ _ => rfl, rfl, rfl⟩
theorem FrN.tr {P : Nat → Bool} {a b c e : Nat} {f g h : SF} {r s t : SR} (x : FrN P a b f r g s) (y : FrN P c e g s h t) : FrN P (a + c) (b + e) f r h t := by
  obtain ⟨x1, x2, x3, x4, x5, x6⟩ := x
  obtain ⟨y1, y2, y3, y4, y5, y6⟩ := y
  exact ⟨fun t j k p => (y1 t j k p).trans (x1 t j k p), fun t j k p => (y2 t j k p).trans (x2 t j k p), fun t j p => (y3 t j p).trans (x3 t j p), fun t p => (y4 t p).trans (x4 t p), by omega, by omega⟩
theorem FrN.wk {P P' : Nat → Bool} {a b : Nat} {f g : SF} {r s : SR} (x : FrN P a b f r g s) (h : ∀ t, P' t = false → P t = false) : FrN P' a b f r g s := ⟨fun t j k p => x.1 t j k (h t p), fun t j k p => x.2.1 t j k (h t p), fun t j p => x.2.2.1 t j (h t p), fun t p => x.2.2.2.1 t (h t p), x.2.2.2.2⟩
theorem FrN.all {P : Nat → Bool} {a b n : Nat} {f g : SF} {r s : SR} (x : FrN P a b f r g s) (hp : ∀ t, tgD t = true → P t = false) (h : AllD n f r) : AllD n g s := h.dep (fun t j k ht => x.1 t j k (hp t ht)) (fun t j k ht => x.2.1 t j k (hp t ht)) (fun t j ht => x.2.2.1 t j (hp t ht)) (fun t ht => x.2.2.2.1 t (hp t ht))
def isT (u t : Nat) : Bool := decide (t = u)
theorem FrN.nw {f : SF} {r : SR} {t n m : Nat} : FrN (isT t) 1 m f r (clr f t (r.2.2.2.2.1 t) 0) (nwS r t n m) :=
  ⟨fun a j k h => by rw [clr_at, if_neg (fun z => absurd z.1 (of_decide_eq_false h))], fun a j k h => by rw [nwS_1, if_neg (fun z => absurd z.1 (of_decide_eq_false h))], fun a j h => by rw [nwS_l, if_neg (fun z => absurd z.1 (of_decide_eq_false h))], fun a h => by rw [nwS_c, if_neg (of_decide_eq_false h)], rfl, rfl⟩
theorem FrN.ur {f : SF} {r : SR} {t i k : Nat} {v : AV} : FrN (isT t) 0 0 f r f (wRS r t i k v) :=
  ⟨fun _ _ _ _ => rfl, fun a j k h => by rw [wRS_1, if_neg (fun z => absurd z.1 (of_decide_eq_false h))], fun _ _ _ => rfl, fun _ _ => rfl, rfl, rfl⟩
theorem FrN.ui {f : SF} {r : SR} {t i k : Nat} {v : Int32} : FrN (isT t) 0 0 f r (up3 f t i k v) r :=
  ⟨fun a j n h => by rw [up3_at, if_neg (fun z => absurd z.1 (of_decide_eq_false h))], fun _ _ _ _ => rfl, fun _ _ _ => rfl, fun _ _ => rfl, rfl, rfl⟩
theorem isT_D {u : Nat} (h : tgD u = false) : ∀ t, tgD t = true → isT u t = false := fun t ht => decide_eq_false (fun z => by rw [z, h] at ht; cases ht)
section Ring
variable {d : Nat} {f : SF} {r : SR} {s : St} {Q : Ot → St → Prop}
theorem dnw {i : Nat} (h : AllD i f r) (hq : ∀ f' r', AllD (i + 1) f' r' → FrN tgD 17 371 f r f' r' → Q (.inl none) (f', r')) : Cl (d + 2) 53 [vr 1 i] (clr f 1 i 0, nwS r 1 0 6) Q := by
  have c1 := h.1 1 rfl
  refine ct53 (fun t ht h1 => by rw [nwS_c, if_neg h1]; exact h.1 t ht) (fun f' r' g => ?_)
  obtain ⟨g1, g2, g3, g4, g5, g6, g7, g8⟩ := g
  refine hq f' r' ⟨fun t ht => ?_, fun j hj => ?_⟩ ⟨fun t j k ht => ?_, fun t j k ht => ?_, fun t j ht => ?_, fun t ht => ?_, ?_, ?_⟩
  · rw [g6]
    by_cases h1 : t = 1
    · subst h1
      rw [if_neg (fun z => z.2 rfl), nwS_c, if_pos rfl, c1]
    · rw [if_pos ⟨ht, h1⟩]
  · by_cases hji : j = i
    · subst hji
      exact ⟨g1, g2⟩
    · obtain ⟨a, b⟩ := h.2 j (by omega)
      refine ⟨a.dep (fun t k ht => ?_) (fun t ht => ?_), b.dep (fun t k ht => ?_)⟩
      · rw [g4 t j k (Or.inr hji), nwS_1, c1, if_neg (fun z => hji z.2)]
      · rw [g5 t j (Or.inr hji), nwS_l, c1, if_neg (fun z => hji z.2)]
      · rw [g3 t j k (Or.inr hji), clr_at, if_neg (fun z => hji z.2)]
  · have h1 : t ≠ 1 := by rintro rfl; cases ht
    rw [g3 t j k (Or.inl ht), clr_at, if_neg (fun z => h1 z.1)]
  · have h1 : t ≠ 1 := by rintro rfl; cases ht
    rw [g4 t j k (Or.inl ht), nwS_1, if_neg (fun z => h1 z.1)]
  · have h1 : t ≠ 1 := by rintro rfl; cases ht
    rw [g5 t j (Or.inl ht), nwS_l, if_neg (fun z => h1 z.1)]
  · have h1 : t ≠ 1 := by rintro rfl; cases ht
    rw [g6, if_neg (fun z => by rw [ht] at z; exact absurd z.1 (by decide)), nwS_c, if_neg h1]
  · rw [g7, nwS_N]
  · rw [g8, nwS_M]
/-- data and the ring's row -/
def tgR (t : Nat) : Bool := tgD t || decide (t = 32)
theorem rng_lp : ∀ (n k : Nat) (f : SF) (r : SR), k + n = 8 → r.1 6 0 0 = vr 32 0 → r.2.2.2.1 32 0 = 8 → (∀ j, j < k → r.1 32 0 j = vr 1 (3 + j)) → AllD (3 + k) f r → (∀ f' r', (∀ j, j < 8 → r'.1 32 0 j = vr 1 (3 + j)) → AllD 11 f' r' → FrN tgR (17 * n) (371 * n) f r f' r' → r'.2.2.2.1 32 0 = 8 → Q (.inl none) (f', r')) → Jx (d + 3) 65 1 [vr 6 0, vi (ik k)] [] (f, r) Q := by
  intro n
  induction n with
  | zero =>
    intro k f r hk h6 h32 hj hA hq
    have : k = 8 := by omega
    subst this
    have hc : (8 : Int32) ≤ ik 8 := by decide
    rw [jb65_1]
    simp only [B65_1, ex_iconst, ex_bipush, ex_sipush, ex_ldc, ex_ldcs, ex_fconst, ex_dconst, ex_iload_n, ex_iload, ex_aload_n, ex_aload, ex_dload_n, ex_dload, ex_fload, ex_istore_n, ex_istore, ex_fstore, ex_dstore_n, ex_dstore, ex_astore_n, ex_astore, ex_iinc, ex_ginc, ex_pop_i, ex_pop_r, ex_dup_i, ex_dup_r, ex_dup_x1, ex_dup2, ex_iadd, ex_isub, ex_imul, ex_iand, ex_ior, ex_ixor, ex_ishl, ex_ishr, ex_idiv, ex_irem, ex_ineg, ex_i2l, ex_i2c, ex_i2b, ex_i2f, ex_i2d, ex_f2d, ex_fdiv, ex_ddiv, ex_lcmp, ex_dcmp, ex_getI, ex_getR, ex_putI, ex_putB, ex_putZ, ex_putR, ex_getsI, ex_getsR, ex_iald, ex_cald, ex_iast, ex_cast, ex_aast, ex_alen, ex_copy1, ex_copy2, ex_throw, ex_goto, ex_fall, ex_if_eq, ex_ic_eq, ex_if_ne, ex_ic_ne, ex_if_lt, ex_ic_lt, ex_if_ge, ex_ic_ge, ex_if_gt, ex_ic_gt, ex_if_le, ex_ic_le, ex_switch, ex_ireturn, ex_ireturn_z, ex_ireturn_b, ex_ireturn_c, ex_areturn, ex_freturn, ex_dreturn, ex_return, ex_is0, ex_is1, ex_is2, ex_is3, ex_is4, ex_is5, ex_is6, ex_is7, ex_iv1, ex_iv2, ex_iv3, ex_iv4, ex_iv5, ex_iv6, ex_iv7, ex_ip1, ex_ip2, ex_ip3, ex_ip4, ex_ip5, ex_ip6, ex_ip7, ex_iu1, ex_iu2, ex_iu3, ex_iu4, ex_iu5, ex_iu6, ex_iu7, List.getD_cons_zero, List.getD_cons_succ, List.set_cons_zero, List.set_cons_succ, isI_i, isA_r, isD_d, isF_f, GInc, ko_v, ko_n, cat_i2, cat_r2, cat_n2, cat_f2, cat_d2, cat_l2, Nat.zero_le, Nat.zero_add, Nat.le_refl, Nat.reduceAdd, Nat.reduceLeDiff, ne_eq, not_false_eq_true, Nat.reduceEqDiff, sI_mk, wI_mk, wCp_mk, Option.toList, List.nil_append, List.cons_append, kd_20, kd_21, kd_22, kd_23, kd_24, kd_25, kd_26, kd_27, kd_28, kd_29, kd_30, kd_31, kd_32, kd_33, kd_34, kd_35, kd_36, kd_37, kd_38, kd_39, kd_40, kd_41, kd_42, kd_43, kd_44, kd_45, kd_46, kd_47, kd_48, kd_49, kd_50, kd_51, kd_52, kd_53, kd_54, hc, if_true, jb65_2, B65_2]
    exact hq f r hj hA FrN.rf h32
  | succ n ih =>
    intro k f r hk h6 h32 hj hA hq
    have hc : ¬ (8 : Int32) ≤ ik k := by rw [show (8 : Int32) = ik 8 from rfl, ik_le (by decide) (by omega)]; omega
    have e6 : sR (f, r) 6 0 0 = vr 32 0 := h6
    have c1 : r.2.2.2.2.1 1 = 3 + k := hA.1 1 rfl
    rw [jb65_1]
    simp only [B65_1, ex_iconst, ex_bipush, ex_sipush, ex_ldc, ex_ldcs, ex_fconst, ex_dconst, ex_iload_n, ex_iload, ex_aload_n, ex_aload, ex_dload_n, ex_dload, ex_fload, ex_istore_n, ex_istore, ex_fstore, ex_dstore_n, ex_dstore, ex_astore_n, ex_astore, ex_iinc, ex_ginc, ex_pop_i, ex_pop_r, ex_dup_i, ex_dup_r, ex_dup_x1, ex_dup2, ex_iadd, ex_isub, ex_imul, ex_iand, ex_ior, ex_ixor, ex_ishl, ex_ishr, ex_idiv, ex_irem, ex_ineg, ex_i2l, ex_i2c, ex_i2b, ex_i2f, ex_i2d, ex_f2d, ex_fdiv, ex_ddiv, ex_lcmp, ex_dcmp, ex_getI, ex_getR, ex_putI, ex_putB, ex_putZ, ex_putR, ex_getsI, ex_getsR, ex_iald, ex_cald, ex_iast, ex_cast, ex_aast, ex_alen, ex_copy1, ex_copy2, ex_throw, ex_goto, ex_fall, ex_if_eq, ex_ic_eq, ex_if_ne, ex_ic_ne, ex_if_lt, ex_ic_lt, ex_if_ge, ex_ic_ge, ex_if_gt, ex_ic_gt, ex_if_le, ex_ic_le, ex_switch, ex_ireturn, ex_ireturn_z, ex_ireturn_b, ex_ireturn_c, ex_areturn, ex_freturn, ex_dreturn, ex_return, ex_is0, ex_is1, ex_is2, ex_is3, ex_is4, ex_is5, ex_is6, ex_is7, ex_iv1, ex_iv2, ex_iv3, ex_iv4, ex_iv5, ex_iv6, ex_iv7, ex_ip1, ex_ip2, ex_ip3, ex_ip4, ex_ip5, ex_ip6, ex_ip7, ex_iu1, ex_iu2, ex_iu3, ex_iu4, ex_iu5, ex_iu6, ex_iu7, List.getD_cons_zero, List.getD_cons_succ, List.set_cons_zero, List.set_cons_succ, isI_i, isA_r, isD_d, isF_f, GInc, ko_v, ko_n, cat_i2, cat_r2, cat_n2, cat_f2, cat_d2, cat_l2, Nat.zero_le, Nat.zero_add, Nat.le_refl, Nat.reduceAdd, Nat.reduceLeDiff, ne_eq, not_false_eq_true, Nat.reduceEqDiff, sI_mk, wI_mk, wCp_mk, Option.toList, List.nil_append, List.cons_append, kd_20, kd_21, kd_22, kd_23, kd_24, kd_25, kd_26, kd_27, kd_28, kd_29, kd_30, kd_31, kd_32, kd_33, kd_34, kd_35, kd_36, kd_37, kd_38, kd_39, kd_40, kd_41, kd_42, kd_43, kd_44, kd_45, kd_46, kd_47, kd_48, kd_49, kd_50, kd_51, kd_52, kd_53, kd_54, hc, if_false, e6, nwL, c1]
    refine dnw hA (fun f1 r1 A1 F1 => ?_)
    have h321 : r1.2.2.2.1 32 0 = 8 := (F1.2.2.1 32 0 rfl).trans h32
    have i1 : inb (ik k) (sL (f1, r1) 32 0) := by
      show inb (ik k) (r1.2.2.2.1 32 0)
      rw [h321]
      exact (inb_ik (by omega)).mpr (by omega)
    simp only [ex_iconst, ex_bipush, ex_sipush, ex_ldc, ex_ldcs, ex_fconst, ex_dconst, ex_iload_n, ex_iload, ex_aload_n, ex_aload, ex_dload_n, ex_dload, ex_fload, ex_istore_n, ex_istore, ex_fstore, ex_dstore_n, ex_dstore, ex_astore_n, ex_astore, ex_iinc, ex_ginc, ex_pop_i, ex_pop_r, ex_dup_i, ex_dup_r, ex_dup_x1, ex_dup2, ex_iadd, ex_isub, ex_imul, ex_iand, ex_ior, ex_ixor, ex_ishl, ex_ishr, ex_idiv, ex_irem, ex_ineg, ex_i2l, ex_i2c, ex_i2b, ex_i2f, ex_i2d, ex_f2d, ex_fdiv, ex_ddiv, ex_lcmp, ex_dcmp, ex_getI, ex_getR, ex_putI, ex_putB, ex_putZ, ex_putR, ex_getsI, ex_getsR, ex_iald, ex_cald, ex_iast, ex_cast, ex_aast, ex_alen, ex_copy1, ex_copy2, ex_throw, ex_goto, ex_fall, ex_if_eq, ex_ic_eq, ex_if_ne, ex_ic_ne, ex_if_lt, ex_ic_lt, ex_if_ge, ex_ic_ge, ex_if_gt, ex_ic_gt, ex_if_le, ex_ic_le, ex_switch, ex_ireturn, ex_ireturn_z, ex_ireturn_b, ex_ireturn_c, ex_areturn, ex_freturn, ex_dreturn, ex_return, ex_is0, ex_is1, ex_is2, ex_is3, ex_is4, ex_is5, ex_is6, ex_is7, ex_iv1, ex_iv2, ex_iv3, ex_iv4, ex_iv5, ex_iv6, ex_iv7, ex_ip1, ex_ip2, ex_ip3, ex_ip4, ex_ip5, ex_ip6, ex_ip7, ex_iu1, ex_iu2, ex_iu3, ex_iu4, ex_iu5, ex_iu6, ex_iu7, List.getD_cons_zero, List.getD_cons_succ, List.set_cons_zero, List.set_cons_succ, isI_i, isA_r, isD_d, isF_f, GInc, ko_v, ko_n, cat_i2, cat_r2, cat_n2, cat_f2, cat_d2, cat_l2, Nat.zero_le, Nat.zero_add, Nat.le_refl, Nat.reduceAdd, Nat.reduceLeDiff, ne_eq, not_false_eq_true, Nat.reduceEqDiff, sI_mk, wI_mk, wCp_mk, Option.toList, List.nil_append, List.cons_append, kd_20, kd_21, kd_22, kd_23, kd_24, kd_25, kd_26, kd_27, kd_28, kd_29, kd_30, kd_31, kd_32, kd_33, kd_34, kd_35, kd_36, kd_37, kd_38, kd_39, kd_40, kd_41, kd_42, kd_43, kd_44, kd_45, kd_46, kd_47, kd_48, kd_49, kd_50, kd_51, kd_52, kd_53, kd_54]
    refine (ex_aast (t := 32) (i := 0) (by decide) i1).mpr ?_
    rw [wRS_mk, ix_ik (by omega)]
    simp only [ex_iconst, ex_bipush, ex_sipush, ex_ldc, ex_ldcs, ex_fconst, ex_dconst, ex_iload_n, ex_iload, ex_aload_n, ex_aload, ex_dload_n, ex_dload, ex_fload, ex_istore_n, ex_istore, ex_fstore, ex_dstore_n, ex_dstore, ex_astore_n, ex_astore, ex_iinc, ex_ginc, ex_pop_i, ex_pop_r, ex_dup_i, ex_dup_r, ex_dup_x1, ex_dup2, ex_iadd, ex_isub, ex_imul, ex_iand, ex_ior, ex_ixor, ex_ishl, ex_ishr, ex_idiv, ex_irem, ex_ineg, ex_i2l, ex_i2c, ex_i2b, ex_i2f, ex_i2d, ex_f2d, ex_fdiv, ex_ddiv, ex_lcmp, ex_dcmp, ex_getI, ex_getR, ex_putI, ex_putB, ex_putZ, ex_putR, ex_getsI, ex_getsR, ex_iald, ex_cald, ex_iast, ex_cast, ex_aast, ex_alen, ex_copy1, ex_copy2, ex_throw, ex_goto, ex_fall, ex_if_eq, ex_ic_eq, ex_if_ne, ex_ic_ne, ex_if_lt, ex_ic_lt, ex_if_ge, ex_ic_ge, ex_if_gt, ex_ic_gt, ex_if_le, ex_ic_le, ex_switch, ex_ireturn, ex_ireturn_z, ex_ireturn_b, ex_ireturn_c, ex_areturn, ex_freturn, ex_dreturn, ex_return, ex_is0, ex_is1, ex_is2, ex_is3, ex_is4, ex_is5, ex_is6, ex_is7, ex_iv1, ex_iv2, ex_iv3, ex_iv4, ex_iv5, ex_iv6, ex_iv7, ex_ip1, ex_ip2, ex_ip3, ex_ip4, ex_ip5, ex_ip6, ex_ip7, ex_iu1, ex_iu2, ex_iu3, ex_iu4, ex_iu5, ex_iu6, ex_iu7, List.getD_cons_zero, List.getD_cons_succ, List.set_cons_zero, List.set_cons_succ, isI_i, isA_r, isD_d, isF_f, GInc, ko_v, ko_n, cat_i2, cat_r2, cat_n2, cat_f2, cat_d2, cat_l2, Nat.zero_le, Nat.zero_add, Nat.le_refl, Nat.reduceAdd, Nat.reduceLeDiff, ne_eq, not_false_eq_true, Nat.reduceEqDiff, sI_mk, wI_mk, wCp_mk, Option.toList, List.nil_append, List.cons_append, kd_20, kd_21, kd_22, kd_23, kd_24, kd_25, kd_26, kd_27, kd_28, kd_29, kd_30, kd_31, kd_32, kd_33, kd_34, kd_35, kd_36, kd_37, kd_38, kd_39, kd_40, kd_41, kd_42, kd_43, kd_44, kd_45, kd_46, kd_47, kd_48, kd_49, kd_50, kd_51, kd_52, kd_53, kd_54, ik_succ]
    have F2 : FrN (isT 32) 0 0 f1 r1 f1 (wRS r1 32 0 k (vr 1 (3 + k))) := FrN.ur
    refine ih (k + 1) f1 _ (by omega) ?_ h321 (fun j h9 => ?_) (F2.all (isT_D rfl) A1) (fun f' r' a b c e => hq f' r' a b ?_ e)
    · rw [wRS_1, if_neg (by omega)]
      exact (F1.2.1 6 0 0 rfl).trans h6
    · rw [wRS_1]
      by_cases hjk : j = k
      · rw [if_pos ⟨rfl, rfl, hjk⟩, hjk]
      · rw [if_neg (by omega)]
        exact (F1.2.1 32 0 j rfl).trans (hj j (by omega))
    · have w1 : ∀ t, tgR t = false → tgD t = false := fun t h => by unfold tgR at h; rw [Bool.or_eq_false_iff] at h; exact h.1
      have w2 : ∀ t, tgR t = false → isT 32 t = false := fun t h => by unfold tgR at h; rw [Bool.or_eq_false_iff] at h; exact h.2
      have F := ((F1.wk w1).tr (F2.wk w2)).tr c
      rw [show 17 + 0 + 17 * n = 17 * (n + 1) by omega, show 371 + 0 + 371 * n = 371 * (n + 1) by omega] at F
      exact F
end Ring
