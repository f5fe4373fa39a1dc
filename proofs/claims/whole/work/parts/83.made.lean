/-! the class made -/
def CtC (f : SF) (r : SR) (f' : SF) (r' : SR) : Prop := AllD 11 f' r' ∧ (∀ k, k < 8 → r'.1 32 0 k = vr 1 (3 + k)) ∧ (r'.1 0 0 0 = vr 1 0 ∧ r'.1 0 0 1 = vr 1 1 ∧ r'.1 0 0 2 = vr 1 2 ∧ r'.1 0 0 4 = vr 6 0 ∧ r'.1 0 0 5 = vr 7 0 ∧ r'.1 0 0 6 = vr 8 0 ∧ r'.1 0 0 7 = vr 9 0 ∧ r'.1 0 0 8 = vr 10 0 ∧ r'.1 6 0 0 = vr 32 0 ∧ r'.1 8 0 0 = vr 33 0 ∧ r'.1 8 0 1 = vr 34 0 ∧ r'.1 8 0 4 = vr 35 0 ∧ r'.1 8 0 5 = vr 36 0 ∧ r'.1 8 0 6 = vr 37 0 ∧ r'.1 8 0 7 = vr 38 0 ∧ r'.1 9 0 0 = vr 39 0 ∧ r'.1 9 0 2 = vr 40 0 ∧ r'.1 9 0 3 = vr 41 0) ∧ (r'.2.2.2.1 32 0 = 8 ∧ r'.2.2.2.1 33 0 = 10 ∧ r'.2.2.2.1 34 0 = 10 ∧ r'.2.2.2.1 35 0 = 401 ∧ r'.2.2.2.1 36 0 = 401 ∧ r'.2.2.2.1 37 0 = 7 ∧ r'.2.2.2.1 38 0 = 7 ∧ r'.2.2.2.1 39 0 = 60 ∧ r'.2.2.2.1 40 0 = 60 ∧ r'.2.2.2.1 41 0 = 240) ∧ (f' 0 0 3 = 0 ∧ f' 0 0 9 = 0 ∧ f' 0 0 10 = 0 ∧ f' 0 0 11 = 0 ∧ f' 0 0 12 = -1 ∧ f' 6 0 1 = 0 ∧ f' 6 0 2 = 0 ∧ f' 9 0 1 = 0) ∧ LayW f' r' [] ∧ FrN tgC 203 5323 f r f' r'
section Made
variable {d : Nat} {f : SF} {r : SR} {s : St} {Q : Ot → St → Prop}
theorem naQ {m t n k : Nat} {x : Int32} {is : List AI} {lv st : List AV} (hx : x = ik n) (hn : n < 65536) : Ex d m ((.anewarray k, 0, [t]) :: is) lv (vi x :: st) (f, r) Q ↔ Ex d m is lv (vr t (r.2.2.2.2.1 t) :: st) (clr f t (r.2.2.2.2.1 t) 0, nwS r t n n) Q := by
  subst hx
  have := ex_newq (mc := MC) (ml := ML) (hd := HD) (d := d) (m := m) (is := is) (lv := lv) (st := st) (s := (f, r)) (Q := Q) (v := 0) (t := t) (x := ik n) (k := k) (by rw [ik_toInt (by omega)]; omega) (by rw [ik_toInt (by omega)]; omega)
  rw [ix_ik (by omega), nwS_mk] at this
  exact this
set_option maxHeartbeats 2000000 in
theorem ct102 (hA : AllD 0 f r) (hc : ∀ t, tgC t = true → t ≠ 0 → r.2.2.2.2.1 t = 0) (h60 : f 60 0 0 = 1) (hq : ∀ f' r', CtC f r f' r' → Q (.inl none) (f', r')) : Cl (d + 5) 102 [vr 0 0] (f, r) Q := by
  have c1 : r.2.2.2.2.1 1 = 0 := hc 1 rfl (by decide)
  rw [en102]
  simp only [B102_0, ex_iconst, ex_bipush, ex_sipush, ex_ldc, ex_ldcs, ex_fconst, ex_dconst, ex_iload_n, ex_iload, ex_aload_n, ex_aload, ex_dload_n, ex_dload, ex_fload, ex_istore_n, ex_istore, ex_fstore, ex_dstore_n, ex_dstore, ex_astore_n, ex_astore, ex_iinc, ex_ginc, ex_pop_i, ex_pop_r, ex_dup_i, ex_dup_r, ex_dup_x1, ex_dup2, ex_iadd, ex_isub, ex_imul, ex_iand, ex_ior, ex_ixor, ex_ishl, ex_ishr, ex_idiv, ex_irem, ex_ineg, ex_i2l, ex_i2c, ex_i2b, ex_i2f, ex_i2d, ex_f2d, ex_fdiv, ex_ddiv, ex_lcmp, ex_dcmp, ex_getI, ex_getR, ex_putI, ex_putB, ex_putZ, ex_putR, ex_getsI, ex_getsR, ex_iald, ex_cald, ex_iast, ex_cast, ex_aast, ex_alen, ex_copy1, ex_copy2, ex_throw, ex_goto, ex_fall, ex_if_eq, ex_ic_eq, ex_if_ne, ex_ic_ne, ex_if_lt, ex_ic_lt, ex_if_ge, ex_ic_ge, ex_if_gt, ex_ic_gt, ex_if_le, ex_ic_le, ex_switch, ex_ireturn, ex_ireturn_z, ex_ireturn_b, ex_ireturn_c, ex_areturn, ex_freturn, ex_dreturn, ex_return, ex_is0, ex_is1, ex_is2, ex_is3, ex_is4, ex_is5, ex_is6, ex_is7, ex_iv1, ex_iv2, ex_iv3, ex_iv4, ex_iv5, ex_iv6, ex_iv7, ex_ip1, ex_ip2, ex_ip3, ex_ip4, ex_ip5, ex_ip6, ex_ip7, ex_iu1, ex_iu2, ex_iu3, ex_iu4, ex_iu5, ex_iu6, ex_iu7, List.getD_cons_zero, List.getD_cons_succ, List.set_cons_zero, List.set_cons_succ, isI_i, isA_r, isD_d, isF_f, GInc, ko_v, ko_n, cat_i2, cat_r2, cat_n2, cat_f2, cat_d2, cat_l2, Nat.zero_le, Nat.zero_add, Nat.le_refl, Nat.reduceAdd, Nat.reduceLeDiff, ne_eq, not_false_eq_true, Nat.reduceEqDiff, sI_mk, wI_mk, wCp_mk, Option.toList, List.nil_append, List.cons_append, kd_20, kd_21, kd_22, kd_23, kd_24, kd_25, kd_26, kd_27, kd_28, kd_29, kd_30, kd_31, kd_32, kd_33, kd_34, kd_35, kd_36, kd_37, kd_38, kd_39, kd_40, kd_41, kd_42, kd_43, kd_44, kd_45, kd_46, kd_47, kd_48, kd_49, kd_50, kd_51, kd_52, kd_53, kd_54, ob1, nwL, c1]
  refine dnw hA (fun f1 r1 A1 F1 => ?_)
  have c11 : r1.2.2.2.2.1 1 = 1 := A1.1 1 rfl
  simp only [ex_iconst, ex_bipush, ex_sipush, ex_ldc, ex_ldcs, ex_fconst, ex_dconst, ex_iload_n, ex_iload, ex_aload_n, ex_aload, ex_dload_n, ex_dload, ex_fload, ex_istore_n, ex_istore, ex_fstore, ex_dstore_n, ex_dstore, ex_astore_n, ex_astore, ex_iinc, ex_ginc, ex_pop_i, ex_pop_r, ex_dup_i, ex_dup_r, ex_dup_x1, ex_dup2, ex_iadd, ex_isub, ex_imul, ex_iand, ex_ior, ex_ixor, ex_ishl, ex_ishr, ex_idiv, ex_irem, ex_ineg, ex_i2l, ex_i2c, ex_i2b, ex_i2f, ex_i2d, ex_f2d, ex_fdiv, ex_ddiv, ex_lcmp, ex_dcmp, ex_getI, ex_getR, ex_putI, ex_putB, ex_putZ, ex_putR, ex_getsI, ex_getsR, ex_iald, ex_cald, ex_iast, ex_cast, ex_aast, ex_alen, ex_copy1, ex_copy2, ex_throw, ex_goto, ex_fall, ex_if_eq, ex_ic_eq, ex_if_ne, ex_ic_ne, ex_if_lt, ex_ic_lt, ex_if_ge, ex_ic_ge, ex_if_gt, ex_ic_gt, ex_if_le, ex_ic_le, ex_switch, ex_ireturn, ex_ireturn_z, ex_ireturn_b, ex_ireturn_c, ex_areturn, ex_freturn, ex_dreturn, ex_return, ex_is0, ex_is1, ex_is2, ex_is3, ex_is4, ex_is5, ex_is6, ex_is7, ex_iv1, ex_iv2, ex_iv3, ex_iv4, ex_iv5, ex_iv6, ex_iv7, ex_ip1, ex_ip2, ex_ip3, ex_ip4, ex_ip5, ex_ip6, ex_ip7, ex_iu1, ex_iu2, ex_iu3, ex_iu4, ex_iu5, ex_iu6, ex_iu7, List.getD_cons_zero, List.getD_cons_succ, List.set_cons_zero, List.set_cons_succ, isI_i, isA_r, isD_d, isF_f, GInc, ko_v, ko_n, cat_i2, cat_r2, cat_n2, cat_f2, cat_d2, cat_l2, Nat.zero_le, Nat.zero_add, Nat.le_refl, Nat.reduceAdd, Nat.reduceLeDiff, ne_eq, not_false_eq_true, Nat.reduceEqDiff, sI_mk, wI_mk, wCp_mk, Option.toList, List.nil_append, List.cons_append, kd_20, kd_21, kd_22, kd_23, kd_24, kd_25, kd_26, kd_27, kd_28, kd_29, kd_30, kd_31, kd_32, kd_33, kd_34, kd_35, kd_36, kd_37, kd_38, kd_39, kd_40, kd_41, kd_42, kd_43, kd_44, kd_45, kd_46, kd_47, kd_48, kd_49, kd_50, kd_51, kd_52, kd_53, kd_54, wRS_mk, nwL, wRS_2, c11]
  refine dnw (i := 1) ((FrN.ur (f := f1)).all (isT_D rfl) A1) (fun f2 r2 A2 F2 => ?_)
  have c12 : r2.2.2.2.2.1 1 = 2 := A2.1 1 rfl
  have p0 : r2.1 0 0 0 = vr 1 0 := (F2.2.1 0 0 0 rfl).trans (by simp only [wRS_1, up3_at, Nat.reduceEqDiff, false_and, and_false, and_true, true_and, and_self, eq_self, reduceIte, if_true, if_false])
  simp only [ex_iconst, ex_bipush, ex_sipush, ex_ldc, ex_ldcs, ex_fconst, ex_dconst, ex_iload_n, ex_iload, ex_aload_n, ex_aload, ex_dload_n, ex_dload, ex_fload, ex_istore_n, ex_istore, ex_fstore, ex_dstore_n, ex_dstore, ex_astore_n, ex_astore, ex_iinc, ex_ginc, ex_pop_i, ex_pop_r, ex_dup_i, ex_dup_r, ex_dup_x1, ex_dup2, ex_iadd, ex_isub, ex_imul, ex_iand, ex_ior, ex_ixor, ex_ishl, ex_ishr, ex_idiv, ex_irem, ex_ineg, ex_i2l, ex_i2c, ex_i2b, ex_i2f, ex_i2d, ex_f2d, ex_fdiv, ex_ddiv, ex_lcmp, ex_dcmp, ex_getI, ex_getR, ex_putI, ex_putB, ex_putZ, ex_putR, ex_getsI, ex_getsR, ex_iald, ex_cald, ex_iast, ex_cast, ex_aast, ex_alen, ex_copy1, ex_copy2, ex_throw, ex_goto, ex_fall, ex_if_eq, ex_ic_eq, ex_if_ne, ex_ic_ne, ex_if_lt, ex_ic_lt, ex_if_ge, ex_ic_ge, ex_if_gt, ex_ic_gt, ex_if_le, ex_ic_le, ex_switch, ex_ireturn, ex_ireturn_z, ex_ireturn_b, ex_ireturn_c, ex_areturn, ex_freturn, ex_dreturn, ex_return, ex_is0, ex_is1, ex_is2, ex_is3, ex_is4, ex_is5, ex_is6, ex_is7, ex_iv1, ex_iv2, ex_iv3, ex_iv4, ex_iv5, ex_iv6, ex_iv7, ex_ip1, ex_ip2, ex_ip3, ex_ip4, ex_ip5, ex_ip6, ex_ip7, ex_iu1, ex_iu2, ex_iu3, ex_iu4, ex_iu5, ex_iu6, ex_iu7, List.getD_cons_zero, List.getD_cons_succ, List.set_cons_zero, List.set_cons_succ, isI_i, isA_r, isD_d, isF_f, GInc, ko_v, ko_n, cat_i2, cat_r2, cat_n2, cat_f2, cat_d2, cat_l2, Nat.zero_le, Nat.zero_add, Nat.le_refl, Nat.reduceAdd, Nat.reduceLeDiff, ne_eq, not_false_eq_true, Nat.reduceEqDiff, sI_mk, wI_mk, wCp_mk, Option.toList, List.nil_append, List.cons_append, kd_20, kd_21, kd_22, kd_23, kd_24, kd_25, kd_26, kd_27, kd_28, kd_29, kd_30, kd_31, kd_32, kd_33, kd_34, kd_35, kd_36, kd_37, kd_38, kd_39, kd_40, kd_41, kd_42, kd_43, kd_44, kd_45, kd_46, kd_47, kd_48, kd_49, kd_50, kd_51, kd_52, kd_53, kd_54, wRS_mk, nwL, wRS_2, c12]
  refine dnw (i := 2) ((FrN.ur (f := f2)).all (isT_D rfl) A2) (fun f3 r3 A3 F3 => ?_)
  have q0 : r3.1 0 0 0 = vr 1 0 := (F3.2.1 0 0 0 rfl).trans (by simp only [wRS_1, up3_at, Nat.reduceEqDiff, false_and, and_false, and_true, true_and, and_self, eq_self, reduceIte, if_true, if_false, p0])
  have q1 : r3.1 0 0 1 = vr 1 1 := (F3.2.1 0 0 1 rfl).trans (by simp only [wRS_1, up3_at, Nat.reduceEqDiff, false_and, and_false, and_true, true_and, and_self, eq_self, reduceIte, if_true, if_false])
  have G3 : FrN tgC 51 1113 f r f3 r3 := by
    have wD : ∀ t, tgC t = false → tgD t = false := fun t h => by
      cases hd : tgD t with
      | false => rfl
      | true => rw [tgD_C t hd] at h; cases h
    have w0 : ∀ t, tgC t = false → isT 0 t = false := fun t h => decide_eq_false (fun z => by rw [z] at h; cases h)
    exact ((((F1.wk wD).tr (FrN.ur.wk w0)).tr (F2.wk wD)).tr (FrN.ur.wk w0)).tr (F3.wk wD)
  have cc : ∀ t, tgC t = true → t ≠ 0 → tgD t = false → r3.2.2.2.2.1 t = 0 := fun t h h0 hd => (F3.2.2.2.1 t hd).trans ((F2.2.2.2.1 t hd).trans ((F1.2.2.2.1 t hd).trans (hc t h h0)))
  have k6 := cc 6 rfl (by decide) rfl
  have k7 := cc 7 rfl (by decide) rfl
  have k8 := cc 8 rfl (by decide) rfl
  have k9 := cc 9 rfl (by decide) rfl
  have k10 := cc 10 rfl (by decide) rfl
  have k32 := cc 32 rfl (by decide) rfl
  have k33 := cc 33 rfl (by decide) rfl
  have k34 := cc 34 rfl (by decide) rfl
  have k35 := cc 35 rfl (by decide) rfl
  have k36 := cc 36 rfl (by decide) rfl
  have k37 := cc 37 rfl (by decide) rfl
  have k38 := cc 38 rfl (by decide) rfl
  have k39 := cc 39 rfl (by decide) rfl
  have k40 := cc 40 rfl (by decide) rfl
  have k41 := cc 41 rfl (by decide) rfl
  have k42 := cc 42 rfl (by decide) rfl
  simp only [ex_iconst, ex_bipush, ex_sipush, ex_ldc, ex_ldcs, ex_fconst, ex_dconst, ex_iload_n, ex_iload, ex_aload_n, ex_aload, ex_dload_n, ex_dload, ex_fload, ex_istore_n, ex_istore, ex_fstore, ex_dstore_n, ex_dstore, ex_astore_n, ex_astore, ex_iinc, ex_ginc, ex_pop_i, ex_pop_r, ex_dup_i, ex_dup_r, ex_dup_x1, ex_dup2, ex_iadd, ex_isub, ex_imul, ex_iand, ex_ior, ex_ixor, ex_ishl, ex_ishr, ex_idiv, ex_irem, ex_ineg, ex_i2l, ex_i2c, ex_i2b, ex_i2f, ex_i2d, ex_f2d, ex_fdiv, ex_ddiv, ex_lcmp, ex_dcmp, ex_getI, ex_getR, ex_putI, ex_putB, ex_putZ, ex_putR, ex_getsI, ex_getsR, ex_iald, ex_cald, ex_iast, ex_cast, ex_aast, ex_alen, ex_copy1, ex_copy2, ex_throw, ex_goto, ex_fall, ex_if_eq, ex_ic_eq, ex_if_ne, ex_ic_ne, ex_if_lt, ex_ic_lt, ex_if_ge, ex_ic_ge, ex_if_gt, ex_ic_gt, ex_if_le, ex_ic_le, ex_switch, ex_ireturn, ex_ireturn_z, ex_ireturn_b, ex_ireturn_c, ex_areturn, ex_freturn, ex_dreturn, ex_return, ex_is0, ex_is1, ex_is2, ex_is3, ex_is4, ex_is5, ex_is6, ex_is7, ex_iv1, ex_iv2, ex_iv3, ex_iv4, ex_iv5, ex_iv6, ex_iv7, ex_ip1, ex_ip2, ex_ip3, ex_ip4, ex_ip5, ex_ip6, ex_ip7, ex_iu1, ex_iu2, ex_iu3, ex_iu4, ex_iu5, ex_iu6, ex_iu7, List.getD_cons_zero, List.getD_cons_succ, List.set_cons_zero, List.set_cons_succ, isI_i, isA_r, isD_d, isF_f, GInc, ko_v, ko_n, cat_i2, cat_r2, cat_n2, cat_f2, cat_d2, cat_l2, Nat.zero_le, Nat.zero_add, Nat.le_refl, Nat.reduceAdd, Nat.reduceLeDiff, ne_eq, not_false_eq_true, Nat.reduceEqDiff, sI_mk, wI_mk, wCp_mk, Option.toList, List.nil_append, List.cons_append, kd_20, kd_21, kd_22, kd_23, kd_24, kd_25, kd_26, kd_27, kd_28, kd_29, kd_30, kd_31, kd_32, kd_33, kd_34, kd_35, kd_36, kd_37, kd_38, kd_39, kd_40, kd_41, kd_42, kd_43, kd_44, kd_45, kd_46, kd_47, kd_48, kd_49, kd_50, kd_51, kd_52, kd_53, kd_54, wRS_mk]
  refine (ex_putZ (Or.inl rfl)).mpr ?_
  simp only [ex_iconst, ex_bipush, ex_sipush, ex_ldc, ex_ldcs, ex_fconst, ex_dconst, ex_iload_n, ex_iload, ex_aload_n, ex_aload, ex_dload_n, ex_dload, ex_fload, ex_istore_n, ex_istore, ex_fstore, ex_dstore_n, ex_dstore, ex_astore_n, ex_astore, ex_iinc, ex_ginc, ex_pop_i, ex_pop_r, ex_dup_i, ex_dup_r, ex_dup_x1, ex_dup2, ex_iadd, ex_isub, ex_imul, ex_iand, ex_ior, ex_ixor, ex_ishl, ex_ishr, ex_idiv, ex_irem, ex_ineg, ex_i2l, ex_i2c, ex_i2b, ex_i2f, ex_i2d, ex_f2d, ex_fdiv, ex_ddiv, ex_lcmp, ex_dcmp, ex_getI, ex_getR, ex_putI, ex_putB, ex_putZ, ex_putR, ex_getsI, ex_getsR, ex_iald, ex_cald, ex_iast, ex_cast, ex_aast, ex_alen, ex_copy1, ex_copy2, ex_throw, ex_goto, ex_fall, ex_if_eq, ex_ic_eq, ex_if_ne, ex_ic_ne, ex_if_lt, ex_ic_lt, ex_if_ge, ex_ic_ge, ex_if_gt, ex_ic_gt, ex_if_le, ex_ic_le, ex_switch, ex_ireturn, ex_ireturn_z, ex_ireturn_b, ex_ireturn_c, ex_areturn, ex_freturn, ex_dreturn, ex_return, ex_is0, ex_is1, ex_is2, ex_is3, ex_is4, ex_is5, ex_is6, ex_is7, ex_iv1, ex_iv2, ex_iv3, ex_iv4, ex_iv5, ex_iv6, ex_iv7, ex_ip1, ex_ip2, ex_ip3, ex_ip4, ex_ip5, ex_ip6, ex_ip7, ex_iu1, ex_iu2, ex_iu3, ex_iu4, ex_iu5, ex_iu6, ex_iu7, List.getD_cons_zero, List.getD_cons_succ, List.set_cons_zero, List.set_cons_succ, isI_i, isA_r, isD_d, isF_f, GInc, ko_v, ko_n, cat_i2, cat_r2, cat_n2, cat_f2, cat_d2, cat_l2, Nat.zero_le, Nat.zero_add, Nat.le_refl, Nat.reduceAdd, Nat.reduceLeDiff, ne_eq, not_false_eq_true, Nat.reduceEqDiff, sI_mk, wI_mk, wCp_mk, Option.toList, List.nil_append, List.cons_append, kd_20, kd_21, kd_22, kd_23, kd_24, kd_25, kd_26, kd_27, kd_28, kd_29, kd_30, kd_31, kd_32, kd_33, kd_34, kd_35, kd_36, kd_37, kd_38, kd_39, kd_40, kd_41, kd_42, kd_43, kd_44, kd_45, kd_46, kd_47, kd_48, kd_49, kd_50, kd_51, kd_52, kd_53, kd_54, nwL, wRS_2, k6, en65, B65_0, ob1, naQ (x := 8) (n := 8) rfl (by decide), nwS_c, Nat.reduceEqDiff, if_false, k32, wRS_mk]
  have W0 : ∀ t, tgC t = false → t ≠ 0 ∧ t ≠ 6 ∧ t ≠ 32 := fun t h => ⟨(by rintro rfl; cases h), (by rintro rfl; cases h), (by rintro rfl; cases h)⟩
  have wT : ∀ u, tgC u = true → ∀ t, tgC t = false → isT u t = false := fun u hu t h => decide_eq_false (fun z => by rw [z, hu] at h; cases h)
  refine rng_lp 8 0 _ _ rfl ?_ ?_ (fun j hj => by omega) (A3.dep (fun t j k ht => ?_) (fun t j k ht => ?_) (fun t j ht => ?_) (fun t ht => ?_)) (fun f4 r4 R4 A4 F4 L4 => ?_)
  · simp only [wRS_1, wRS_2, nwS_1, nwS_l, nwS_c, up3_at, clr_at, up3_at, Nat.reduceEqDiff, false_and, and_false, and_true, true_and, and_self, eq_self, reduceIte, if_true, if_false, k32, k6]
  · simp only [wRS_1, wRS_2, nwS_1, nwS_l, nwS_c, up3_at, clr_at, up3_at, Nat.reduceEqDiff, false_and, and_false, and_true, true_and, and_self, eq_self, reduceIte, if_true, if_false, k32, k6]
  · have n0 : ¬ t = 0 := by rintro rfl; cases ht
    have n6 : ¬ t = 6 := by rintro rfl; cases ht
    have n32 : ¬ t = 32 := by rintro rfl; cases ht
    simp only [up3_at, clr_at, n0, n6, n32, false_and, if_false]
  · have n0 : ¬ t = 0 := by rintro rfl; cases ht
    have n6 : ¬ t = 6 := by rintro rfl; cases ht
    have n32 : ¬ t = 32 := by rintro rfl; cases ht
    simp only [wRS_1, nwS_1, n0, n6, n32, false_and, if_false]
  · have n6 : ¬ t = 6 := by rintro rfl; cases ht
    have n32 : ¬ t = 32 := by rintro rfl; cases ht
    simp only [wRS_2, nwS_l, n6, n32, false_and, if_false]
  · have n6 : ¬ t = 6 := by rintro rfl; cases ht
    have n32 : ¬ t = 32 := by rintro rfl; cases ht
    simp only [wRS_2, nwS_c, n6, n32, if_false]
  have z0 : r4.1 0 0 0 = vr 1 0 := (F4.2.1 0 0 0 rfl).trans (by simp only [wRS_1, wRS_2, nwS_1, nwS_l, nwS_c, up3_at, clr_at, up3_at, Nat.reduceEqDiff, false_and, and_false, and_true, true_and, and_self, eq_self, reduceIte, if_true, if_false, q0])
  have z1 : r4.1 0 0 1 = vr 1 1 := (F4.2.1 0 0 1 rfl).trans (by simp only [wRS_1, wRS_2, nwS_1, nwS_l, nwS_c, up3_at, clr_at, up3_at, Nat.reduceEqDiff, false_and, and_false, and_true, true_and, and_self, eq_self, reduceIte, if_true, if_false, q1])
  have z2 : r4.1 0 0 2 = vr 1 2 := (F4.2.1 0 0 2 rfl).trans (by simp only [wRS_1, wRS_2, nwS_1, nwS_l, nwS_c, up3_at, clr_at, up3_at, Nat.reduceEqDiff, false_and, and_false, and_true, true_and, and_self, eq_self, reduceIte, if_true, if_false])
  have z6 : r4.1 6 0 0 = vr 32 0 := (F4.2.1 6 0 0 rfl).trans (by simp only [wRS_1, wRS_2, nwS_1, nwS_l, nwS_c, up3_at, clr_at, up3_at, Nat.reduceEqDiff, false_and, and_false, and_true, true_and, and_self, eq_self, reduceIte, if_true, if_false])
  have y3 : f4 0 0 3 = 0 := (F4.1 0 0 3 rfl).trans (by simp only [wRS_1, wRS_2, nwS_1, nwS_l, nwS_c, up3_at, clr_at, up3_at, Nat.reduceEqDiff, false_and, and_false, and_true, true_and, and_self, eq_self, reduceIte, if_true, if_false])
  have y61 : f4 6 0 1 = 0 := (F4.1 6 0 1 rfl).trans (by simp only [wRS_1, wRS_2, nwS_1, nwS_l, nwS_c, up3_at, clr_at, up3_at, Nat.reduceEqDiff, false_and, and_false, and_true, true_and, and_self, eq_self, reduceIte, if_true, if_false])
  have y62 : f4 6 0 2 = 0 := (F4.1 6 0 2 rfl).trans (by simp only [wRS_1, wRS_2, nwS_1, nwS_l, nwS_c, up3_at, clr_at, up3_at, Nat.reduceEqDiff, false_and, and_false, and_true, true_and, and_self, eq_self, reduceIte, if_true, if_false])
  have y60 : f4 60 0 0 = 1 := (F4.1 60 0 0 rfl).trans (by simp only [wRS_1, wRS_2, nwS_1, nwS_l, nwS_c, up3_at, clr_at, up3_at, Nat.reduceEqDiff, false_and, and_false, and_true, true_and, and_self, eq_self, reduceIte, if_true, if_false]; exact (G3.1 60 0 0 rfl).trans h60)
  have G4 : FrN tgC 189 4092 f r f4 r4 := by
    have wR : ∀ t, tgC t = false → tgR t = false := fun t h => by
      cases hd : tgR t with
      | false => rfl
      | true =>
        unfold tgR at hd
        rw [Bool.or_eq_true] at hd
        rcases hd with hd | hd
        · rw [tgD_C t hd] at h; cases h
        · rw [of_decide_eq_true hd] at h; cases h
    have x1 : FrN tgC 2 11 f3 r3 (up3 (up3 (clr (clr (up3 f3 0 0 3 0) 6 0 0) 32 0 0) 6 0 1 0) 6 0 2 0) (wRS (nwS (nwS (wRS r3 0 0 2 (vr 1 2)) 6 0 3) 32 8 8) 6 0 0 (vr 32 0)) := by
      refine ⟨fun t j k h => ?_, fun t j k h => ?_, fun t j h => ?_, fun t h => ?_, rfl, rfl⟩
      · obtain ⟨n0, n6, n32⟩ := W0 t h
        simp only [up3_at, clr_at, n0, n6, n32, false_and, if_false]
      · obtain ⟨n0, n6, n32⟩ := W0 t h
        simp only [wRS_1, nwS_1, n0, n6, n32, false_and, if_false]
      · obtain ⟨n0, n6, n32⟩ := W0 t h
        simp only [wRS_2, nwS_l, n6, n32, false_and, if_false]
      · obtain ⟨n0, n6, n32⟩ := W0 t h
        simp only [wRS_2, nwS_c, n6, n32, if_false]
    exact (G3.tr x1).tr (F4.wk wR)
  have m7 : r4.2.2.2.2.1 7 = 0 := (F4.2.2.2.1 7 rfl).trans (by simp only [wRS_2, nwS_c, Nat.reduceEqDiff, if_false, k7])
  have m8 : r4.2.2.2.2.1 8 = 0 := (F4.2.2.2.1 8 rfl).trans (by simp only [wRS_2, nwS_c, Nat.reduceEqDiff, if_false, k8])
  have m9 : r4.2.2.2.2.1 9 = 0 := (F4.2.2.2.1 9 rfl).trans (by simp only [wRS_2, nwS_c, Nat.reduceEqDiff, if_false, k9])
  have m10 : r4.2.2.2.2.1 10 = 0 := (F4.2.2.2.1 10 rfl).trans (by simp only [wRS_2, nwS_c, Nat.reduceEqDiff, if_false, k10])
  have m33 : r4.2.2.2.2.1 33 = 0 := (F4.2.2.2.1 33 rfl).trans (by simp only [wRS_2, nwS_c, Nat.reduceEqDiff, if_false, k33])
  have m34 : r4.2.2.2.2.1 34 = 0 := (F4.2.2.2.1 34 rfl).trans (by simp only [wRS_2, nwS_c, Nat.reduceEqDiff, if_false, k34])
  have m35 : r4.2.2.2.2.1 35 = 0 := (F4.2.2.2.1 35 rfl).trans (by simp only [wRS_2, nwS_c, Nat.reduceEqDiff, if_false, k35])
  have m36 : r4.2.2.2.2.1 36 = 0 := (F4.2.2.2.1 36 rfl).trans (by simp only [wRS_2, nwS_c, Nat.reduceEqDiff, if_false, k36])
  have m37 : r4.2.2.2.2.1 37 = 0 := (F4.2.2.2.1 37 rfl).trans (by simp only [wRS_2, nwS_c, Nat.reduceEqDiff, if_false, k37])
  have m38 : r4.2.2.2.2.1 38 = 0 := (F4.2.2.2.1 38 rfl).trans (by simp only [wRS_2, nwS_c, Nat.reduceEqDiff, if_false, k38])
  have m39 : r4.2.2.2.2.1 39 = 0 := (F4.2.2.2.1 39 rfl).trans (by simp only [wRS_2, nwS_c, Nat.reduceEqDiff, if_false, k39])
  have m40 : r4.2.2.2.2.1 40 = 0 := (F4.2.2.2.1 40 rfl).trans (by simp only [wRS_2, nwS_c, Nat.reduceEqDiff, if_false, k40])
  have m41 : r4.2.2.2.2.1 41 = 0 := (F4.2.2.2.1 41 rfl).trans (by simp only [wRS_2, nwS_c, Nat.reduceEqDiff, if_false, k41])
  have m42 : r4.2.2.2.2.1 42 = 0 := (F4.2.2.2.1 42 rfl).trans (by simp only [wRS_2, nwS_c, Nat.reduceEqDiff, if_false, k42])
  simp only [ex_iconst, ex_bipush, ex_sipush, ex_ldc, ex_ldcs, ex_fconst, ex_dconst, ex_iload_n, ex_iload, ex_aload_n, ex_aload, ex_dload_n, ex_dload, ex_fload, ex_istore_n, ex_istore, ex_fstore, ex_dstore_n, ex_dstore, ex_astore_n, ex_astore, ex_iinc, ex_ginc, ex_pop_i, ex_pop_r, ex_dup_i, ex_dup_r, ex_dup_x1, ex_dup2, ex_iadd, ex_isub, ex_imul, ex_iand, ex_ior, ex_ixor, ex_ishl, ex_ishr, ex_idiv, ex_irem, ex_ineg, ex_i2l, ex_i2c, ex_i2b, ex_i2f, ex_i2d, ex_f2d, ex_fdiv, ex_ddiv, ex_lcmp, ex_dcmp, ex_getI, ex_getR, ex_putI, ex_putB, ex_putZ, ex_putR, ex_getsI, ex_getsR, ex_iald, ex_cald, ex_iast, ex_cast, ex_aast, ex_alen, ex_copy1, ex_copy2, ex_throw, ex_goto, ex_fall, ex_if_eq, ex_ic_eq, ex_if_ne, ex_ic_ne, ex_if_lt, ex_ic_lt, ex_if_ge, ex_ic_ge, ex_if_gt, ex_ic_gt, ex_if_le, ex_ic_le, ex_switch, ex_ireturn, ex_ireturn_z, ex_ireturn_b, ex_ireturn_c, ex_areturn, ex_freturn, ex_dreturn, ex_return, ex_is0, ex_is1, ex_is2, ex_is3, ex_is4, ex_is5, ex_is6, ex_is7, ex_iv1, ex_iv2, ex_iv3, ex_iv4, ex_iv5, ex_iv6, ex_iv7, ex_ip1, ex_ip2, ex_ip3, ex_ip4, ex_ip5, ex_ip6, ex_ip7, ex_iu1, ex_iu2, ex_iu3, ex_iu4, ex_iu5, ex_iu6, ex_iu7, List.getD_cons_zero, List.getD_cons_succ, List.set_cons_zero, List.set_cons_succ, isI_i, isA_r, isD_d, isF_f, GInc, ko_v, ko_n, cat_i2, cat_r2, cat_n2, cat_f2, cat_d2, cat_l2, Nat.zero_le, Nat.zero_add, Nat.le_refl, Nat.reduceAdd, Nat.reduceLeDiff, ne_eq, not_false_eq_true, Nat.reduceEqDiff, sI_mk, wI_mk, wCp_mk, Option.toList, List.nil_append, List.cons_append, kd_20, kd_21, kd_22, kd_23, kd_24, kd_25, kd_26, kd_27, kd_28, kd_29, kd_30, kd_31, kd_32, kd_33, kd_34, kd_35, kd_36, kd_37, kd_38, kd_39, kd_40, kd_41, kd_42, kd_43, kd_44, kd_45, kd_46, kd_47, kd_48, kd_49, kd_50, kd_51, kd_52, kd_53, kd_54, nwL, wRS_2, wRS_mk, en69, B69_0, en80, B80_0, en89, B89_0, en0, B0_0, en1, B1_0, ob1, naL (x := 10) (n := 10) rfl (by decide), naL (x := 401) (n := 401) rfl (by decide), naL (x := 7) (n := 7) rfl (by decide), naL (x := 60) (n := 60) rfl (by decide), naL (x := 240) (n := 240) rfl (by decide), naL (x := 16) (n := 16) rfl (by decide), nwS_c, Nat.reduceEqDiff, if_false, m7, m8, m9, m10, m33, m34, m35, m36, m37, m38, m39, m40, m41, m42, up3_at, clr_at, false_and, and_false, y60, show ¬ (1 : Int32) = 0 by decide]
  refine (ex_putB (by decide)).mpr ?_
  simp only [ex_iconst, ex_bipush, ex_sipush, ex_ldc, ex_ldcs, ex_fconst, ex_dconst, ex_iload_n, ex_iload, ex_aload_n, ex_aload, ex_dload_n, ex_dload, ex_fload, ex_istore_n, ex_istore, ex_fstore, ex_dstore_n, ex_dstore, ex_astore_n, ex_astore, ex_iinc, ex_ginc, ex_pop_i, ex_pop_r, ex_dup_i, ex_dup_r, ex_dup_x1, ex_dup2, ex_iadd, ex_isub, ex_imul, ex_iand, ex_ior, ex_ixor, ex_ishl, ex_ishr, ex_idiv, ex_irem, ex_ineg, ex_i2l, ex_i2c, ex_i2b, ex_i2f, ex_i2d, ex_f2d, ex_fdiv, ex_ddiv, ex_lcmp, ex_dcmp, ex_getI, ex_getR, ex_putI, ex_putB, ex_putZ, ex_putR, ex_getsI, ex_getsR, ex_iald, ex_cald, ex_iast, ex_cast, ex_aast, ex_alen, ex_copy1, ex_copy2, ex_throw, ex_goto, ex_fall, ex_if_eq, ex_ic_eq, ex_if_ne, ex_ic_ne, ex_if_lt, ex_ic_lt, ex_if_ge, ex_ic_ge, ex_if_gt, ex_ic_gt, ex_if_le, ex_ic_le, ex_switch, ex_ireturn, ex_ireturn_z, ex_ireturn_b, ex_ireturn_c, ex_areturn, ex_freturn, ex_dreturn, ex_return, ex_is0, ex_is1, ex_is2, ex_is3, ex_is4, ex_is5, ex_is6, ex_is7, ex_iv1, ex_iv2, ex_iv3, ex_iv4, ex_iv5, ex_iv6, ex_iv7, ex_ip1, ex_ip2, ex_ip3, ex_ip4, ex_ip5, ex_ip6, ex_ip7, ex_iu1, ex_iu2, ex_iu3, ex_iu4, ex_iu5, ex_iu6, ex_iu7, List.getD_cons_zero, List.getD_cons_succ, List.set_cons_zero, List.set_cons_succ, isI_i, isA_r, isD_d, isF_f, GInc, ko_v, ko_n, cat_i2, cat_r2, cat_n2, cat_f2, cat_d2, cat_l2, Nat.zero_le, Nat.zero_add, Nat.le_refl, Nat.reduceAdd, Nat.reduceLeDiff, ne_eq, not_false_eq_true, Nat.reduceEqDiff, sI_mk, wI_mk, wCp_mk, Option.toList, List.nil_append, List.cons_append, kd_20, kd_21, kd_22, kd_23, kd_24, kd_25, kd_26, kd_27, kd_28, kd_29, kd_30, kd_31, kd_32, kd_33, kd_34, kd_35, kd_36, kd_37, kd_38, kd_39, kd_40, kd_41, kd_42, kd_43, kd_44, kd_45, kd_46, kd_47, kd_48, kd_49, kd_50, kd_51, kd_52, kd_53, kd_54, jb1_2, B1_2, wRS_mk]
  have S60 : True := trivial
  refine hq _ _ ⟨A4.dep (fun t j k ht => ?_) (fun t j k ht => ?_) (fun t j ht => ?_) (fun t ht => ?_), fun k hk => ?_, ?_, ?_, ?_, ⟨0, 16, ?_, ?_, ?_, ?_, Nat.zero_le _, by decide, by decide, ⟨?_, fun k hk => ?_⟩, fun k c hk => absurd hk (by show ¬ ([] : List Int32)[k]? = some c; simp), fun c hc => absurd hc (by show ¬ c ∈ ([] : List Int32); simp)⟩, ?_⟩
  · skip
    have n0 : ¬ t = 0 := by rintro rfl; cases ht
    have n7 : ¬ t = 7 := by rintro rfl; cases ht
    have n8 : ¬ t = 8 := by rintro rfl; cases ht
    have n9 : ¬ t = 9 := by rintro rfl; cases ht
    have n10 : ¬ t = 10 := by rintro rfl; cases ht
    have n33 : ¬ t = 33 := by rintro rfl; cases ht
    have n34 : ¬ t = 34 := by rintro rfl; cases ht
    have n35 : ¬ t = 35 := by rintro rfl; cases ht
    have n36 : ¬ t = 36 := by rintro rfl; cases ht
    have n37 : ¬ t = 37 := by rintro rfl; cases ht
    have n38 : ¬ t = 38 := by rintro rfl; cases ht
    have n39 : ¬ t = 39 := by rintro rfl; cases ht
    have n40 : ¬ t = 40 := by rintro rfl; cases ht
    have n41 : ¬ t = 41 := by rintro rfl; cases ht
    have n42 : ¬ t = 42 := by rintro rfl; cases ht
    simp only [up3_at, clr_at, n0, n7, n8, n9, n10, n33, n34, n35, n36, n37, n38, n39, n40, n41, n42, false_and, if_false]
  · skip
    have n0 : ¬ t = 0 := by rintro rfl; cases ht
    have n7 : ¬ t = 7 := by rintro rfl; cases ht
    have n8 : ¬ t = 8 := by rintro rfl; cases ht
    have n9 : ¬ t = 9 := by rintro rfl; cases ht
    have n10 : ¬ t = 10 := by rintro rfl; cases ht
    have n33 : ¬ t = 33 := by rintro rfl; cases ht
    have n34 : ¬ t = 34 := by rintro rfl; cases ht
    have n35 : ¬ t = 35 := by rintro rfl; cases ht
    have n36 : ¬ t = 36 := by rintro rfl; cases ht
    have n37 : ¬ t = 37 := by rintro rfl; cases ht
    have n38 : ¬ t = 38 := by rintro rfl; cases ht
    have n39 : ¬ t = 39 := by rintro rfl; cases ht
    have n40 : ¬ t = 40 := by rintro rfl; cases ht
    have n41 : ¬ t = 41 := by rintro rfl; cases ht
    have n42 : ¬ t = 42 := by rintro rfl; cases ht
    simp only [wRS_1, wRS_2, nwS_1, n0, n7, n8, n9, n10, n33, n34, n35, n36, n37, n38, n39, n40, n41, n42, false_and, if_false]
  · skip
    have n0 : ¬ t = 0 := by rintro rfl; cases ht
    have n7 : ¬ t = 7 := by rintro rfl; cases ht
    have n8 : ¬ t = 8 := by rintro rfl; cases ht
    have n9 : ¬ t = 9 := by rintro rfl; cases ht
    have n10 : ¬ t = 10 := by rintro rfl; cases ht
    have n33 : ¬ t = 33 := by rintro rfl; cases ht
    have n34 : ¬ t = 34 := by rintro rfl; cases ht
    have n35 : ¬ t = 35 := by rintro rfl; cases ht
    have n36 : ¬ t = 36 := by rintro rfl; cases ht
    have n37 : ¬ t = 37 := by rintro rfl; cases ht
    have n38 : ¬ t = 38 := by rintro rfl; cases ht
    have n39 : ¬ t = 39 := by rintro rfl; cases ht
    have n40 : ¬ t = 40 := by rintro rfl; cases ht
    have n41 : ¬ t = 41 := by rintro rfl; cases ht
    have n42 : ¬ t = 42 := by rintro rfl; cases ht
    simp only [wRS_2, nwS_l, n0, n7, n8, n9, n10, n33, n34, n35, n36, n37, n38, n39, n40, n41, n42, false_and, if_false]
  · skip
    have n0 : ¬ t = 0 := by rintro rfl; cases ht
    have n7 : ¬ t = 7 := by rintro rfl; cases ht
    have n8 : ¬ t = 8 := by rintro rfl; cases ht
    have n9 : ¬ t = 9 := by rintro rfl; cases ht
    have n10 : ¬ t = 10 := by rintro rfl; cases ht
    have n33 : ¬ t = 33 := by rintro rfl; cases ht
    have n34 : ¬ t = 34 := by rintro rfl; cases ht
    have n35 : ¬ t = 35 := by rintro rfl; cases ht
    have n36 : ¬ t = 36 := by rintro rfl; cases ht
    have n37 : ¬ t = 37 := by rintro rfl; cases ht
    have n38 : ¬ t = 38 := by rintro rfl; cases ht
    have n39 : ¬ t = 39 := by rintro rfl; cases ht
    have n40 : ¬ t = 40 := by rintro rfl; cases ht
    have n41 : ¬ t = 41 := by rintro rfl; cases ht
    have n42 : ¬ t = 42 := by rintro rfl; cases ht
    simp only [wRS_2, nwS_c, n0, n7, n8, n9, n10, n33, n34, n35, n36, n37, n38, n39, n40, n41, n42, if_false]
  · simp only [wRS_1, wRS_2, nwS_1, nwS_l, nwS_c, up3_at, clr_at, up3_at, Nat.reduceEqDiff, false_and, and_false, and_true, true_and, and_self, eq_self, reduceIte, if_true, if_false]
    exact R4 k hk
  · simp only [wRS_1, wRS_2, nwS_1, nwS_l, nwS_c, up3_at, clr_at, up3_at, Nat.reduceEqDiff, false_and, and_false, and_true, true_and, and_self, eq_self, reduceIte, if_true, if_false, m7, m8, m9, m10, m33, m34, m35, m36, m37, m38, m39, m40, m41, m42, z0, z1, z2, z6]
  · simp only [wRS_1, wRS_2, nwS_1, nwS_l, nwS_c, up3_at, clr_at, up3_at, Nat.reduceEqDiff, false_and, and_false, and_true, true_and, and_self, eq_self, reduceIte, if_true, if_false, m7, m8, m9, m10, m33, m34, m35, m36, m37, m38, m39, m40, m41, m42, L4]
  · simp only [wRS_1, wRS_2, nwS_1, nwS_l, nwS_c, up3_at, clr_at, up3_at, Nat.reduceEqDiff, false_and, and_false, and_true, true_and, and_self, eq_self, reduceIte, if_true, if_false, m7, m8, m9, m10, m33, m34, m35, m36, m37, m38, m39, m40, m41, m42, y3, y61, y62]
  · simp only [wRS_1, wRS_2, nwS_1, nwS_l, nwS_c, up3_at, clr_at, up3_at, Nat.reduceEqDiff, false_and, and_false, and_true, true_and, and_self, eq_self, reduceIte, if_true, if_false, m7, m8, m9, m10, m33, m34, m35, m36, m37, m38, m39, m40, m41, m42]
  · simp only [wRS_1, wRS_2, nwS_1, nwS_l, nwS_c, up3_at, clr_at, up3_at, Nat.reduceEqDiff, false_and, and_false, and_true, true_and, and_self, eq_self, reduceIte, if_true, if_false, m7, m8, m9, m10, m33, m34, m35, m36, m37, m38, m39, m40, m41, m42]
  · simp only [wRS_1, wRS_2, nwS_1, nwS_l, nwS_c, up3_at, clr_at, up3_at, Nat.reduceEqDiff, false_and, and_false, and_true, true_and, and_self, eq_self, reduceIte, if_true, if_false, m7, m8, m9, m10, m33, m34, m35, m36, m37, m38, m39, m40, m41, m42]
    rfl
  · simp only [wRS_1, wRS_2, nwS_1, nwS_l, nwS_c, up3_at, clr_at, up3_at, Nat.reduceEqDiff, false_and, and_false, and_true, true_and, and_self, eq_self, reduceIte, if_true, if_false, m7, m8, m9, m10, m33, m34, m35, m36, m37, m38, m39, m40, m41, m42]
  · simp only [wRS_1, wRS_2, nwS_1, nwS_l, nwS_c, up3_at, clr_at, up3_at, Nat.reduceEqDiff, false_and, and_false, and_true, true_and, and_self, eq_self, reduceIte, if_true, if_false, m7, m8, m9, m10, m33, m34, m35, m36, m37, m38, m39, m40, m41, m42]
    decide
  · simp only [wRS_1, wRS_2, nwS_1, nwS_l, nwS_c, up3_at, clr_at, up3_at, Nat.reduceEqDiff, false_and, and_false, and_true, true_and, and_self, eq_self, reduceIte, if_true, if_false, m7, m8, m9, m10, m33, m34, m35, m36, m37, m38, m39, m40, m41, m42]
    rfl
  · refine G4.tr (a := 189) (b := 4092) (c := 14) (e := 1231) ⟨fun t j k h => ?_, fun t j k h => ?_, fun t j h => ?_, fun t h => ?_, ?_, ?_⟩
    · skip
      have n0 : ¬ t = 0 := by rintro rfl; cases h
      have n7 : ¬ t = 7 := by rintro rfl; cases h
      have n8 : ¬ t = 8 := by rintro rfl; cases h
      have n9 : ¬ t = 9 := by rintro rfl; cases h
      have n10 : ¬ t = 10 := by rintro rfl; cases h
      have n33 : ¬ t = 33 := by rintro rfl; cases h
      have n34 : ¬ t = 34 := by rintro rfl; cases h
      have n35 : ¬ t = 35 := by rintro rfl; cases h
      have n36 : ¬ t = 36 := by rintro rfl; cases h
      have n37 : ¬ t = 37 := by rintro rfl; cases h
      have n38 : ¬ t = 38 := by rintro rfl; cases h
      have n39 : ¬ t = 39 := by rintro rfl; cases h
      have n40 : ¬ t = 40 := by rintro rfl; cases h
      have n41 : ¬ t = 41 := by rintro rfl; cases h
      have n42 : ¬ t = 42 := by rintro rfl; cases h
      simp only [up3_at, clr_at, n0, n7, n8, n9, n10, n33, n34, n35, n36, n37, n38, n39, n40, n41, n42, false_and, if_false]
    · skip
      have n0 : ¬ t = 0 := by rintro rfl; cases h
      have n7 : ¬ t = 7 := by rintro rfl; cases h
      have n8 : ¬ t = 8 := by rintro rfl; cases h
      have n9 : ¬ t = 9 := by rintro rfl; cases h
      have n10 : ¬ t = 10 := by rintro rfl; cases h
      have n33 : ¬ t = 33 := by rintro rfl; cases h
      have n34 : ¬ t = 34 := by rintro rfl; cases h
      have n35 : ¬ t = 35 := by rintro rfl; cases h
      have n36 : ¬ t = 36 := by rintro rfl; cases h
      have n37 : ¬ t = 37 := by rintro rfl; cases h
      have n38 : ¬ t = 38 := by rintro rfl; cases h
      have n39 : ¬ t = 39 := by rintro rfl; cases h
      have n40 : ¬ t = 40 := by rintro rfl; cases h
      have n41 : ¬ t = 41 := by rintro rfl; cases h
      have n42 : ¬ t = 42 := by rintro rfl; cases h
      simp only [wRS_1, wRS_2, nwS_1, n0, n7, n8, n9, n10, n33, n34, n35, n36, n37, n38, n39, n40, n41, n42, false_and, if_false]
    · skip
      have n0 : ¬ t = 0 := by rintro rfl; cases h
      have n7 : ¬ t = 7 := by rintro rfl; cases h
      have n8 : ¬ t = 8 := by rintro rfl; cases h
      have n9 : ¬ t = 9 := by rintro rfl; cases h
      have n10 : ¬ t = 10 := by rintro rfl; cases h
      have n33 : ¬ t = 33 := by rintro rfl; cases h
      have n34 : ¬ t = 34 := by rintro rfl; cases h
      have n35 : ¬ t = 35 := by rintro rfl; cases h
      have n36 : ¬ t = 36 := by rintro rfl; cases h
      have n37 : ¬ t = 37 := by rintro rfl; cases h
      have n38 : ¬ t = 38 := by rintro rfl; cases h
      have n39 : ¬ t = 39 := by rintro rfl; cases h
      have n40 : ¬ t = 40 := by rintro rfl; cases h
      have n41 : ¬ t = 41 := by rintro rfl; cases h
      have n42 : ¬ t = 42 := by rintro rfl; cases h
      simp only [wRS_2, nwS_l, n0, n7, n8, n9, n10, n33, n34, n35, n36, n37, n38, n39, n40, n41, n42, false_and, if_false]
    · skip
      have n0 : ¬ t = 0 := by rintro rfl; cases h
      have n7 : ¬ t = 7 := by rintro rfl; cases h
      have n8 : ¬ t = 8 := by rintro rfl; cases h
      have n9 : ¬ t = 9 := by rintro rfl; cases h
      have n10 : ¬ t = 10 := by rintro rfl; cases h
      have n33 : ¬ t = 33 := by rintro rfl; cases h
      have n34 : ¬ t = 34 := by rintro rfl; cases h
      have n35 : ¬ t = 35 := by rintro rfl; cases h
      have n36 : ¬ t = 36 := by rintro rfl; cases h
      have n37 : ¬ t = 37 := by rintro rfl; cases h
      have n38 : ¬ t = 38 := by rintro rfl; cases h
      have n39 : ¬ t = 39 := by rintro rfl; cases h
      have n40 : ¬ t = 40 := by rintro rfl; cases h
      have n41 : ¬ t = 41 := by rintro rfl; cases h
      have n42 : ¬ t = 42 := by rintro rfl; cases h
      simp only [wRS_2, nwS_c, n0, n7, n8, n9, n10, n33, n34, n35, n36, n37, n38, n39, n40, n41, n42, if_false]
    · simp only [wRS_2, nwS_N]
    · simp only [wRS_2, nwS_M]
end Made
