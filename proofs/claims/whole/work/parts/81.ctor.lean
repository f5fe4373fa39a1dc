/-! data made -/
def nwS (r : SR) (t n m : Nat) : SR := (nw ((fun _ _ _ => 0 : SF), r) t n m).2
def wRS (r : SR) (t i k : Nat) (v : AV) : SR := (up3 r.1 t i k v, r.2)
abbrev rC (r : SR) (t : Nat) : Nat := r.2.2.2.2.1 t
theorem nwS_mk {f : SF} {r : SR} {t n m : Nat} : nw (f, r) t n m = (clr f t (r.2.2.2.2.1 t) 0, nwS r t n m) := rfl
theorem wRS_mk {f : SF} {r : SR} {t i k : Nat} {v : AV} : wR (f, r) t i k v = (f, wRS r t i k v) := rfl
theorem wRS_1 {r : SR} {t i k a b c : Nat} {v : AV} : (wRS r t i k v).1 a b c = if a = t ∧ b = i ∧ c = k then v else r.1 a b c := rfl
theorem wRS_2 {r : SR} {t i k : Nat} {v : AV} : (wRS r t i k v).2 = r.2 := rfl
theorem nwS_1 {r : SR} {t n m a b c : Nat} : (nwS r t n m).1 a b c = if a = t ∧ b = r.2.2.2.2.1 t then .inl .null else r.1 a b c := rfl
theorem nwS_l {r : SR} {t n m a b : Nat} : (nwS r t n m).2.2.2.1 a b = if a = t ∧ b = r.2.2.2.2.1 t then n else r.2.2.2.1 a b := rfl
theorem nwS_c {r : SR} {t n m a : Nat} : (nwS r t n m).2.2.2.2.1 a = if a = t then r.2.2.2.2.1 t + 1 else r.2.2.2.2.1 a := rfl
theorem nwS_N {r : SR} {t n m : Nat} : (nwS r t n m).2.2.2.2.2.1 = r.2.2.2.2.2.1 + 1 := rfl
theorem nwS_M {r : SR} {t n m : Nat} : (nwS r t n m).2.2.2.2.2.2 = r.2.2.2.2.2.2 + m := rfl
theorem clr_at {f : SF} {t i a b c : Nat} : clr f t i 0 a b c = if a = t ∧ b = i then 0 else f a b c := rfl
def D0 : Dt := ([], [], fun _ => 0, fun _ => 10, 0, 0)
/-- data i made, with nothing in it -/
def CtD (i : Nat) (f : SF) (r : SR) (f' : SF) (r' : SR) : Prop := StD r' i ∧ LayD f' i D0 ∧ (∀ t j n, tgD t = false ∨ j ≠ i → f' t j n = f t j n) ∧ (∀ t j n, tgD t = false ∨ j ≠ i → r'.1 t j n = r.1 t j n) ∧ (∀ t j, tgD t = false ∨ j ≠ i → r'.2.2.2.1 t j = r.2.2.2.1 t j) ∧ (∀ t, r'.2.2.2.2.1 t = if tgD t = true ∧ t ≠ 1 then i + 1 else r.2.2.2.2.1 t) ∧ r'.2.2.2.2.2.1 = r.2.2.2.2.2.1 + 16 ∧ r'.2.2.2.2.2.2 = r.2.2.2.2.2.2 + 365
section Ctor
variable {d : Nat} {f : SF} {r : SR} {s : St} {Q : Ot → St → Prop}
theorem ob1 {m t i k : Nat} {l : List Nat} {is : List AI} {lv : List AV} : Ex d m ((.invokespecial k, 2, l) :: is) lv [vr t i] s Q ↔ Ex d m is lv [] s Q := ex_obj (by show 1 + 0 ≤ 8; decide)
theorem nwL {m t n k : Nat} {is : List AI} {lv st : List AV} : Ex d m ((.new k, 0, [t, n]) :: is) lv st (f, r) Q ↔ Ex d m is lv (vr t (r.2.2.2.2.1 t) :: st) (clr f t (r.2.2.2.2.1 t) 0, nwS r t 0 n) Q := ex_new
theorem naL {m t n : Nat} {x : Int32} {at_ : ArrayType} {is : List AI} {lv st : List AV} (hx : x = ik n) (hn : n < 65536) : Ex d m ((.newarray at_, 0, [t]) :: is) lv (vi x :: st) (f, r) Q ↔ Ex d m is lv (vr t (r.2.2.2.2.1 t) :: st) (clr f t (r.2.2.2.2.1 t) 0, nwS r t n n) Q := by
  subst hx
  have := ex_newa (mc := MC) (ml := ML) (hd := HD) (d := d) (m := m) (is := is) (lv := lv) (st := st) (s := (f, r)) (Q := Q) (v := 0) (t := t) (x := ik n) (at_ := at_) (by rw [ik_toInt (by omega)]; omega) (by rw [ik_toInt (by omega)]; omega)
  rw [ix_ik (by omega), nwS_mk] at this
  exact this
theorem prc_lp {i : Nat} (h1 : r.1 1 i 3 = vr 30 i) (h2 : r.2.2.2.1 30 i = 12) : ∀ (n k : Nat) (f : SF), k + n = 12 → (∀ f', (∀ j, k ≤ j → j < 12 → f' 30 i j = 10) → (∀ t b j, ¬ (t = 30 ∧ b = i ∧ k ≤ j ∧ j < 12) → f' t b j = f t b j) → Q (.inl none) (f', r)) → Jx d 53 1 [vr 1 i, vi (ik k)] [] (f, r) Q := by
  intro n
  induction n with
  | zero =>
    intro k f hk hq
    have : k = 12 := by omega
    subst this
    have hc : (12 : Int32) ≤ ik 12 := by decide
    rw [jb53_1]
    simp only [B53_1, ex_iconst, ex_bipush, ex_sipush, ex_ldc, ex_ldcs, ex_fconst, ex_dconst, ex_iload_n, ex_iload, ex_aload_n, ex_aload, ex_dload_n, ex_dload, ex_fload, ex_istore_n, ex_istore, ex_fstore, ex_dstore_n, ex_dstore, ex_astore_n, ex_astore, ex_iinc, ex_ginc, ex_pop_i, ex_pop_r, ex_dup_i, ex_dup_r, ex_dup_x1, ex_dup2, ex_iadd, ex_isub, ex_imul, ex_iand, ex_ior, ex_ixor, ex_ishl, ex_ishr, ex_idiv, ex_irem, ex_ineg, ex_i2l, ex_i2c, ex_i2b, ex_i2f, ex_i2d, ex_f2d, ex_fdiv, ex_ddiv, ex_lcmp, ex_dcmp, ex_getI, ex_getR, ex_putI, ex_putB, ex_putZ, ex_putR, ex_getsI, ex_getsR, ex_iald, ex_cald, ex_iast, ex_cast, ex_aast, ex_alen, ex_copy1, ex_copy2, ex_throw, ex_goto, ex_fall, ex_if_eq, ex_ic_eq, ex_if_ne, ex_ic_ne, ex_if_lt, ex_ic_lt, ex_if_ge, ex_ic_ge, ex_if_gt, ex_ic_gt, ex_if_le, ex_ic_le, ex_switch, ex_ireturn, ex_ireturn_z, ex_ireturn_b, ex_ireturn_c, ex_areturn, ex_freturn, ex_dreturn, ex_return, ex_is0, ex_is1, ex_is2, ex_is3, ex_is4, ex_is5, ex_is6, ex_is7, ex_iv1, ex_iv2, ex_iv3, ex_iv4, ex_iv5, ex_iv6, ex_iv7, ex_ip1, ex_ip2, ex_ip3, ex_ip4, ex_ip5, ex_ip6, ex_ip7, ex_iu1, ex_iu2, ex_iu3, ex_iu4, ex_iu5, ex_iu6, ex_iu7, List.getD_cons_zero, List.getD_cons_succ, List.set_cons_zero, List.set_cons_succ, isI_i, isA_r, isD_d, isF_f, GInc, ko_v, ko_n, cat_i2, cat_r2, cat_n2, cat_f2, cat_d2, cat_l2, Nat.zero_le, Nat.zero_add, Nat.le_refl, Nat.reduceAdd, Nat.reduceLeDiff, ne_eq, not_false_eq_true, Nat.reduceEqDiff, sI_mk, wI_mk, wCp_mk, Option.toList, List.nil_append, List.cons_append, kd_20, kd_21, kd_22, kd_23, kd_24, kd_25, kd_26, kd_27, kd_28, kd_29, kd_30, kd_31, kd_32, kd_33, kd_34, kd_35, kd_36, kd_37, kd_38, kd_39, kd_40, kd_41, kd_42, kd_43, kd_44, kd_45, kd_46, kd_47, kd_48, kd_49, kd_50, kd_51, kd_52, kd_53, kd_54, hc, if_true, jb53_2, B53_2]
    exact hq f (fun j a b => by omega) (fun _ _ _ _ => rfl)
  | succ n ih =>
    intro k f hk hq
    have hc : ¬ (12 : Int32) ≤ ik k := by rw [show (12 : Int32) = ik 12 from rfl, ik_le (by decide) (by omega)]; omega
    have e1 : sR (f, r) 1 i 3 = vr 30 i := h1
    have e2 : sL (f, r) 30 i = 12 := h2
    have i1 : inb (ik k) 12 := (inb_ik (by omega)).mpr (by omega)
    have x1 : ix (ik k) = k := ix_ik (by omega)
    rw [jb53_1]
    simp only [B53_1, ex_iconst, ex_bipush, ex_sipush, ex_ldc, ex_ldcs, ex_fconst, ex_dconst, ex_iload_n, ex_iload, ex_aload_n, ex_aload, ex_dload_n, ex_dload, ex_fload, ex_istore_n, ex_istore, ex_fstore, ex_dstore_n, ex_dstore, ex_astore_n, ex_astore, ex_iinc, ex_ginc, ex_pop_i, ex_pop_r, ex_dup_i, ex_dup_r, ex_dup_x1, ex_dup2, ex_iadd, ex_isub, ex_imul, ex_iand, ex_ior, ex_ixor, ex_ishl, ex_ishr, ex_idiv, ex_irem, ex_ineg, ex_i2l, ex_i2c, ex_i2b, ex_i2f, ex_i2d, ex_f2d, ex_fdiv, ex_ddiv, ex_lcmp, ex_dcmp, ex_getI, ex_getR, ex_putI, ex_putB, ex_putZ, ex_putR, ex_getsI, ex_getsR, ex_iald, ex_cald, ex_iast, ex_cast, ex_aast, ex_alen, ex_copy1, ex_copy2, ex_throw, ex_goto, ex_fall, ex_if_eq, ex_ic_eq, ex_if_ne, ex_ic_ne, ex_if_lt, ex_ic_lt, ex_if_ge, ex_ic_ge, ex_if_gt, ex_ic_gt, ex_if_le, ex_ic_le, ex_switch, ex_ireturn, ex_ireturn_z, ex_ireturn_b, ex_ireturn_c, ex_areturn, ex_freturn, ex_dreturn, ex_return, ex_is0, ex_is1, ex_is2, ex_is3, ex_is4, ex_is5, ex_is6, ex_is7, ex_iv1, ex_iv2, ex_iv3, ex_iv4, ex_iv5, ex_iv6, ex_iv7, ex_ip1, ex_ip2, ex_ip3, ex_ip4, ex_ip5, ex_ip6, ex_ip7, ex_iu1, ex_iu2, ex_iu3, ex_iu4, ex_iu5, ex_iu6, ex_iu7, List.getD_cons_zero, List.getD_cons_succ, List.set_cons_zero, List.set_cons_succ, isI_i, isA_r, isD_d, isF_f, GInc, ko_v, ko_n, cat_i2, cat_r2, cat_n2, cat_f2, cat_d2, cat_l2, Nat.zero_le, Nat.zero_add, Nat.le_refl, Nat.reduceAdd, Nat.reduceLeDiff, ne_eq, not_false_eq_true, Nat.reduceEqDiff, sI_mk, wI_mk, wCp_mk, Option.toList, List.nil_append, List.cons_append, kd_20, kd_21, kd_22, kd_23, kd_24, kd_25, kd_26, kd_27, kd_28, kd_29, kd_30, kd_31, kd_32, kd_33, kd_34, kd_35, kd_36, kd_37, kd_38, kd_39, kd_40, kd_41, kd_42, kd_43, kd_44, kd_45, kd_46, kd_47, kd_48, kd_49, kd_50, kd_51, kd_52, kd_53, kd_54, hc, if_false, e1, e2, i1, x1, ik_succ]
    refine ih (k + 1) _ (by omega) (fun f' a b => hq f' (fun j h1 h2 => ?_) (fun t c j hn => ?_))
    · by_cases hj : j = k
      · rw [b _ _ _ (by omega), up3_at, if_pos ⟨rfl, rfl, hj⟩]
      · exact a j (by omega) h2
    · rw [b _ _ _ (by omega), up3_at, if_neg (by omega)]
set_option maxHeartbeats 1000000 in
theorem ct53 {i : Nat} (hc : ∀ t, tgD t = true → t ≠ 1 → r.2.2.2.2.1 t = i) (hq : ∀ f' r', CtD i f r f' r' → Q (.inl none) (f', r')) : Cl (d + 2) 53 [vr 1 i] (f, r) Q := by
  have c2 := hc 2 rfl (by decide)
  have c3 := hc 3 rfl (by decide)
  have c4 := hc 4 rfl (by decide)
  have c5 := hc 5 rfl (by decide)
  have c20 := hc 20 rfl (by decide)
  have c21 := hc 21 rfl (by decide)
  have c22 := hc 22 rfl (by decide)
  have c23 := hc 23 rfl (by decide)
  have c24 := hc 24 rfl (by decide)
  have c25 := hc 25 rfl (by decide)
  have c26 := hc 26 rfl (by decide)
  have c27 := hc 27 rfl (by decide)
  have c28 := hc 28 rfl (by decide)
  have c29 := hc 29 rfl (by decide)
  have c30 := hc 30 rfl (by decide)
  have c31 := hc 31 rfl (by decide)
  have n5 := fun {m t : Nat} {at_ : ArrayType} {is : List AI} {lv st : List AV} (f : SF) (r : SR) Q => naL (d := d) (f := f) (r := r) (Q := Q) (m := m) (t := t) (at_ := at_) (is := is) (lv := lv) (st := st) (x := 5) (n := 5) rfl (by decide)
  have n50 := fun {m t : Nat} {at_ : ArrayType} {is : List AI} {lv st : List AV} (f : SF) (r : SR) Q => naL (d := d) (f := f) (r := r) (Q := Q) (m := m) (t := t) (at_ := at_) (is := is) (lv := lv) (st := st) (x := 50) (n := 50) rfl (by decide)
  have n10 := fun {m t : Nat} {at_ : ArrayType} {is : List AI} {lv st : List AV} (f : SF) (r : SR) Q => naL (d := d) (f := f) (r := r) (Q := Q) (m := m) (t := t) (at_ := at_) (is := is) (lv := lv) (st := st) (x := 10) (n := 10) rfl (by decide)
  have n12 := fun {m t : Nat} {at_ : ArrayType} {is : List AI} {lv st : List AV} (f : SF) (r : SR) Q => naL (d := d + 1) (f := f) (r := r) (Q := Q) (m := m) (t := t) (at_ := at_) (is := is) (lv := lv) (st := st) (x := 12) (n := 12) rfl (by decide)
  rw [en53]
  simp only [B53_0, ex_iconst, ex_bipush, ex_sipush, ex_ldc, ex_ldcs, ex_fconst, ex_dconst, ex_iload_n, ex_iload, ex_aload_n, ex_aload, ex_dload_n, ex_dload, ex_fload, ex_istore_n, ex_istore, ex_fstore, ex_dstore_n, ex_dstore, ex_astore_n, ex_astore, ex_iinc, ex_ginc, ex_pop_i, ex_pop_r, ex_dup_i, ex_dup_r, ex_dup_x1, ex_dup2, ex_iadd, ex_isub, ex_imul, ex_iand, ex_ior, ex_ixor, ex_ishl, ex_ishr, ex_idiv, ex_irem, ex_ineg, ex_i2l, ex_i2c, ex_i2b, ex_i2f, ex_i2d, ex_f2d, ex_fdiv, ex_ddiv, ex_lcmp, ex_dcmp, ex_getI, ex_getR, ex_putI, ex_putB, ex_putZ, ex_putR, ex_getsI, ex_getsR, ex_iald, ex_cald, ex_iast, ex_cast, ex_aast, ex_alen, ex_copy1, ex_copy2, ex_throw, ex_goto, ex_fall, ex_if_eq, ex_ic_eq, ex_if_ne, ex_ic_ne, ex_if_lt, ex_ic_lt, ex_if_ge, ex_ic_ge, ex_if_gt, ex_ic_gt, ex_if_le, ex_ic_le, ex_switch, ex_ireturn, ex_ireturn_z, ex_ireturn_b, ex_ireturn_c, ex_areturn, ex_freturn, ex_dreturn, ex_return, ex_is0, ex_is1, ex_is2, ex_is3, ex_is4, ex_is5, ex_is6, ex_is7, ex_iv1, ex_iv2, ex_iv3, ex_iv4, ex_iv5, ex_iv6, ex_iv7, ex_ip1, ex_ip2, ex_ip3, ex_ip4, ex_ip5, ex_ip6, ex_ip7, ex_iu1, ex_iu2, ex_iu3, ex_iu4, ex_iu5, ex_iu6, ex_iu7, List.getD_cons_zero, List.getD_cons_succ, List.set_cons_zero, List.set_cons_succ, isI_i, isA_r, isD_d, isF_f, GInc, ko_v, ko_n, cat_i2, cat_r2, cat_n2, cat_f2, cat_d2, cat_l2, Nat.zero_le, Nat.zero_add, Nat.le_refl, Nat.reduceAdd, Nat.reduceLeDiff, ne_eq, not_false_eq_true, Nat.reduceEqDiff, sI_mk, wI_mk, wCp_mk, Option.toList, List.nil_append, List.cons_append, kd_20, kd_21, kd_22, kd_23, kd_24, kd_25, kd_26, kd_27, kd_28, kd_29, kd_30, kd_31, kd_32, kd_33, kd_34, kd_35, kd_36, kd_37, kd_38, kd_39, kd_40, kd_41, kd_42, kd_43, kd_44, kd_45, kd_46, kd_47, kd_48, kd_49, kd_50, kd_51, kd_52, kd_53, kd_54, ob1, nwL, n5, n50, n10, n12, en33, B33_0, en37, B37_0, en47, B47_0, en49, B49_0, nwS_c, wRS_mk, wRS_2, Nat.reduceEqDiff, if_false, c2, c3, c4, c5, c20, c21, c22, c23, c24, c25, c26, c27, c28, c29, c30, c31]
  refine prc_lp ?_ ?_ 12 0 _ rfl (fun f' a b => hq f' _ ⟨?_, ⟨⟨?_, Nat.zero_le _, fun k x hk => absurd hk (by show ¬ ([] : List Bn)[k]? = some x; simp)⟩, ⟨?_, Nat.zero_le _, fun k x hk => absurd hk (by show ¬ ([] : List Sk)[k]? = some x; simp)⟩, fun k hk => ?_, fun k hk => a k (Nat.zero_le _) hk, ?_, ?_⟩, fun t j n hn => ?_, fun t j n hn => ?_, fun t j hn => ?_, fun t => ?_, ?_, ?_⟩)
  · simp only [wRS_1, wRS_2, nwS_1, nwS_l, nwS_c, up3_at, clr_at, up3_at, Nat.reduceEqDiff, false_and, and_false, and_true, true_and, and_self, eq_self, reduceIte, if_true, if_false, c2, c3, c4, c5, c20, c21, c22, c23, c24, c25, c26, c27, c28, c29, c30, c31]
  · simp only [wRS_1, wRS_2, nwS_1, nwS_l, nwS_c, up3_at, clr_at, up3_at, Nat.reduceEqDiff, false_and, and_false, and_true, true_and, and_self, eq_self, reduceIte, if_true, if_false, c2, c3, c4, c5, c20, c21, c22, c23, c24, c25, c26, c27, c28, c29, c30, c31]
  · unfold StD
    simp only [wRS_1, wRS_2, nwS_1, nwS_l, nwS_c, up3_at, clr_at, up3_at, Nat.reduceEqDiff, false_and, and_false, and_true, true_and, and_self, eq_self, reduceIte, if_true, if_false, c2, c3, c4, c5, c20, c21, c22, c23, c24, c25, c26, c27, c28, c29, c30, c31]
  · rw [b _ _ _ (by omega)]
    simp only [wRS_1, wRS_2, nwS_1, nwS_l, nwS_c, up3_at, clr_at, up3_at, Nat.reduceEqDiff, false_and, and_false, and_true, true_and, and_self, eq_self, reduceIte, if_true, if_false, c2, c3, c4, c5, c20, c21, c22, c23, c24, c25, c26, c27, c28, c29, c30, c31]
    rfl
  · rw [b _ _ _ (by omega)]
    simp only [wRS_1, wRS_2, nwS_1, nwS_l, nwS_c, up3_at, clr_at, up3_at, Nat.reduceEqDiff, false_and, and_false, and_true, true_and, and_self, eq_self, reduceIte, if_true, if_false, c2, c3, c4, c5, c20, c21, c22, c23, c24, c25, c26, c27, c28, c29, c30, c31]
    rfl
  · rw [b _ _ _ (by omega)]
    rcases (show k = 0 ∨ k = 1 ∨ k = 2 ∨ k = 3 ∨ k = 4 ∨ k = 5 ∨ k = 6 ∨ k = 7 by omega) with rfl | rfl | rfl | rfl | rfl | rfl | rfl | rfl <;> simp only [wRS_1, wRS_2, nwS_1, nwS_l, nwS_c, up3_at, clr_at, up3_at, Nat.reduceEqDiff, false_and, and_false, and_true, true_and, and_self, eq_self, reduceIte, if_true, if_false, c2, c3, c4, c5, c20, c21, c22, c23, c24, c25, c26, c27, c28, c29, c30, c31] <;> rfl
  · rw [b _ _ _ (by omega)]
    simp only [wRS_1, wRS_2, nwS_1, nwS_l, nwS_c, up3_at, clr_at, up3_at, Nat.reduceEqDiff, false_and, and_false, and_true, true_and, and_self, eq_self, reduceIte, if_true, if_false, c2, c3, c4, c5, c20, c21, c22, c23, c24, c25, c26, c27, c28, c29, c30, c31]
    rfl
  · rw [b _ _ _ (by omega)]
    simp only [wRS_1, wRS_2, nwS_1, nwS_l, nwS_c, up3_at, clr_at, up3_at, Nat.reduceEqDiff, false_and, and_false, and_true, true_and, and_self, eq_self, reduceIte, if_true, if_false, c2, c3, c4, c5, c20, c21, c22, c23, c24, c25, c26, c27, c28, c29, c30, c31]
    rfl
  · have hh : ∀ u, tgD u = true → ¬ (t = u ∧ j = i) := fun u hu z => by
      rcases hn with hn | hn
      · rw [z.1, hu] at hn; cases hn
      · exact hn z.2
    have h1 : ¬ (t = 1 ∧ j = i) := hh 1 rfl
    have g1 : ∀ m, ¬ (t = 1 ∧ j = i ∧ n = m) := fun m z => h1 ⟨z.1, z.2.1⟩
    have h2 : ¬ (t = 2 ∧ j = i) := hh 2 rfl
    have g2 : ∀ m, ¬ (t = 2 ∧ j = i ∧ n = m) := fun m z => h2 ⟨z.1, z.2.1⟩
    have h3 : ¬ (t = 3 ∧ j = i) := hh 3 rfl
    have g3 : ∀ m, ¬ (t = 3 ∧ j = i ∧ n = m) := fun m z => h3 ⟨z.1, z.2.1⟩
    have h4 : ¬ (t = 4 ∧ j = i) := hh 4 rfl
    have g4 : ∀ m, ¬ (t = 4 ∧ j = i ∧ n = m) := fun m z => h4 ⟨z.1, z.2.1⟩
    have h5 : ¬ (t = 5 ∧ j = i) := hh 5 rfl
    have g5 : ∀ m, ¬ (t = 5 ∧ j = i ∧ n = m) := fun m z => h5 ⟨z.1, z.2.1⟩
    have h20 : ¬ (t = 20 ∧ j = i) := hh 20 rfl
    have g20 : ∀ m, ¬ (t = 20 ∧ j = i ∧ n = m) := fun m z => h20 ⟨z.1, z.2.1⟩
    have h21 : ¬ (t = 21 ∧ j = i) := hh 21 rfl
    have g21 : ∀ m, ¬ (t = 21 ∧ j = i ∧ n = m) := fun m z => h21 ⟨z.1, z.2.1⟩
    have h22 : ¬ (t = 22 ∧ j = i) := hh 22 rfl
    have g22 : ∀ m, ¬ (t = 22 ∧ j = i ∧ n = m) := fun m z => h22 ⟨z.1, z.2.1⟩
    have h23 : ¬ (t = 23 ∧ j = i) := hh 23 rfl
    have g23 : ∀ m, ¬ (t = 23 ∧ j = i ∧ n = m) := fun m z => h23 ⟨z.1, z.2.1⟩
    have h24 : ¬ (t = 24 ∧ j = i) := hh 24 rfl
    have g24 : ∀ m, ¬ (t = 24 ∧ j = i ∧ n = m) := fun m z => h24 ⟨z.1, z.2.1⟩
    have h25 : ¬ (t = 25 ∧ j = i) := hh 25 rfl
    have g25 : ∀ m, ¬ (t = 25 ∧ j = i ∧ n = m) := fun m z => h25 ⟨z.1, z.2.1⟩
    have h26 : ¬ (t = 26 ∧ j = i) := hh 26 rfl
    have g26 : ∀ m, ¬ (t = 26 ∧ j = i ∧ n = m) := fun m z => h26 ⟨z.1, z.2.1⟩
    have h27 : ¬ (t = 27 ∧ j = i) := hh 27 rfl
    have g27 : ∀ m, ¬ (t = 27 ∧ j = i ∧ n = m) := fun m z => h27 ⟨z.1, z.2.1⟩
    have h28 : ¬ (t = 28 ∧ j = i) := hh 28 rfl
    have g28 : ∀ m, ¬ (t = 28 ∧ j = i ∧ n = m) := fun m z => h28 ⟨z.1, z.2.1⟩
    have h29 : ¬ (t = 29 ∧ j = i) := hh 29 rfl
    have g29 : ∀ m, ¬ (t = 29 ∧ j = i ∧ n = m) := fun m z => h29 ⟨z.1, z.2.1⟩
    have h30 : ¬ (t = 30 ∧ j = i) := hh 30 rfl
    have g30 : ∀ m, ¬ (t = 30 ∧ j = i ∧ n = m) := fun m z => h30 ⟨z.1, z.2.1⟩
    have h31 : ¬ (t = 31 ∧ j = i) := hh 31 rfl
    have g31 : ∀ m, ¬ (t = 31 ∧ j = i ∧ n = m) := fun m z => h31 ⟨z.1, z.2.1⟩
    rw [b _ _ _ (fun z => h30 ⟨z.1, z.2.1⟩)]
    simp only [up3_at, clr_at, h1, h2, h3, h4, h5, h20, h21, h22, h23, h24, h25, h26, h27, h28, h29, h30, h31, g1, g2, g3, g4, g5, g20, g21, g22, g23, g24, g25, g26, g27, g28, g29, g30, g31, if_false]
  · have hh : ∀ u, tgD u = true → ¬ (t = u ∧ j = i) := fun u hu z => by
      rcases hn with hn | hn
      · rw [z.1, hu] at hn; cases hn
      · exact hn z.2
    have h1 : ¬ (t = 1 ∧ j = i) := hh 1 rfl
    have g1 : ∀ m, ¬ (t = 1 ∧ j = i ∧ n = m) := fun m z => h1 ⟨z.1, z.2.1⟩
    have h2 : ¬ (t = 2 ∧ j = i) := hh 2 rfl
    have g2 : ∀ m, ¬ (t = 2 ∧ j = i ∧ n = m) := fun m z => h2 ⟨z.1, z.2.1⟩
    have h3 : ¬ (t = 3 ∧ j = i) := hh 3 rfl
    have g3 : ∀ m, ¬ (t = 3 ∧ j = i ∧ n = m) := fun m z => h3 ⟨z.1, z.2.1⟩
    have h4 : ¬ (t = 4 ∧ j = i) := hh 4 rfl
    have g4 : ∀ m, ¬ (t = 4 ∧ j = i ∧ n = m) := fun m z => h4 ⟨z.1, z.2.1⟩
    have h5 : ¬ (t = 5 ∧ j = i) := hh 5 rfl
    have g5 : ∀ m, ¬ (t = 5 ∧ j = i ∧ n = m) := fun m z => h5 ⟨z.1, z.2.1⟩
    have h20 : ¬ (t = 20 ∧ j = i) := hh 20 rfl
    have g20 : ∀ m, ¬ (t = 20 ∧ j = i ∧ n = m) := fun m z => h20 ⟨z.1, z.2.1⟩
    have h21 : ¬ (t = 21 ∧ j = i) := hh 21 rfl
    have g21 : ∀ m, ¬ (t = 21 ∧ j = i ∧ n = m) := fun m z => h21 ⟨z.1, z.2.1⟩
    have h22 : ¬ (t = 22 ∧ j = i) := hh 22 rfl
    have g22 : ∀ m, ¬ (t = 22 ∧ j = i ∧ n = m) := fun m z => h22 ⟨z.1, z.2.1⟩
    have h23 : ¬ (t = 23 ∧ j = i) := hh 23 rfl
    have g23 : ∀ m, ¬ (t = 23 ∧ j = i ∧ n = m) := fun m z => h23 ⟨z.1, z.2.1⟩
    have h24 : ¬ (t = 24 ∧ j = i) := hh 24 rfl
    have g24 : ∀ m, ¬ (t = 24 ∧ j = i ∧ n = m) := fun m z => h24 ⟨z.1, z.2.1⟩
    have h25 : ¬ (t = 25 ∧ j = i) := hh 25 rfl
    have g25 : ∀ m, ¬ (t = 25 ∧ j = i ∧ n = m) := fun m z => h25 ⟨z.1, z.2.1⟩
    have h26 : ¬ (t = 26 ∧ j = i) := hh 26 rfl
    have g26 : ∀ m, ¬ (t = 26 ∧ j = i ∧ n = m) := fun m z => h26 ⟨z.1, z.2.1⟩
    have h27 : ¬ (t = 27 ∧ j = i) := hh 27 rfl
    have g27 : ∀ m, ¬ (t = 27 ∧ j = i ∧ n = m) := fun m z => h27 ⟨z.1, z.2.1⟩
    have h28 : ¬ (t = 28 ∧ j = i) := hh 28 rfl
    have g28 : ∀ m, ¬ (t = 28 ∧ j = i ∧ n = m) := fun m z => h28 ⟨z.1, z.2.1⟩
    have h29 : ¬ (t = 29 ∧ j = i) := hh 29 rfl
    have g29 : ∀ m, ¬ (t = 29 ∧ j = i ∧ n = m) := fun m z => h29 ⟨z.1, z.2.1⟩
    have h30 : ¬ (t = 30 ∧ j = i) := hh 30 rfl
    have g30 : ∀ m, ¬ (t = 30 ∧ j = i ∧ n = m) := fun m z => h30 ⟨z.1, z.2.1⟩
    have h31 : ¬ (t = 31 ∧ j = i) := hh 31 rfl
    have g31 : ∀ m, ¬ (t = 31 ∧ j = i ∧ n = m) := fun m z => h31 ⟨z.1, z.2.1⟩
    simp only [wRS_1, wRS_2, nwS_1, nwS_c, Nat.reduceEqDiff, if_false, c2, c3, c4, c5, c20, c21, c22, c23, c24, c25, c26, c27, c28, c29, c30, c31, h1, h2, h3, h4, h5, h20, h21, h22, h23, h24, h25, h26, h27, h28, h29, h30, h31, g1, g2, g3, g4, g5, g20, g21, g22, g23, g24, g25, g26, g27, g28, g29, g30, g31]
  · have hh : ∀ u, tgD u = true → ¬ (t = u ∧ j = i) := fun u hu z => by
      rcases hn with hn | hn
      · rw [z.1, hu] at hn; cases hn
      · exact hn z.2
    have h1 : ¬ (t = 1 ∧ j = i) := hh 1 rfl
    have h2 : ¬ (t = 2 ∧ j = i) := hh 2 rfl
    have h3 : ¬ (t = 3 ∧ j = i) := hh 3 rfl
    have h4 : ¬ (t = 4 ∧ j = i) := hh 4 rfl
    have h5 : ¬ (t = 5 ∧ j = i) := hh 5 rfl
    have h20 : ¬ (t = 20 ∧ j = i) := hh 20 rfl
    have h21 : ¬ (t = 21 ∧ j = i) := hh 21 rfl
    have h22 : ¬ (t = 22 ∧ j = i) := hh 22 rfl
    have h23 : ¬ (t = 23 ∧ j = i) := hh 23 rfl
    have h24 : ¬ (t = 24 ∧ j = i) := hh 24 rfl
    have h25 : ¬ (t = 25 ∧ j = i) := hh 25 rfl
    have h26 : ¬ (t = 26 ∧ j = i) := hh 26 rfl
    have h27 : ¬ (t = 27 ∧ j = i) := hh 27 rfl
    have h28 : ¬ (t = 28 ∧ j = i) := hh 28 rfl
    have h29 : ¬ (t = 29 ∧ j = i) := hh 29 rfl
    have h30 : ¬ (t = 30 ∧ j = i) := hh 30 rfl
    have h31 : ¬ (t = 31 ∧ j = i) := hh 31 rfl
    simp only [wRS_2, nwS_l, nwS_c, Nat.reduceEqDiff, if_false, c2, c3, c4, c5, c20, c21, c22, c23, c24, c25, c26, c27, c28, c29, c30, c31, h1, h2, h3, h4, h5, h20, h21, h22, h23, h24, h25, h26, h27, h28, h29, h30, h31]
  · by_cases ht : tgD t = true ∧ t ≠ 1
    · rw [if_pos ht]
      rcases (show t = 2 ∨ t = 3 ∨ t = 4 ∨ t = 5 ∨ t = 20 ∨ t = 21 ∨ t = 22 ∨ t = 23 ∨ t = 24 ∨ t = 25 ∨ t = 26 ∨ t = 27 ∨ t = 28 ∨ t = 29 ∨ t = 30 ∨ t = 31 by have h1 := ht.1; have h2 := ht.2; simp [tgD] at h1; omega) with rfl | rfl | rfl | rfl | rfl | rfl | rfl | rfl | rfl | rfl | rfl | rfl | rfl | rfl | rfl | rfl <;> simp only [wRS_2, nwS_c, Nat.reduceEqDiff, if_false, if_true, c2, c3, c4, c5, c20, c21, c22, c23, c24, c25, c26, c27, c28, c29, c30, c31]
    · rw [if_neg ht]
      have hh : ∀ u, tgD u = true → u ≠ 1 → ¬ t = u := fun u hu h1 z => ht ⟨by rw [z]; exact hu, by rw [z]; exact h1⟩
      have h2 := hh 2 rfl (by decide)
      have h3 := hh 3 rfl (by decide)
      have h4 := hh 4 rfl (by decide)
      have h5 := hh 5 rfl (by decide)
      have h20 := hh 20 rfl (by decide)
      have h21 := hh 21 rfl (by decide)
      have h22 := hh 22 rfl (by decide)
      have h23 := hh 23 rfl (by decide)
      have h24 := hh 24 rfl (by decide)
      have h25 := hh 25 rfl (by decide)
      have h26 := hh 26 rfl (by decide)
      have h27 := hh 27 rfl (by decide)
      have h28 := hh 28 rfl (by decide)
      have h29 := hh 29 rfl (by decide)
      have h30 := hh 30 rfl (by decide)
      have h31 := hh 31 rfl (by decide)
      simp only [wRS_2, nwS_c, h2, h3, h4, h5, h20, h21, h22, h23, h24, h25, h26, h27, h28, h29, h30, h31, if_false]
  · simp only [wRS_2, nwS_N]
  · simp only [wRS_2, nwS_M]
end Ctor
