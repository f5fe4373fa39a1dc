/-! data made -/
def nwS (r : SR) (t n m : Nat) : SR := (nw ((fun _ _ _ => 0 : SF), r) t n m).2
def wRS (r : SR) (t i k : Nat) (v : AV) : SR := (up3 r.1 t i k v, r.2)
abbrev rC (r : SR) (t : Nat) : Nat := r.2.2.2.2.1 t
theorem nwS_mk {f : SF} {r : SR} {t n m : Nat} : nw (f, r) t n m = (clr f t (r.2.2.2.2.1 t) 0, nwS r t n m) := rfl
theorem wRS_mk {f : SF} {r : SR} {t i k : Nat} {v : AV} : wR (f, r) t i k v = (f, wRS r t i k v) := rfl
theorem wRS_1 {r : SR} {t i k a b c : Nat} {v : AV} : (wRS r t i k v).1 a b c = if a = t ∧ b = i ∧ c = k then v else r.1 a b c := rfl
theorem wRS_2 {r : SR} {t i k : Nat} {v : AV} : (wRS r t i k v).2 = r.2 := rfl
theorem nwS_1 {r : SR} {t n m a b c : Nat} : (nwS r t n m).1 a b c = if a = t ∧ b = r.2.2.2.2.1 t then .inl .null else r.1 a b c := rfl
theorem nwS_l {r : SR} {t n m a b : Nat} : (nwS r t n m).2.2.2.1 a b = if a = t ∧ b = r.2.2.2.2.1 t then n else r.2.2.2.1 a b := rfl
theorem nwS_c {r : SR} {t n m a : Nat} : (nwS r t n m).2.2.2.2.1 a = if a = t then r.2.2.2.2.1 t + 1 else r.2.2.2.2.1 a := rfl
theorem nwS_N {r : SR} {t n m : Nat} : (nwS r t n m).2.2.2.2.2.1 = r.2.2.2.2.2.1 + 1 := rfl
theorem nwS_M {r : SR} {t n m : Nat} : (nwS r t n m).2.2.2.2.2.2 = r.2.2.2.2.2.2 + m := rfl
theorem clr_at {f : SF} {t i a b c : Nat} : clr f t i 0 a b c = if a = t ∧ b = i then 0 else f a b c := rfl
def D0 : Dt := ([], [], fun _ => 0, fun _ => 10, 0, 0)
/-- data i made, with nothing in it -/
def CtD (i : Nat) (f : SF) (r : SR) (f' : SF) (r' : SR) : Prop := StD r' i ∧ LayD f' i D0 ∧ (∀ t j n, tgD t = false ∨ j ≠ i → f' t j n = f t j n) ∧ (∀ t j n, tgD t = false ∨ j ≠ i → r'.1 t j n = r.1 t j n) ∧ (∀ t j, tgD t = false ∨ j ≠ i → r'.2.2.2.1 t j = r.2.2.2.1 t j) ∧ (∀ t, r'.2.2.2.2.1 t = if tgD t = true ∧ t ≠ 1 then i + 1 else r.2.2.2.2.1 t) ∧ r'.2.2.2.2.2.1 = r.2.2.2.2.2.1 + 16 ∧ r'.2.2.2.2.2.2 = r.2.2.2.2.2.2 + 365
section Ctor
variable {d : Nat} {f : SF} {r : SR} {s : St} {Q : Ot → St → Prop}
theorem ob1 {m t i k : Nat} {l : List Nat} {is : List AI} {lv : List AV} : Ex d m ((.invokespecial k, 2, l) :: is) lv [vr t i] s Q ↔ Ex d m is lv [] s Q := ex_obj (by show 1 + 0 ≤ 8; decide)
theorem nwL {m t n k : Nat} {is : List AI} {lv st : List AV} : Ex d m ((.new k, 0, [t, n]) :: is) lv st (f, r) Q ↔ Ex d m is lv (vr t (r.2.2.2.2.1 t) :: st) (clr f t (r.2.2.2.2.1 t) 0, nwS r t 0 n) Q := ex_new
theorem naL {m t n : Nat} {x : Int32} {at_ : ArrayType} {is : List AI} {lv st : List AV} (hx : x = ik n) (hn : n < 65536) : Ex d m ((.newarray at_, 0, [t]) :: is) lv (vi x :: st) (f, r) Q ↔ Ex d m is lv (vr t (r.2.2.2.2.1 t) :: st) (clr f t (r.2.2.2.2.1 t) 0, nwS r t n n) Q := by
  subst hx
  have := ex_newa (mc := MC) (ml := ML) (hd := HD) (d := d) (m := m) (is := is) (lv := lv) (st := st) (s := (f, r)) (Q := Q) (v := 0) (t := t) (x := ik n) (at_ := at_) (by rw [ik_toInt (by omega)]; omega) (by rw [ik_toInt (by omega)]; omega)
  rw [ix_ik (by omega), nwS_mk] at this
  exact this
theorem prc_lp {i : Nat} (h1 : r.1 1 i 3 = vr 30 i) (h2 : r.2.2.2.1 30 i = 12) : ∀ (n k : Nat) (f : SF), k + n = 12 → (∀ f', (∀ j, k ≤ j → j < 12 → f' 30 i j = 10) → (∀ t b j, ¬ (t = 30 ∧ b = i ∧ k ≤ j ∧ j < 12) → f' t b j = f t b j) → Q (.inl none) (f', r)) → Jx d 53 1 [vr 1 i, vi (ik k)] [] (f, r) Q := by
  intro n
  induction n with
  | zero =>
    intro k f hk hq
    have : k = 12 := by omega
    subst this
    have hc : (12 : Int32) ≤ ik 12 := by decide
    rw [jb53_1]
    simp only [B53_1, ex_iconst, ex_bipush, ex_sipush, ex_ldc, ex_ldcs, ex_fconst, ex_dconst, ex_iload_n, ex_iload, ex_aload_n, ex_aload, ex_dload_n, ex_dload, ex_fload, ex_istore_n, ex_istore, ex_fstore, ex_dstore_n, ex_dstore, ex_astore_n, ex_astore, ex_iinc, ex_ginc, ex_pop_i, ex_pop_r, ex_dup_i, ex_dup_r, ex_dup_x1, ex_dup2, ex_iadd, ex_isub, ex_imul, ex_iand, ex_ior, ex_ixor, ex_ishl, ex_ishr, ex_idiv, ex_irem, ex_ineg, ex_i2l, ex_i2c, ex_i2b, ex_i2f, ex_i2d, ex_f2d, ex_fdiv, ex_ddiv, ex_lcmp, ex_dcmp, ex_getI, ex_getR, ex_putI, ex_putB, ex_putZ, ex_putR, ex_getsI, ex_getsR, ex_iald, ex_cald, ex_iast, ex_cast, ex_aast, ex_alen, ex_copy1, ex_copy2, ex_throw, ex_goto, ex_fall, ex_if_eq, ex_ic_eq, ex_if_ne, ex_ic_ne, ex_if_lt, ex_ic_lt, ex_if_ge, ex_ic_ge, ex_if_gt, ex_ic_gt, ex_if_le, ex_ic_le, ex_switch, ex_ireturn, ex_ireturn_z, ex_ireturn_b, ex_ireturn_c, ex_areturn, ex_freturn, ex_dreturn, ex_return, ex_is0, ex_is1, ex_is2, ex_is3, ex_is4, ex_is5, ex_is6, ex_is7, ex_iv1, ex_iv2, ex_iv3, ex_iv4, ex_iv5, ex_iv6, ex_iv7, ex_ip1, ex_ip2, ex_ip3, ex_ip4, ex_ip5, ex_ip6, ex_ip7, ex_iu1, ex_iu2, ex_iu3, ex_iu4, ex_iu5, ex_iu6, ex_iu7, List.getD_cons_zero, List.getD_cons_succ, List.set_cons_zero, List.set_cons_succ, isI_i, isA_r, isD_d, isF_f, GInc, ko_v, ko_n, cat_i2, cat_r2, cat_n2, cat_f2, cat_d2, cat_l2, Nat.zero_le, Nat.zero_add, Nat.le_refl, Nat.reduceAdd, Nat.reduceLeDiff, ne_eq, not_false_eq_true, Nat.reduceEqDiff, sI_mk, wI_mk, wCp_mk, Option.toList, List.nil_append, List.cons_append, kd_20, kd_21, kd_22, kd_23, kd_24, kd_25, kd_26, kd_27, kd_28, kd_29, kd_30, kd_31, kd_32, kd_33, kd_34, kd_35, kd_36, kd_37, kd_38, kd_39, kd_40, kd_41, kd_42, kd_43, kd_44, kd_45, kd_46, kd_47, kd_48, kd_49, kd_50, kd_51, kd_52, kd_53, kd_54, hc, if_true, jb53_2, B53_2]
    exact hq f (fun j a b => by omega) (fun _ _ _ _ => rfl)
  | succ n ih =>
    intro k f hk hq
    have hc : ¬ (12 : Int32) ≤ ik k := by rw [show (12 : Int32) = ik 12 from rfl, ik_le (by decide) (by omega)]; omega
    have e1 : sR (f, r) 1 i 3 = vr 30 i := h1
    have e2 : sL (f, r) 30 i = 12 := h2
    have i1 : inb (ik k) 12 := (inb_ik (by omega)).mpr (by omega)
    have x1 : ix (ik k) = k := ix_ik (by omega)
    rw [jb53_1]
    simp only [B53_1, ex_iconst, ex_bipush, ex_sipush, ex_ldc, ex_ldcs, ex_fconst, ex_dconst, ex_iload_n, ex_iload, ex_aload_n, ex_aload, ex_dload_n, ex_dload, ex_fload, ex_istore_n, ex_istore, ex_fstore, ex_dstore_n, ex_dstore, ex_astore_n, ex_astore, ex_iinc, ex_ginc, ex_pop_i, ex_pop_r, ex_dup_i, ex_dup_r, ex_dup_x1, ex_dup2, ex_iadd, ex_isub, ex_imul, ex_iand, ex_ior, ex_ixor, ex_ishl, ex_ishr, ex_idiv, ex_irem, ex_ineg, ex_i2l, ex_i2c, ex_i2b, ex_i2f, ex_i2d, ex_f2d, ex_fdiv, ex_ddiv, ex_lcmp, ex_dcmp, ex_getI, ex_getR, ex_putI, ex_putB, ex_putZ, ex_putR, ex_getsI, ex_getsR, ex_iald, ex_cald, ex_iast, ex_cast, ex_aast, ex_alen, ex_copy1, ex_copy2, ex_throw, ex_goto, ex_fall, ex_if_eq, ex_ic_eq, ex_if_ne, ex_ic_ne, ex_if_lt, ex_ic_lt, ex_if_ge, ex_ic_ge, ex_if_gt, ex_ic_gt, ex_if_le, ex_ic_le, ex_switch, ex_ireturn, ex_ireturn_z, ex_ireturn_b, ex_ireturn_c, ex_areturn, ex_freturn, ex_dreturn, ex_return, ex_is0, ex_is1, ex_is2, ex_is3, ex_is4, ex_is5, ex_is6, ex_is7, ex_iv1, ex_iv2, ex_iv3, ex_iv4, ex_iv5, ex_iv6, ex_iv7, ex_ip1, ex_ip2, ex_ip3, ex_ip4, ex_ip5, ex_ip6, ex_ip7, ex_iu1, ex_iu2, ex_iu3, ex_iu4, ex_iu5, ex_iu6, ex_iu7, List.getD_cons_zero, List.getD_cons_succ, List.set_cons_zero, List.set_cons_succ, isI_i, isA_r, isD_d, isF_f, GInc, ko_v, ko_n, cat_i2, cat_r2, cat_n2, cat_f2, cat_d2, cat_l2, Nat.zero_le, Nat.zero_add, Nat.le_refl, Nat.reduceAdd, Nat.reduceLeDiff, ne_eq, not_false_eq_true, Nat.reduceEqDiff, sI_mk, wI_mk, wCp_mk, Option.toList, List.nil_append, List.cons_append, kd_20, kd_21, kd_22, kd_23, kd_24, kd_25, kd_26, kd_27, kd_28, kd_29, kd_30, kd_31, kd_32, kd_33, kd_34, kd_35, kd_36, kd_37, kd_38, kd_39, kd_40, kd_41, kd_42, kd_43, kd_44, kd_45, kd_46, kd_47, kd_48, kd_49, kd_50, kd_51, kd_52, kd_53, kd_54, hc, if_false, e1, e2, i1, x1, ik_succ]
    refine ih (k + 1) _ (by omega) (fun f' a b => hq f' (fun j h1 h2 => ?_) (fun t c j hn => ?_))
    · by_cases hj : j = k
      · rw [b _ _ _ (by omega), up3_at, if_pos ⟨rfl, rfl, hj⟩]
      · exact a j (by omega) h2
    · rw [b _ _ _ (by omega), up3_at, if_neg (by omega)]
set_option maxHeartbeats 1000000 in
theorem ct53 {i : Nat} (hc : ∀ t, tgD t = true → t ≠ 1 → r.2.2.2.2.1 t = i) (hq : ∀ f' r', CtD i f r f' r' → Q (.inl none) (f', r')) : Cl (d + 2) 53 [vr 1 i] (f, r) Q := by
  have c2 := hc 2 rfl (by decide)
  have c3 := hc 3 rfl (by decide)
  have c4 := hc 4 rfl (by decide)
  have c5 := hc 5 rfl (by decide)
  have c20 := hc 20 rfl (by decide)
  have c21 := hc 21 rfl (by decide)
  have c22 := hc 22 rfl (by decide)
  have c23 := hc 23 rfl (by decide)
  have c24 := hc 24 rfl (by decide)
  have c25 := hc 25 rfl (by decide)
  have c26 := hc 26 rfl (by decide)
  have c27 := hc 27 rfl (by decide)
  have c28 := hc 28 rfl (by decide)
  have c29 := hc 29 rfl (by decide)
  have c30 := hc 30 rfl (by decide)
  have c31 := hc 31 rfl (by decide)
  have n5 := fun {m t : Nat} {at_ : ArrayType} {is : List AI} {lv st : List AV} (f : SF) (r : SR) Q => naL (d := d) (f := f) (r := r) (Q := Q) (m := m) (t := t) (at_ := at_) (is := is) (lv := lv) (st := st) (x := 5) (n := 5) rfl (by decide)
  have n50 := fun {m t : Nat} {at_ : ArrayType} {is : List AI} {lv st : List AV} (f : SF) (r : SR) Q => naL (d := d) (f := f) (r := r) (Q := Q) (m := m) (t := t) (at_ := at_) (is := is) (lv := lv) (st := st) (x := 50) (n := 50) rfl (by decide)
  have n10 := fun {m t : Nat} {at_ : ArrayType} {is : List AI} {lv st : List AV} (f : SF) (r : SR) Q => naL (d := d) (f := f) (r := r) (Q := Q) (m := m) (t := t) (at_ := at_) (is := is) (lv := lv) (st := st) (x := 10) (n := 10) rfl (by decide)
  have n12 := fun {m t : Nat} {at_ : ArrayType} {is : List AI} {lv st : List AV} (f : SF) (r : SR) Q => naL (d := d + 1) (f := f) (r := r) (Q := Q) (m := m) (t := t) (at_ := at_) (is := is) (lv := lv) (st := st) (x := 12) (n := 12) rfl (by decide)
  rw [en53]
  simp only [B53_0, ex_iconst, ex_bipush, ex_sipush, ex_ldc, ex_ldcs, ex_fconst, ex_dconst, ex_iload_n, ex_iload, ex_aload_n, ex_aload, ex_dload_n, ex_dload, ex_fload, ex_istore_n, ex_istore, ex_fstore, ex_dstore_n, ex_dstore, ex_astore_n, ex_astore, ex_iinc, ex_ginc, ex_pop_i, ex_pop_r, ex_dup_i, ex_dup_r, ex_dup_x1, ex_dup2, ex_iadd, ex_isub, ex_imul, ex_iand, ex_ior, ex_ixor, ex_ishl, ex_ishr, ex_idiv, ex_irem, ex_ineg, ex_i2l, ex_i2c, ex_i2b, ex_i2f, ex_i2d, ex_f2d, ex_fdiv, ex_ddiv, ex_lcmp, ex_dcmp, ex_getI, ex_getR, ex_putI, ex_putB, ex_putZ, ex_putR, ex_getsI, ex_getsR, ex_iald, ex_cald, ex_iast, ex_cast, ex_aast, ex_alen, ex_copy1, ex_copy2, ex_throw, ex_goto, ex_fall, ex_if_eq, ex_ic_eq, ex_if_ne, ex_ic_ne, ex_if_lt, ex_ic_lt, ex_if_ge, ex_ic_ge, ex_if_gt, ex_ic_gt, ex_if_le, ex_ic_le, ex_switch, ex_ireturn, ex_ireturn_z, ex_ireturn_b, ex_ireturn_c, ex_areturn, ex_freturn, ex_dreturn, ex_return, ex_is0, ex_is1, ex_is2, ex_is3, ex_is4, ex_is5, ex_is6, ex_is7, ex_iv1, ex_iv2, ex_iv3, ex_iv4, ex_iv5, ex_iv6, ex_iv7, ex_ip1, ex_ip2, ex_ip3, ex_ip4, ex_ip5, ex_ip6, ex_ip7, ex_iu1, ex_iu2, ex_iu3, ex_iu4, ex_iu5, ex_iu6, ex_iu7, List.getD_cons_zero, List.getD_cons_succ, List.set_cons_zero, List.set_cons_succ, isI_i, isA_r, isD_d, isF_f, GInc, ko_v, ko_n, cat_i2, cat_r2, cat_n2, cat_f2, cat_d2, cat_l2, Nat.zero_le, Nat.zero_add, Nat.le_refl, Nat.reduceAdd, Nat.reduceLeDiff, ne_eq, not_false_eq_true, Nat.reduceEqDiff, sI_mk, wI_mk, wCp_mk, Option.toList, List.nil_append, List.cons_append, kd_20, kd_21, kd_22, kd_23, kd_24, kd_25, kd_26, kd_27, kd_28, kd_29, kd_30, kd_31, kd_32, kd_33, kd_34, kd_35, kd_36, kd_37, kd_38, kd_39, kd_40, kd_41, kd_42, kd_43, kd_44, kd_45, kd_46, kd_47, kd_48, kd_49, kd_50, kd_51, kd_52, kd_53, kd_54, ob1, nwL, n5, n50, n10, n12, en33, B33_0, en37, B37_0, en47, B47_0, en49, B49_0, nwS_c, wRS_mk, wRS_2, Nat.reduceEqDiff, if_false, c2, c3, c4, c5, c20, c21, c22, c23, c24, c25, c26, c27, c28, c29, c30, c31]
  sorry
end Ctor
