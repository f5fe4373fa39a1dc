/-! the law's start -/
def Cs0 : Cst := (D0, [], none, (0, 0, 0, -1), [], [])
theorem inv0 : Inv 0 D0 := by
  refine ⟨⟨⟨Nat.zero_le _, fun q hq => absurd hq (by show ¬ q ∈ ([] : List Bn); simp)⟩, ⟨fun x hx => absurd hx (by show ¬ x ∈ ([] : List Sk); simp), List.Pairwise.nil, fun x hx => absurd hx (by show ¬ x ∈ ([] : List Sk); simp), fun k hk => absurd hk (Nat.not_lt_zero k)⟩, fun k hk => ⟨10, rfl, by decide, by decide⟩, ⟨by decide, by decide⟩⟩, ⟨⟨0, rfl, Nat.le_refl _⟩, ⟨0, rfl, Nat.zero_le _⟩, ⟨0, rfl, Nat.zero_le _⟩⟩⟩
theorem ci_0 : CInv 0 Cs0 := ⟨inv0, fun D hD => absurd hD (by show ¬ D ∈ ([] : List Dt); simp), fun D hD => (by cases hD), ⟨Or.inl rfl, Or.inl rfl⟩⟩
/-- between two calls: U the growth, n the calls made -/
def Btw (L : Nat) (xs : Nat → Int32) (U n : Nat) (C : Cst) (f : SF) (N : Nat → Int32) (r : SR) : Prop := LayC (pr f N) r C ∧ LayMo f N C ∧ CInv U C ∧ Kst (pr f N) r ∧ Dst (pr f N) r ∧ r.2.2.2.1 53 0 = 1 ∧ r.2.2.2.1 54 0 = 1 ∧ r.2.2.2.1 55 0 = L ∧ (∀ k, f 55 0 k = xs k) ∧ r.2.2.2.2.2.1 ≤ 217 + n + capR r ∧ r.2.2.2.2.2.2 ≤ 9141 + 6 * n + 2 * capR r
section Start
variable {d : Nat} {f : SF} {r : SR} {s : St} {Q : Ot → St → Prop}
theorem start_ok {L : Nat} {xs : Nat → Int32} (hctr : ∀ t, r.2.2.2.2.1 t = 0) (hN : r.2.2.2.2.2.1 = 0) (hM0 : r.2.2.2.2.2.2 = 0) (hK : Kst f r) (hT : Dst f r) (h55 : r.2.2.2.1 55 0 = L) (hxs : ∀ k, f 55 0 k = xs k) (h11 : ∀ k, f 11 0 k = 0)
    (hq : ∀ f N r u6 u7 u8, Btw L xs 0 0 Cs0 f N r → Jx (d + 5) 361 1 [vr 55 0, vr 0 0, vr 11 0, vr 53 0, vr 54 0, vi 0, u6, u7, u8] [] (pr f N, r) Q) : Cl (d + 6) 361 [vr 55 0] (f, r) Q := by
  have hA : AllD 0 (clr f 0 0 0) (nwS r 0 0 13) := ⟨fun t ht => by
    have n0 : ¬ t = 0 := by rintro rfl; cases ht
    rw [nwS_c, if_neg n0, hctr], fun j hj => absurd hj (Nat.not_lt_zero j)⟩
  rw [en361]
  simp only [B361_0, ex_iconst, ex_bipush, ex_sipush, ex_ldc, ex_ldcs, ex_fconst, ex_dconst, ex_iload_n, ex_iload, ex_aload_n, ex_aload, ex_dload_n, ex_dload, ex_fload, ex_istore_n, ex_istore, ex_fstore, ex_dstore_n, ex_dstore, ex_astore_n, ex_astore, ex_iinc, ex_ginc, ex_pop_i, ex_pop_r, ex_dup_i, ex_dup_r, ex_dup_x1, ex_dup2, ex_iadd, ex_isub, ex_imul, ex_iand, ex_ior, ex_ixor, ex_ishl, ex_ishr, ex_idiv, ex_irem, ex_ineg, ex_i2l, ex_i2c, ex_i2b, ex_i2f, ex_i2d, ex_f2d, ex_fdiv, ex_ddiv, ex_lcmp, ex_dcmp, ex_getI, ex_getR, ex_putI, ex_putB, ex_putZ, ex_putR, ex_getsI, ex_getsR, ex_iald, ex_cald, ex_iast, ex_cast, ex_aast, ex_alen, ex_copy1, ex_copy2, ex_throw, ex_goto, ex_fall, ex_if_eq, ex_ic_eq, ex_if_ne, ex_ic_ne, ex_if_lt, ex_ic_lt, ex_if_ge, ex_ic_ge, ex_if_gt, ex_ic_gt, ex_if_le, ex_ic_le, ex_switch, ex_ireturn, ex_ireturn_z, ex_ireturn_b, ex_ireturn_c, ex_areturn, ex_freturn, ex_dreturn, ex_return, ex_is0, ex_is1, ex_is2, ex_is3, ex_is4, ex_is5, ex_is6, ex_is7, ex_iv1, ex_iv2, ex_iv3, ex_iv4, ex_iv5, ex_iv6, ex_iv7, ex_ip1, ex_ip2, ex_ip3, ex_ip4, ex_ip5, ex_ip6, ex_ip7, ex_iu1, ex_iu2, ex_iu3, ex_iu4, ex_iu5, ex_iu6, ex_iu7, List.getD_cons_zero, List.getD_cons_succ, List.set_cons_zero, List.set_cons_succ, isI_i, isA_r, isD_d, isF_f, GInc, ko_v, ko_n, cat_i2, cat_r2, cat_n2, cat_f2, cat_d2, cat_l2, Nat.zero_le, Nat.zero_add, Nat.le_refl, Nat.reduceAdd, Nat.reduceLeDiff, ne_eq, not_false_eq_true, Nat.reduceEqDiff, sI_mk, wI_mk, wCp_mk, Option.toList, List.nil_append, List.cons_append, kd_20, kd_21, kd_22, kd_23, kd_24, kd_25, kd_26, kd_27, kd_28, kd_29, kd_30, kd_31, kd_32, kd_33, kd_34, kd_35, kd_36, kd_37, kd_38, kd_39, kd_40, kd_41, kd_42, kd_43, kd_44, kd_45, kd_46, kd_47, kd_48, kd_49, kd_50, kd_51, kd_52, kd_53, kd_54, nwL, hctr]
  refine ct102 hA (fun t ht h0 => by rw [nwS_c, if_neg h0, hctr]) (by rw [clr_at, if_neg (by decide)]; exact hK.2.1) (fun f1 r1 g1 => ?_)
  obtain ⟨A1, R1, ⟨a0, a1, a2, a3, a4, a5, a6, a7, a8, a9, a10, a11, a12, a13, a14, a15, a16, a17⟩, ⟨c0, c1, c2, c3, c4, c5, c6, c7, c8, c9⟩, ⟨y3, y9, y10, y11, y12, y61, y62, y91⟩, W1, F1⟩ := g1
  have c11 : r1.2.2.2.2.1 11 = 0 := (F1.2.2.2.1 11 rfl).trans (by rw [nwS_c, if_neg (by decide), hctr])
  simp only [ex_iconst, ex_bipush, ex_sipush, ex_ldc, ex_ldcs, ex_fconst, ex_dconst, ex_iload_n, ex_iload, ex_aload_n, ex_aload, ex_dload_n, ex_dload, ex_fload, ex_istore_n, ex_istore, ex_fstore, ex_dstore_n, ex_dstore, ex_astore_n, ex_astore, ex_iinc, ex_ginc, ex_pop_i, ex_pop_r, ex_dup_i, ex_dup_r, ex_dup_x1, ex_dup2, ex_iadd, ex_isub, ex_imul, ex_iand, ex_ior, ex_ixor, ex_ishl, ex_ishr, ex_idiv, ex_irem, ex_ineg, ex_i2l, ex_i2c, ex_i2b, ex_i2f, ex_i2d, ex_f2d, ex_fdiv, ex_ddiv, ex_lcmp, ex_dcmp, ex_getI, ex_getR, ex_putI, ex_putB, ex_putZ, ex_putR, ex_getsI, ex_getsR, ex_iald, ex_cald, ex_iast, ex_cast, ex_aast, ex_alen, ex_copy1, ex_copy2, ex_throw, ex_goto, ex_fall, ex_if_eq, ex_ic_eq, ex_if_ne, ex_ic_ne, ex_if_lt, ex_ic_lt, ex_if_ge, ex_ic_ge, ex_if_gt, ex_ic_gt, ex_if_le, ex_ic_le, ex_switch, ex_ireturn, ex_ireturn_z, ex_ireturn_b, ex_ireturn_c, ex_areturn, ex_freturn, ex_dreturn, ex_return, ex_is0, ex_is1, ex_is2, ex_is3, ex_is4, ex_is5, ex_is6, ex_is7, ex_iv1, ex_iv2, ex_iv3, ex_iv4, ex_iv5, ex_iv6, ex_iv7, ex_ip1, ex_ip2, ex_ip3, ex_ip4, ex_ip5, ex_ip6, ex_ip7, ex_iu1, ex_iu2, ex_iu3, ex_iu4, ex_iu5, ex_iu6, ex_iu7, List.getD_cons_zero, List.getD_cons_succ, List.set_cons_zero, List.set_cons_succ, isI_i, isA_r, isD_d, isF_f, GInc, ko_v, ko_n, cat_i2, cat_r2, cat_n2, cat_f2, cat_d2, cat_l2, Nat.zero_le, Nat.zero_add, Nat.le_refl, Nat.reduceAdd, Nat.reduceLeDiff, ne_eq, not_false_eq_true, Nat.reduceEqDiff, sI_mk, wI_mk, wCp_mk, Option.toList, List.nil_append, List.cons_append, kd_20, kd_21, kd_22, kd_23, kd_24, kd_25, kd_26, kd_27, kd_28, kd_29, kd_30, kd_31, kd_32, kd_33, kd_34, kd_35, kd_36, kd_37, kd_38, kd_39, kd_40, kd_41, kd_42, kd_43, kd_44, kd_45, kd_46, kd_47, kd_48, kd_49, kd_50, kd_51, kd_52, kd_53, kd_54, nwL, c11]
  have F1c : ∀ t, tgM t = true → r1.2.2.2.2.1 t = 0 := fun t ht => by
    have h1 : tgC t = false := by
      cases hz : tgC t with
      | false => rfl
      | true => unfold tgM at ht; unfold tgC at hz; simp at ht hz; omega
    have h0 : ¬ t = 0 := by rintro rfl; cases ht
    exact (F1.2.2.2.1 t h1).trans (by rw [nwS_c, if_neg h0, hctr])
  refine ct178 (fun t ht h0 => by rw [nwS_c, if_neg h0]; exact F1c t ht) (fun k => by rw [clr_at, if_pos ⟨rfl, rfl⟩]) (fun f2 r2 g2 => ?_)
  obtain ⟨⟨b0, b1, b2, b3, b4, b5, b6, b7, b8, b9⟩, ⟨e0, e1, e2, e3, e4, e5, e6, e7, e8, e9⟩, ⟨x6, x7, x8, x9, x10, x11, x14, x16, x20⟩, RM, F2⟩ := g2
  have c53 : r2.2.2.2.2.1 53 = 0 := (F2.2.2.2.1 53 rfl).trans (by rw [nwS_c, if_neg (by decide)]; exact (F1.2.2.2.1 53 rfl).trans (by rw [nwS_c, if_neg (by decide), hctr]))
  have c54 : r2.2.2.2.2.1 54 = 0 := (F2.2.2.2.1 54 rfl).trans (by rw [nwS_c, if_neg (by decide)]; exact (F1.2.2.2.1 54 rfl).trans (by rw [nwS_c, if_neg (by decide), hctr]))
  simp only [ex_iconst, ex_bipush, ex_sipush, ex_ldc, ex_ldcs, ex_fconst, ex_dconst, ex_iload_n, ex_iload, ex_aload_n, ex_aload, ex_dload_n, ex_dload, ex_fload, ex_istore_n, ex_istore, ex_fstore, ex_dstore_n, ex_dstore, ex_astore_n, ex_astore, ex_iinc, ex_ginc, ex_pop_i, ex_pop_r, ex_dup_i, ex_dup_r, ex_dup_x1, ex_dup2, ex_iadd, ex_isub, ex_imul, ex_iand, ex_ior, ex_ixor, ex_ishl, ex_ishr, ex_idiv, ex_irem, ex_ineg, ex_i2l, ex_i2c, ex_i2b, ex_i2f, ex_i2d, ex_f2d, ex_fdiv, ex_ddiv, ex_lcmp, ex_dcmp, ex_getI, ex_getR, ex_putI, ex_putB, ex_putZ, ex_putR, ex_getsI, ex_getsR, ex_iald, ex_cald, ex_iast, ex_cast, ex_aast, ex_alen, ex_copy1, ex_copy2, ex_throw, ex_goto, ex_fall, ex_if_eq, ex_ic_eq, ex_if_ne, ex_ic_ne, ex_if_lt, ex_ic_lt, ex_if_ge, ex_ic_ge, ex_if_gt, ex_ic_gt, ex_if_le, ex_ic_le, ex_switch, ex_ireturn, ex_ireturn_z, ex_ireturn_b, ex_ireturn_c, ex_areturn, ex_freturn, ex_dreturn, ex_return, ex_is0, ex_is1, ex_is2, ex_is3, ex_is4, ex_is5, ex_is6, ex_is7, ex_iv1, ex_iv2, ex_iv3, ex_iv4, ex_iv5, ex_iv6, ex_iv7, ex_ip1, ex_ip2, ex_ip3, ex_ip4, ex_ip5, ex_ip6, ex_ip7, ex_iu1, ex_iu2, ex_iu3, ex_iu4, ex_iu5, ex_iu6, ex_iu7, List.getD_cons_zero, List.getD_cons_succ, List.set_cons_zero, List.set_cons_succ, isI_i, isA_r, isD_d, isF_f, GInc, ko_v, ko_n, cat_i2, cat_r2, cat_n2, cat_f2, cat_d2, cat_l2, Nat.zero_le, Nat.zero_add, Nat.le_refl, Nat.reduceAdd, Nat.reduceLeDiff, ne_eq, not_false_eq_true, Nat.reduceEqDiff, sI_mk, wI_mk, wCp_mk, Option.toList, List.nil_append, List.cons_append, kd_20, kd_21, kd_22, kd_23, kd_24, kd_25, kd_26, kd_27, kd_28, kd_29, kd_30, kd_31, kd_32, kd_33, kd_34, kd_35, kd_36, kd_37, kd_38, kd_39, kd_40, kd_41, kd_42, kd_43, kd_44, kd_45, kd_46, kd_47, kd_48, kd_49, kd_50, kd_51, kd_52, kd_53, kd_54, naL (x := 1) (n := 1) rfl (by decide), nwS_c, Nat.reduceEqDiff, if_false, c53, c54]
  have hC : ∀ t, tgC t = true → (∀ j k, clr (clr f2 53 0 0) 54 0 0 t j k = f1 t j k) ∧ (∀ j k, (nwS (nwS r2 53 1 1) 54 1 1).1 t j k = r1.1 t j k) ∧ (∀ j, (nwS (nwS r2 53 1 1) 54 1 1).2.2.2.1 t j = r1.2.2.2.1 t j) ∧ (nwS (nwS r2 53 1 1) 54 1 1).2.2.2.2.1 t = r1.2.2.2.2.1 t := fun t ht => by
    have n11 : ¬ t = 11 := by rintro rfl; cases ht
    have n53 : ¬ t = 53 := by rintro rfl; cases ht
    have n54 : ¬ t = 54 := by rintro rfl; cases ht
    have hm : tgM t = false := by
      cases hz : tgM t with
      | false => rfl
      | true => unfold tgC at ht; unfold tgM at hz; simp at ht hz; omega
    refine ⟨fun j k => ?_, fun j k => ?_, fun j => ?_, ?_⟩
    · rw [clr_at, if_neg (fun z => n54 z.1), clr_at, if_neg (fun z => n53 z.1), F2.1 t j k hm, clr_at, if_neg (fun z => n11 z.1)]
    · rw [nwS_1, if_neg (fun z => n54 z.1), nwS_1, if_neg (fun z => n53 z.1), F2.2.1 t j k hm, nwS_1, if_neg (fun z => n11 z.1)]
    · rw [nwS_l, if_neg (fun z => n54 z.1), nwS_l, if_neg (fun z => n53 z.1), F2.2.2.1 t j hm, nwS_l, if_neg (fun z => n11 z.1)]
    · rw [nwS_c, if_neg n54, nwS_c, if_neg n53, F2.2.2.2.1 t hm, nwS_c, if_neg n11]
  have hM : ∀ t, tgM t = true → (∀ j k, clr (clr f2 53 0 0) 54 0 0 t j k = f2 t j k) ∧ (∀ j k, (nwS (nwS r2 53 1 1) 54 1 1).1 t j k = r2.1 t j k) ∧ (∀ j, (nwS (nwS r2 53 1 1) 54 1 1).2.2.2.1 t j = r2.2.2.2.1 t j) := fun t ht => by
    have n53 : ¬ t = 53 := by rintro rfl; cases ht
    have n54 : ¬ t = 54 := by rintro rfl; cases ht
    refine ⟨fun j k => ?_, fun j k => ?_, fun j => ?_⟩
    · rw [clr_at, if_neg (fun z => n54 z.1), clr_at, if_neg (fun z => n53 z.1)]
    · rw [nwS_1, if_neg (fun z => n54 z.1), nwS_1, if_neg (fun z => n53 z.1)]
    · rw [nwS_l, if_neg (fun z => n54 z.1), nwS_l, if_neg (fun z => n53 z.1)]
  have hX : ∀ t, tgC t = false → tgM t = false → t ≠ 53 → t ≠ 54 → (∀ j k, clr (clr f2 53 0 0) 54 0 0 t j k = f t j k) ∧ (∀ j k, (nwS (nwS r2 53 1 1) 54 1 1).1 t j k = r.1 t j k) ∧ (∀ j, (nwS (nwS r2 53 1 1) 54 1 1).2.2.2.1 t j = r.2.2.2.1 t j) := fun t hc hm n53 n54 => by
    have n0 : ¬ t = 0 := by rintro rfl; cases hc
    have n11 : ¬ t = 11 := by rintro rfl; cases hm
    refine ⟨fun j k => ?_, fun j k => ?_, fun j => ?_⟩
    · rw [clr_at, if_neg (fun z => n54 z.1), clr_at, if_neg (fun z => n53 z.1), F2.1 t j k hm, clr_at, if_neg (fun z => n11 z.1), F1.1 t j k hc, clr_at, if_neg (fun z => n0 z.1)]
    · rw [nwS_1, if_neg (fun z => n54 z.1), nwS_1, if_neg (fun z => n53 z.1), F2.2.1 t j k hm, nwS_1, if_neg (fun z => n11 z.1), F1.2.1 t j k hc, nwS_1, if_neg (fun z => n0 z.1)]
    · rw [nwS_l, if_neg (fun z => n54 z.1), nwS_l, if_neg (fun z => n53 z.1), F2.2.2.1 t j hm, nwS_l, if_neg (fun z => n11 z.1), F1.2.2.1 t j hc, nwS_l, if_neg (fun z => n0 z.1)]
  have l53 : (nwS (nwS r2 53 1 1) 54 1 1).2.2.2.1 53 0 = 1 := by
    rw [nwS_l, if_neg (fun z => absurd z.1 (by decide)), nwS_l, if_pos ⟨rfl, c53.symm⟩]
  have l54 : (nwS (nwS r2 53 1 1) 54 1 1).2.2.2.1 54 0 = 1 := by
    rw [nwS_l, if_pos ⟨rfl, by rw [nwS_c, if_neg (by decide)]; exact c54.symm⟩]
  have eN : (nwS (nwS r2 53 1 1) 54 1 1).2.2.2.2.2.1 = 217 := by
    rw [nwS_N, nwS_N, F2.2.2.2.2.1, nwS_N, F1.2.2.2.2.1, nwS_N, hN]
  have eM : (nwS (nwS r2 53 1 1) 54 1 1).2.2.2.2.2.2 = 9141 := by
    rw [nwS_M, nwS_M, F2.2.2.2.2.2, nwS_M, F1.2.2.2.2.2, nwS_M, hM0]
  generalize clr (clr f2 53 0 0) 54 0 0 = f3 at hC hM hX ⊢
  generalize nwS (nwS r2 53 1 1) 54 1 1 = r3 at hC hM hX l53 l54 eN eM ⊢
  have tC : ∀ t, tgD t = true → tgC t = true := fun t ht => tgD_C t ht
  have A3 : AllD 11 f3 r3 := A1.dep (fun t j k ht => (hC t (tC t ht)).1 j k) (fun t j k ht => (hC t (tC t ht)).2.1 j k) (fun t j ht => (hC t (tC t ht)).2.2.1 j) (fun t ht => (hC t (tC t ht)).2.2.2)
  have hS : Stt r3 := ⟨fun i hi => (A3.2 i hi).1, ⟨((hC 0 rfl).2.1 0 0).trans a0, ((hC 0 rfl).2.1 0 1).trans a1, ((hC 0 rfl).2.1 0 2).trans a2, ((hC 0 rfl).2.1 0 4).trans a3, ((hC 0 rfl).2.1 0 5).trans a4, ((hC 0 rfl).2.1 0 6).trans a5, ((hC 0 rfl).2.1 0 7).trans a6, ((hC 0 rfl).2.1 0 8).trans a7, ((hC 6 rfl).2.1 0 0).trans a8, ((hC 8 rfl).2.1 0 0).trans a9, ((hC 8 rfl).2.1 0 1).trans a10, ((hC 8 rfl).2.1 0 4).trans a11, ((hC 8 rfl).2.1 0 5).trans a12, ((hC 8 rfl).2.1 0 6).trans a13, ((hC 8 rfl).2.1 0 7).trans a14, ((hC 9 rfl).2.1 0 0).trans a15, ((hC 9 rfl).2.1 0 2).trans a16, ((hC 9 rfl).2.1 0 3).trans a17, ((hM 11 rfl).2.1 0 0).trans b0, ((hM 11 rfl).2.1 0 1).trans b1, ((hM 11 rfl).2.1 0 2).trans b2, ((hM 11 rfl).2.1 0 3).trans b3, ((hM 11 rfl).2.1 0 4).trans b4, ((hM 11 rfl).2.1 0 5).trans b5, ((hM 11 rfl).2.1 0 15).trans b6, ((hM 11 rfl).2.1 0 17).trans b7, ((hM 11 rfl).2.1 0 18).trans b8, ((hM 11 rfl).2.1 0 19).trans b9, ((hC 32 rfl).2.2.1 0).trans c0, ((hC 33 rfl).2.2.1 0).trans c1, ((hC 34 rfl).2.2.1 0).trans c2, ((hC 35 rfl).2.2.1 0).trans c3, ((hC 36 rfl).2.2.1 0).trans c4, ((hC 37 rfl).2.2.1 0).trans c5, ((hC 38 rfl).2.2.1 0).trans c6, ((hC 39 rfl).2.2.1 0).trans c7, ((hC 40 rfl).2.2.1 0).trans c8, ((hC 41 rfl).2.2.1 0).trans c9, ((hM 43 rfl).2.2 0).trans e0, ((hM 44 rfl).2.2 0).trans e1, ((hM 45 rfl).2.2 0).trans e2, ((hM 46 rfl).2.2 0).trans e3, ((hM 47 rfl).2.2 0).trans e4, ((hM 48 rfl).2.2 0).trans e5, ((hM 49 rfl).2.2 0).trans e6, ((hM 50 rfl).2.2 0).trans e7, ((hM 51 rfl).2.2 0).trans e8, ((hM 52 rfl).2.2 0).trans e9⟩, fun k hk => ((hC 32 rfl).2.1 0 k).trans (R1 k hk)⟩
  have hLC : LayC f3 r3 Cs0 := by
    refine ⟨hS, (A3.2 0 (by decide)).2, ⟨0, by decide, ((hC 6 rfl).1 0 1).trans y61, ((hC 6 rfl).1 0 2).trans y62, Nat.zero_le _, fun j D hj => absurd hj (by show ¬ ([] : List Dt)[j]? = some D; simp)⟩, ((hC 0 rfl).1 0 3).trans y3, ⟨((hC 0 rfl).1 0 9).trans y9, ((hC 0 rfl).1 0 10).trans y10, ((hC 0 rfl).1 0 11).trans y11, ((hC 0 rfl).1 0 12).trans y12⟩, ⟨((hC 9 rfl).1 0 1).trans y91, Nat.zero_le _, fun k c hk => absurd hk (by show ¬ ([] : List Int32)[k]? = some c; simp), fun c hc => absurd hc (by show ¬ c ∈ ([] : List Int32); simp)⟩, ?_⟩
    obtain ⟨j, cap, w1, w2, w3, w4, w5, w6, w7, ⟨w8, w8b⟩, w9, w10⟩ := W1
    exact ⟨j, cap, ((hC 10 rfl).2.1 0 0).trans w1, ((hC 10 rfl).1 0 1).trans w2, ((hC 10 rfl).1 0 3).trans w3, ((hC 42 rfl).2.2.1 j).trans w4, w5, w6, w7, ⟨by rw [(hC 42 rfl).2.2.2]; exact w8, fun k hk => by rw [(hC 42 rfl).1 j k]; exact w8b k hk⟩, fun k c hk => ((hC 42 rfl).1 j k).trans (w9 k c hk), w10⟩
  have hLM : LayMo f3 (f3 43 0) Cs0 := by
    have hm : ∀ k, f3 11 0 k = f2 11 0 k := fun k => (hM 11 rfl).1 0 k
    refine ⟨by rw [show f3 43 0 = f2 43 0 from funext (fun k => (hM 43 rfl).1 0 k)]; exact RM, ⟨(hm 7).trans x7, Nat.zero_le _, fun j D hj => absurd hj (by show ¬ ([] : List Dt)[j]? = some D; simp)⟩, (hm 14).trans x14, ⟨(hm 8).trans x8, (hm 9).trans x9, (hm 10).trans x10, fun _ => (hm 11).trans x11⟩, ⟨(hm 20).trans x20, fun k x hk => absurd hk (by show ¬ ([] : List Int32)[k]? = some x; simp)⟩, ⟨(hm 16).trans x16, Nat.zero_le _, fun k x hk => absurd hk (by show ¬ ([] : List Int32)[k]? = some x; simp)⟩⟩
  have hK3 : Kst f3 r3 := by
    obtain ⟨k1, k2, vF, k3, k4⟩ := hK
    have X12 := hX 12 rfl rfl (by decide) (by decide)
    have X56 := hX 56 rfl rfl (by decide) (by decide)
    have X60 := hX 60 rfl rfl (by decide) (by decide)
    exact ⟨fun x hx => ⟨(X12.2.1 x 0).trans (k1 x hx).1, (X12.1 x 1).trans (k1 x hx).2.1, (X56.2.2 x).trans (k1 x hx).2.2.1, fun j => (X56.1 x j).trans ((k1 x hx).2.2.2 j)⟩, (X60.1 0 0).trans k2, vF, (X60.2.1 0 1).trans k3, k4⟩
  have hT3 : Dst f3 r3 := by
    obtain ⟨k1, k2, k3, k4, k5, k6⟩ := hT
    have X57 := hX 57 rfl rfl (by decide) (by decide)
    have X58 := hX 58 rfl rfl (by decide) (by decide)
    have X60 := hX 60 rfl rfl (by decide) (by decide)
    exact ⟨(X60.2.1 0 2).trans k1, (X60.2.1 0 3).trans k2, (X57.2.2 0).trans k3, (X58.2.2 0).trans k4, fun k => (X57.1 0 k).trans (k5 k), fun k => (X58.1 0 k).trans (k6 k)⟩
  have X55 := hX 55 rfl rfl (by decide) (by decide)
  have hb : Btw L xs 0 0 Cs0 f3 (f3 43 0) r3 := by
    unfold Btw
    rw [pr_self]
    exact ⟨hLC, hLM, ci_0, hK3, hT3, l53, l54, (X55.2.2 0).trans h55, fun k => (X55.1 0 k).trans (hxs k), by omega, by omega⟩
  have := hq f3 (f3 43 0) r3
  rw [pr_self] at this
  exact this _ _ _ hb
end Start
