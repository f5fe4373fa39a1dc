/-! the law's loop -/
def swB (k : Nat) : Nat := [2, 5, 8, 11, 14, 15, 18, 21, 24, 27, 30, 33, 36, 39, 42, 45, 48, 51, 54, 57, 60, 61, 64, 67, 70, 73, 76, 79, 82, 85, 86, 87, 90, 93, 96, 99, 102, 105, 106, 107, 108, 109, 110, 111, 112, 116, 120, 123, 124, 127, 130, 133, 136, 139, 142, 145, 148, 151, 154, 155].getD k 158
theorem tg_eq : ∀ k, k < 64 → (if (ik k).toInt < 0 ∨ 59 < (ik k).toInt then g0 [158, 2, 5, 8, 11, 14, 15, 18, 21, 24, 27, 30, 33, 36, 39, 42, 45, 48, 51, 54, 57, 60, 61, 64, 67, 70, 73, 76, 79, 82, 85, 86, 87, 90, 93, 96, 99, 102, 105, 106, 107, 108, 109, 110, 111, 112, 116, 120, 123, 124, 127, 130, 133, 136, 139, 142, 145, 148, 151, 154, 155] 0 else g0 [158, 2, 5, 8, 11, 14, 15, 18, 21, 24, 27, 30, 33, 36, 39, 42, 45, 48, 51, 54, 57, 60, 61, 64, 67, 70, 73, 76, 79, 82, 85, 86, 87, 90, 93, 96, 99, 102, 105, 106, 107, 108, 109, 110, 111, 112, 116, 120, 123, 124, 127, 130, 133, 136, 139, 142, 145, 148, 151, 154, 155] (((ik k).toInt - 0).toNat + 1)) = swB k := by decide
theorem and63 {x : Int32} : ∃ k, k < 64 ∧ x &&& 63 = ik k := by
  refine ⟨(x.toBitVec &&& 63#32).toNat, ?_, ?_⟩
  · rw [BitVec.toNat_and]
    exact Nat.lt_of_le_of_lt Nat.and_le_right (by decide)
  · apply Int32.toBitVec_inj.mp
    show x.toBitVec &&& 63#32 = BitVec.ofNat 32 (x.toBitVec &&& 63#32).toNat
    rw [BitVec.ofNat_toNat]
    simp
theorem Btw.up {L : Nat} {xs : Nat → Int32} {U n : Nat} {C : Cst} {f : SF} {N : Nat → Int32} {r : SR} (h : Btw L xs U n C f N r) : Btw L xs (U + 60) (n + 1) C f N r := btw_q h SamR.rf (Nat.le_succ _) (Nat.le_add_right _ 6) FrT.rf
theorem capR_le {f : SF} {r : SR} {C : Cst} (h : LayC f r C) : capR r ≤ 1000 := by
  obtain ⟨j, cap, w1, w2, w3, w4, w5, w6, w7, -⟩ := h.2.2.2.2.2.2
  unfold capR
  rw [w1]
  show r.2.2.2.1 42 j ≤ 1000
  omega
theorem len5 {L : Nat} (hL : L ≤ 2560) : (ik L - 5).toInt = (L : Int) - 5 := by
  rw [Int32.toInt_sub, ik_toInt (by omega), show (5 : Int32).toInt = 5 by decide]
  exact Int.bmod_eq_of_le (by omega) (by omega)
section Loop
variable {d : Nat} {Q : Ot → St → Prop} {L : Nat} {xs : Nat → Int32} {U n i : Nat} {C : Cst} {f : SF} {N : Nat → Int32} {r : SR} {u6 u7 u8 : AV}
theorem kd_all (h : Btw L xs U n C f N r) (hU9 : U < 90000) (hi : i + 5 ≤ L) (hL : L ≤ 2560) (hq : Nx Q (d + 30) L xs (U + 60) (n + 1) i) (hU : U < 100000) : ∀ k, k < 64 → Jx (d + 30) 361 (swB k) [vr 55 0, vr 0 0, vr 11 0, vr 53 0, vr 54 0, vi (ik i), u6, u7, u8] [] (pr f N, r) Q
  | 0, _ => kd2 h hU hi hL hq
  | 1, _ => kd5 h hU hi hL hq
  | 2, _ => kd8 h hU hi hL hq
  | 3, _ => kd11 h hU hi hL hq
  | 4, _ => kd14 h hq
  | 5, _ => kd15 h hU hi hL hq
  | 6, _ => kd18 h hi hL hq
  | 7, _ => kd21 h hi hL hq
  | 8, _ => kd24 h hU hi hL hq
  | 9, _ => kd27 h hi hL hq
  | 10, _ => kd30 h hi hL hq
  | 11, _ => kd33 h hi hL hq
  | 12, _ => kd36 h hi hL hq
  | 13, _ => kd39 h hi hL hq
  | 14, _ => kd42 h hi hL hq
  | 15, _ => kd45 h hU hi hL hq
  | 16, _ => kd48 h hU hi hL hq
  | 17, _ => kd51 h hU hi hL hq
  | 18, _ => kd54 h hi hL hq
  | 19, _ => kd57 h hi hL hq
  | 20, _ => kd60 h hq
  | 21, _ => kd61 h hU hi hL hq
  | 22, _ => kd64 h hU hi hL hq
  | 23, _ => kd67 h hU hi hL hq
  | 24, _ => kd70 h hU hi hL hq
  | 25, _ => kd73 h hU hi hL hq
  | 26, _ => kd76 h hi hL hq
  | 27, _ => kd79 h hU hi hL hq
  | 28, _ => kd82 h hi hL hq
  | 29, _ => kd85 h hq
  | 30, _ => kd86 h hq
  | 31, _ => kd87 h hU hi hL hq
  | 32, _ => kd90 h hU hi hL hq
  | 33, _ => kd93 h hU hi hL hq
  | 34, _ => kd96 h hU hi hL hq
  | 35, _ => kd99 h hU hi hL hq
  | 36, _ => kd102 h hU hi hL hq
  | 37, _ => kd105 h hq
  | 38, _ => kd106 h hq
  | 39, _ => kd107 h hq
  | 40, _ => kd108 h hq
  | 41, _ => kd109 h hq
  | 42, _ => kd110 h hq
  | 43, _ => kd111 h hq
  | 44, _ => kd112 h hU hq
  | 45, _ => kd116 h hU hq
  | 46, _ => kd120 h hU hi hL hq
  | 47, _ => kd123 h hU hq
  | 48, _ => kd124 h hU9 hi hL hq
  | 49, _ => kd127 h hU9 hi hL hq
  | 50, _ => kd130 h hU hi hL hq
  | 51, _ => kd133 h hU hi hL hq
  | 52, _ => kd136 h hU hq
  | 53, _ => kd139 h hU hq
  | 54, _ => kd142 h hU hq
  | 55, _ => kd145 h hU hq
  | 56, _ => kd148 h hU hq
  | 57, _ => kd151 h hU hq
  | 58, _ => kd154 h hq
  | 59, _ => kd155 h hU hq
  | 60, _ => hq _ _ _ _ _ _ _ h.up
  | 61, _ => hq _ _ _ _ _ _ _ h.up
  | 62, _ => hq _ _ _ _ _ _ _ h.up
  | 63, _ => hq _ _ _ _ _ _ _ h.up
  | k + 64, z => absurd z (by omega)
theorem loop_ok (hL : L ≤ 2560) (hE : ∀ f N r n C, n ≤ 512 → Btw L xs (60 * n) n C f N r → Q (.inl (some (vi 1))) (pr f N, r)) : ∀ (m n : Nat) (f : SF) (N : Nat → Int32) (r : SR) (C : Cst) (u6 u7 u8 : AV), n + m = 513 → 5 * n ≤ L → Btw L xs (60 * n) n C f N r → Jx (d + 30) 361 1 [vr 55 0, vr 0 0, vr 11 0, vr 53 0, vr 54 0, vi (ik (5 * n)), u6, u7, u8] [] (pr f N, r) Q
  | 0, n, f, N, r, C, u6, u7, u8, hm, hn, h => absurd hn (by omega)
  | m + 1, n, f, N, r, C, u6, u7, u8, hm, hn, h => by
    have l55 : sL (pr f N, r) 55 0 = L := h.2.2.2.2.2.2.2.1
    rw [jb361_1]
    have al : ∀ {v : Int32} {l : List Nat} {is : List AI} {lv st : List AV}, Ex (d + 30) 361 ((.arraylength, v, l) :: is) lv (vr 55 0 :: st) (pr f N, r) Q ↔ Ex (d + 30) 361 is lv (vi (ik L) :: st) (pr f N, r) Q := fun {v l is lv st} => by
      have := ex_alen (mc := MC) (ml := ML) (hd := HD) (d := d + 30) (m := 361) (is := is) (lv := lv) (st := st) (s := (pr f N, r)) (Q := Q) (v := v) (l := l) (t := 55) (i := 0) (by decide) (by decide)
      rw [l55] at this
      exact this
    simp only [B361_1, ex_iconst, ex_bipush, ex_sipush, ex_ldc, ex_ldcs, ex_fconst, ex_dconst, ex_iload_n, ex_iload, ex_aload_n, ex_aload, ex_dload_n, ex_dload, ex_fload, ex_istore_n, ex_istore, ex_fstore, ex_dstore_n, ex_dstore, ex_astore_n, ex_astore, ex_iinc, ex_ginc, ex_pop_i, ex_pop_r, ex_dup_i, ex_dup_r, ex_dup_x1, ex_dup2, ex_iadd, ex_isub, ex_imul, ex_iand, ex_ior, ex_ixor, ex_ishl, ex_ishr, ex_idiv, ex_irem, ex_ineg, ex_i2l, ex_i2c, ex_i2b, ex_i2f, ex_i2d, ex_f2d, ex_fdiv, ex_ddiv, ex_lcmp, ex_dcmp, ex_getI, ex_getR, ex_putI, ex_putB, ex_putZ, ex_putR, ex_getsI, ex_getsR, ex_iald, ex_cald, ex_iast, ex_cast, ex_aast, ex_alen, ex_copy1, ex_copy2, ex_throw, ex_goto, ex_fall, ex_if_eq, ex_ic_eq, ex_if_ne, ex_ic_ne, ex_if_lt, ex_ic_lt, ex_if_ge, ex_ic_ge, ex_if_gt, ex_ic_gt, ex_if_le, ex_ic_le, ex_switch, ex_ireturn, ex_ireturn_z, ex_ireturn_b, ex_ireturn_c, ex_areturn, ex_freturn, ex_dreturn, ex_return, ex_is0, ex_is1, ex_is2, ex_is3, ex_is4, ex_is5, ex_is6, ex_is7, ex_iv1, ex_iv2, ex_iv3, ex_iv4, ex_iv5, ex_iv6, ex_iv7, ex_ip1, ex_ip2, ex_ip3, ex_ip4, ex_ip5, ex_ip6, ex_ip7, ex_iu1, ex_iu2, ex_iu3, ex_iu4, ex_iu5, ex_iu6, ex_iu7, List.getD_cons_zero, List.getD_cons_succ, List.set_cons_zero, List.set_cons_succ, isI_i, isA_r, isD_d, isF_f, GInc, ko_v, ko_n, cat_i2, cat_r2, cat_n2, cat_f2, cat_d2, cat_l2, Nat.zero_le, Nat.zero_add, Nat.le_refl, Nat.reduceAdd, Nat.reduceLeDiff, ne_eq, not_false_eq_true, Nat.reduceEqDiff, sI_mk, wI_mk, wCp_mk, Option.toList, List.nil_append, List.cons_append, kd_20, kd_21, kd_22, kd_23, kd_24, kd_25, kd_26, kd_27, kd_28, kd_29, kd_30, kd_31, kd_32, kd_33, kd_34, kd_35, kd_36, kd_37, kd_38, kd_39, kd_40, kd_41, kd_42, kd_43, kd_44, kd_45, kd_46, kd_47, kd_48, kd_49, kd_50, kd_51, kd_52, kd_53, kd_54, al]
    by_cases hc : L < 5 * n + 5
    · rw [if_pos (show ik L - 5 < ik (5 * n) from Int32.lt_iff_toInt_lt.mpr (by rw [len5 hL, ik_toInt (by omega)]; omega))]
      refine jb361_159.mpr ?_
      simp only [B361_159, ex_iconst, ex_bipush, ex_sipush, ex_ldc, ex_ldcs, ex_fconst, ex_dconst, ex_iload_n, ex_iload, ex_aload_n, ex_aload, ex_dload_n, ex_dload, ex_fload, ex_istore_n, ex_istore, ex_fstore, ex_dstore_n, ex_dstore, ex_astore_n, ex_astore, ex_iinc, ex_ginc, ex_pop_i, ex_pop_r, ex_dup_i, ex_dup_r, ex_dup_x1, ex_dup2, ex_iadd, ex_isub, ex_imul, ex_iand, ex_ior, ex_ixor, ex_ishl, ex_ishr, ex_idiv, ex_irem, ex_ineg, ex_i2l, ex_i2c, ex_i2b, ex_i2f, ex_i2d, ex_f2d, ex_fdiv, ex_ddiv, ex_lcmp, ex_dcmp, ex_getI, ex_getR, ex_putI, ex_putB, ex_putZ, ex_putR, ex_getsI, ex_getsR, ex_iald, ex_cald, ex_iast, ex_cast, ex_aast, ex_alen, ex_copy1, ex_copy2, ex_throw, ex_goto, ex_fall, ex_if_eq, ex_ic_eq, ex_if_ne, ex_ic_ne, ex_if_lt, ex_ic_lt, ex_if_ge, ex_ic_ge, ex_if_gt, ex_ic_gt, ex_if_le, ex_ic_le, ex_switch, ex_ireturn, ex_ireturn_z, ex_ireturn_b, ex_ireturn_c, ex_areturn, ex_freturn, ex_dreturn, ex_return, ex_is0, ex_is1, ex_is2, ex_is3, ex_is4, ex_is5, ex_is6, ex_is7, ex_iv1, ex_iv2, ex_iv3, ex_iv4, ex_iv5, ex_iv6, ex_iv7, ex_ip1, ex_ip2, ex_ip3, ex_ip4, ex_ip5, ex_ip6, ex_ip7, ex_iu1, ex_iu2, ex_iu3, ex_iu4, ex_iu5, ex_iu6, ex_iu7, List.getD_cons_zero, List.getD_cons_succ, List.set_cons_zero, List.set_cons_succ, isI_i, isA_r, isD_d, isF_f, GInc, ko_v, ko_n, cat_i2, cat_r2, cat_n2, cat_f2, cat_d2, cat_l2, Nat.zero_le, Nat.zero_add, Nat.le_refl, Nat.reduceAdd, Nat.reduceLeDiff, ne_eq, not_false_eq_true, Nat.reduceEqDiff, sI_mk, wI_mk, wCp_mk, Option.toList, List.nil_append, List.cons_append, kd_20, kd_21, kd_22, kd_23, kd_24, kd_25, kd_26, kd_27, kd_28, kd_29, kd_30, kd_31, kd_32, kd_33, kd_34, kd_35, kd_36, kd_37, kd_38, kd_39, kd_40, kd_41, kd_42, kd_43, kd_44, kd_45, kd_46, kd_47, kd_48, kd_49, kd_50, kd_51, kd_52, kd_53, kd_54]
      exact (ex_ireturn_z (Or.inr rfl)).mpr (hE _ _ _ n C (by omega) h)
    · rw [if_neg (show ¬ ik L - 5 < ik (5 * n) from fun z => absurd (Int32.lt_iff_toInt_lt.mp z) (by rw [len5 hL, ik_toInt (by omega)]; omega))]
      have hq : Nx Q (d + 30) L xs (60 * n + 60) (n + 1) (5 * n) := by
        intro f' N' r' C' v6 v7 v8 h'
        have a5 : ik (5 * n) + 5 = ik (5 * (n + 1)) := ik_add (b := 5)
        rw [jb361_158]
        simp only [B361_158, ex_iconst, ex_bipush, ex_sipush, ex_ldc, ex_ldcs, ex_fconst, ex_dconst, ex_iload_n, ex_iload, ex_aload_n, ex_aload, ex_dload_n, ex_dload, ex_fload, ex_istore_n, ex_istore, ex_fstore, ex_dstore_n, ex_dstore, ex_astore_n, ex_astore, ex_iinc, ex_ginc, ex_pop_i, ex_pop_r, ex_dup_i, ex_dup_r, ex_dup_x1, ex_dup2, ex_iadd, ex_isub, ex_imul, ex_iand, ex_ior, ex_ixor, ex_ishl, ex_ishr, ex_idiv, ex_irem, ex_ineg, ex_i2l, ex_i2c, ex_i2b, ex_i2f, ex_i2d, ex_f2d, ex_fdiv, ex_ddiv, ex_lcmp, ex_dcmp, ex_getI, ex_getR, ex_putI, ex_putB, ex_putZ, ex_putR, ex_getsI, ex_getsR, ex_iald, ex_cald, ex_iast, ex_cast, ex_aast, ex_alen, ex_copy1, ex_copy2, ex_throw, ex_goto, ex_fall, ex_if_eq, ex_ic_eq, ex_if_ne, ex_ic_ne, ex_if_lt, ex_ic_lt, ex_if_ge, ex_ic_ge, ex_if_gt, ex_ic_gt, ex_if_le, ex_ic_le, ex_switch, ex_ireturn, ex_ireturn_z, ex_ireturn_b, ex_ireturn_c, ex_areturn, ex_freturn, ex_dreturn, ex_return, ex_is0, ex_is1, ex_is2, ex_is3, ex_is4, ex_is5, ex_is6, ex_is7, ex_iv1, ex_iv2, ex_iv3, ex_iv4, ex_iv5, ex_iv6, ex_iv7, ex_ip1, ex_ip2, ex_ip3, ex_ip4, ex_ip5, ex_ip6, ex_ip7, ex_iu1, ex_iu2, ex_iu3, ex_iu4, ex_iu5, ex_iu6, ex_iu7, List.getD_cons_zero, List.getD_cons_succ, List.set_cons_zero, List.set_cons_succ, isI_i, isA_r, isD_d, isF_f, GInc, ko_v, ko_n, cat_i2, cat_r2, cat_n2, cat_f2, cat_d2, cat_l2, Nat.zero_le, Nat.zero_add, Nat.le_refl, Nat.reduceAdd, Nat.reduceLeDiff, ne_eq, not_false_eq_true, Nat.reduceEqDiff, sI_mk, wI_mk, wCp_mk, Option.toList, List.nil_append, List.cons_append, kd_20, kd_21, kd_22, kd_23, kd_24, kd_25, kd_26, kd_27, kd_28, kd_29, kd_30, kd_31, kd_32, kd_33, kd_34, kd_35, kd_36, kd_37, kd_38, kd_39, kd_40, kd_41, kd_42, kd_43, kd_44, kd_45, kd_46, kd_47, kd_48, kd_49, kd_50, kd_51, kd_52, kd_53, kd_54, a5]
        exact loop_ok hL hE m (n + 1) f' N' r' C' v6 v7 v8 (by omega) (by omega) h'
      simp only [ex_iconst, ex_bipush, ex_sipush, ex_ldc, ex_ldcs, ex_fconst, ex_dconst, ex_iload_n, ex_iload, ex_aload_n, ex_aload, ex_dload_n, ex_dload, ex_fload, ex_istore_n, ex_istore, ex_fstore, ex_dstore_n, ex_dstore, ex_astore_n, ex_astore, ex_iinc, ex_ginc, ex_pop_i, ex_pop_r, ex_dup_i, ex_dup_r, ex_dup_x1, ex_dup2, ex_iadd, ex_isub, ex_imul, ex_iand, ex_ior, ex_ixor, ex_ishl, ex_ishr, ex_idiv, ex_irem, ex_ineg, ex_i2l, ex_i2c, ex_i2b, ex_i2f, ex_i2d, ex_f2d, ex_fdiv, ex_ddiv, ex_lcmp, ex_dcmp, ex_getI, ex_getR, ex_putI, ex_putB, ex_putZ, ex_putR, ex_getsI, ex_getsR, ex_iald, ex_cald, ex_iast, ex_cast, ex_aast, ex_alen, ex_copy1, ex_copy2, ex_throw, ex_goto, ex_fall, ex_if_eq, ex_ic_eq, ex_if_ne, ex_ic_ne, ex_if_lt, ex_ic_lt, ex_if_ge, ex_ic_ge, ex_if_gt, ex_ic_gt, ex_if_le, ex_ic_le, ex_switch, ex_ireturn, ex_ireturn_z, ex_ireturn_b, ex_ireturn_c, ex_areturn, ex_freturn, ex_dreturn, ex_return, ex_is0, ex_is1, ex_is2, ex_is3, ex_is4, ex_is5, ex_is6, ex_is7, ex_iv1, ex_iv2, ex_iv3, ex_iv4, ex_iv5, ex_iv6, ex_iv7, ex_ip1, ex_ip2, ex_ip3, ex_ip4, ex_ip5, ex_ip6, ex_ip7, ex_iu1, ex_iu2, ex_iu3, ex_iu4, ex_iu5, ex_iu6, ex_iu7, List.getD_cons_zero, List.getD_cons_succ, List.set_cons_zero, List.set_cons_succ, isI_i, isA_r, isD_d, isF_f, GInc, ko_v, ko_n, cat_i2, cat_r2, cat_n2, cat_f2, cat_d2, cat_l2, Nat.zero_le, Nat.zero_add, Nat.le_refl, Nat.reduceAdd, Nat.reduceLeDiff, ne_eq, not_false_eq_true, Nat.reduceEqDiff, sI_mk, wI_mk, wCp_mk, Option.toList, List.nil_append, List.cons_append, kd_20, kd_21, kd_22, kd_23, kd_24, kd_25, kd_26, kd_27, kd_28, kd_29, kd_30, kd_31, kd_32, kd_33, kd_34, kd_35, kd_36, kd_37, kd_38, kd_39, kd_40, kd_41, kd_42, kd_43, kd_44, kd_45, kd_46, kd_47, kd_48, kd_49, kd_50, kd_51, kd_52, kd_53, kd_54, ld_ok (j := 5 * n) h (by omega) hL]
      obtain ⟨k, hk, ek⟩ := and63 (x := xs (5 * n))
      rw [ek, tg_eq k hk]
      exact kd_all h (by omega) (by omega) hL hq (by omega) k hk
end Loop
theorem am_ok : AMok := by
  intro L xs vF hv hL
  have H : Cl 40 361 [vr 55 0] (E0 L xs vF) (fun o S2 => o = .inl (some (vi 1)) ∧ sN S2 ≤ 603072 ∧ sM S2 ≤ 7207018) := by
    refine start_ok (d := 34) (f := (E0 L xs vF).1) (r := (E0 L xs vF).2) (L := L) (xs := xs) (fun t => rfl) rfl rfl ⟨fun x hx => ⟨if_pos ⟨rfl, hx, rfl⟩, rfl, rfl, fun j => rfl⟩, rfl, vF, rfl, hv⟩ ⟨rfl, rfl, rfl, rfl, fun k => rfl, fun k => rfl⟩ rfl (fun k => rfl) (fun k => rfl) (fun f N r u6 u7 u8 hb => ?_)
    refine loop_ok (d := 9) hL (fun f N r n C hn h => ?_) 513 0 f N r Cs0 u6 u7 u8 rfl (Nat.zero_le _) hb
    have hc := capR_le h.1
    have h1 := h.2.2.2.2.2.2.2.2.2.1
    have h2 := h.2.2.2.2.2.2.2.2.2.2
    exact ⟨rfl, by show r.2.2.2.2.2.1 ≤ 603072; omega, by show r.2.2.2.2.2.2 ≤ 7207018; omega⟩
  obtain ⟨n, ⟨o, S2⟩, e, rfl, h1, h2⟩ := H
  exact ⟨n, S2, e, h1, h2⟩
