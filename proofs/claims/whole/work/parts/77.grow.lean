/-! the StringBuilder grows -/
def capR (r : SR) : Nat := match r.1 10 0 0 with
  | .inr (t, j) => r.2.2.2.1 t j
  | .inl _ => 0
/-- the same shape but for the StringBuilder's row; the room that a longer row has cost -/
def Grw (r r' : SR) : Prop := (∀ t i k, t ≠ 10 → t ≠ 42 → r'.1 t i k = r.1 t i k) ∧ (∀ t i, t ≠ 42 → r'.2.2.2.1 t i = r.2.2.2.1 t i) ∧ (∀ t, t ≠ 42 → r'.2.2.2.2.1 t = r.2.2.2.2.1 t) ∧ capR r ≤ capR r' ∧ r'.2.2.2.2.2.1 + capR r ≤ r.2.2.2.2.2.1 + capR r' ∧ r'.2.2.2.2.2.2 + 2 * capR r ≤ r.2.2.2.2.2.2 + 2 * capR r'
theorem Grw.rf {r : SR} : Grw r r := ⟨fun _ _ _ _ _ => rfl, fun _ _ _ => rfl, fun _ _ => rfl, Nat.le_refl _, Nat.le_refl _, Nat.le_refl _⟩
theorem Grw.tr {a b c : SR} (h : Grw a b) (g : Grw b c) : Grw a c := by
  obtain ⟨h1, h2, h3, h4, h5, h6⟩ := h
  obtain ⟨g1, g2, g3, g4, g5, g6⟩ := g
  exact ⟨fun t i k p q => (g1 t i k p q).trans (h1 t i k p q), fun t i p => (g2 t i p).trans (h2 t i p), fun t p => (g3 t p).trans (h3 t p), by omega, by omega, by omega⟩
theorem StG.gr {r r' : SR} (h : StG r) (g : Grw r r') : StG r' := by
  obtain ⟨g1, g2, -⟩ := g
  unfold StG at h ⊢
  simp only [g1, g2, ne_eq, Nat.reduceEqDiff, not_false_eq_true]
  exact h
theorem StD.gr {r r' : SR} {i : Nat} (h : StD r i) (g : Grw r r') : StD r' i := by
  obtain ⟨g1, g2, -⟩ := g
  unfold StD at h ⊢
  simp only [g1, g2, ne_eq, Nat.reduceEqDiff, not_false_eq_true]
  exact h
theorem Stt.gr {r r' : SR} (h : Stt r) (g : Grw r r') : Stt r' := ⟨fun i hi => (h.1 i hi).gr g, h.2.1.gr g, fun k hk => (g.1 _ _ _ (by decide) (by decide)).trans (h.2.2 k hk)⟩
theorem Kst.gr {f : SF} {r r' : SR} (h : Kst f r) (g : Grw r r') : Kst f r' := by
  obtain ⟨h1, h2, vF, h3, h4⟩ := h
  exact ⟨fun x hx => ⟨(g.1 _ _ _ (by decide) (by decide)).trans (h1 x hx).1, (h1 x hx).2.1, (g.2.1 _ _ (by decide)).trans (h1 x hx).2.2.1, (h1 x hx).2.2.2⟩, h2, vF, (g.1 _ _ _ (by decide) (by decide)).trans h3, h4⟩
theorem LayW.cap {f : SF} {r : SR} {l : List Int32} (h : LayW f r l) : l.length ≤ capR r ∧ 16 ≤ capR r ∧ capR r ≤ 1000 ∧ ∃ j, r.1 10 0 0 = vr 42 j ∧ r.2.2.2.1 42 j = capR r := by
  obtain ⟨j, cap, h1, h2, h3, h4, h5, h5b, h6, h7, h8, h9⟩ := h
  have e : capR r = cap := by
    unfold capR
    rw [h1]
    exact h4
  rw [e]
  exact ⟨h5, h5b, h6, j, h1, h4⟩
/-- a new row named, another in the StringBuilder's place -/
def grS (r : SR) (c : Nat) : SR := (nw ((fun _ _ _ => 0 : SF), r) 42 c c).2
def grR (r : SR) (c : Nat) : SR := (up3 (grS r c).1 10 0 0 (vr 42 (r.2.2.2.2.1 42)), (grS r c).2)
theorem nw_mk {f : SF} {r : SR} {c : Nat} : nw (f, r) 42 c c = (clr f 42 (r.2.2.2.2.1 42) 0, grS r c) := rfl
theorem wR_mk {f : SF} {r : SR} {t i k : Nat} {v : AV} : wR (f, r) t i k v = (f, (up3 r.1 t i k v, r.2)) := rfl
theorem grS_l {r : SR} {c a b : Nat} : (grS r c).2.2.2.1 a b = if a = 42 ∧ b = r.2.2.2.2.1 42 then c else r.2.2.2.1 a b := rfl
theorem grS_r {r : SR} {c t i k : Nat} (h : t ≠ 42) : (grS r c).1 t i k = r.1 t i k := by
  show clr r.1 42 _ _ t i k = _
  unfold clr
  rw [if_neg (fun z => h z.1)]
theorem grR_0 {r : SR} {c : Nat} : (grR r c).1 10 0 0 = vr 42 (r.2.2.2.2.1 42) := by
  show up3 (grS r c).1 10 0 0 (vr 42 (r.2.2.2.2.1 42)) 10 0 0 = _
  unfold up3
  rw [if_pos ⟨rfl, rfl, rfl⟩]
theorem grR_n {r : SR} {c t i k : Nat} (h : t ≠ 10) : (grR r c).1 t i k = (grS r c).1 t i k := by
  show up3 (grS r c).1 10 0 0 (vr 42 (r.2.2.2.2.1 42)) t i k = _
  unfold up3
  rw [if_neg (fun z => h z.1)]
theorem capR_gr {r : SR} {c : Nat} : capR (grR r c) = c := by
  unfold capR
  rw [grR_0]
  show (grS r c).2.2.2.1 42 _ = c
  rw [grS_l, if_pos ⟨rfl, rfl⟩]
theorem grR_g {r : SR} {c : Nat} {j : Nat} (h1 : r.1 10 0 0 = vr 42 j) (h2 : r.2.2.2.1 42 j ≤ c) (h3 : c ≤ 2 * r.2.2.2.1 42 j + 2) (h4 : 2 * r.2.2.2.1 42 j + 2 ≤ c) : Grw r (grR r c) := by
  have e1 : capR r = r.2.2.2.1 42 j := by
    unfold capR
    rw [h1]
  have e2 : capR (grR r c) = c := capR_gr
  refine ⟨fun t i k p q => ?_, fun t i p => ?_, fun t p => ?_, by omega, ?_, ?_⟩
  · rw [grR_n p, grS_r q]
  · show (grS r c).2.2.2.1 t i = _
    rw [grS_l, if_neg (fun z => p z.1)]
  · show (if t = 42 then _ else _) = _
    rw [if_neg p]
  · show r.2.2.2.2.2.1 + 1 + _ ≤ _
    omega
  · show r.2.2.2.2.2.2 + c + _ ≤ _
    omega
section Grow
variable {d : Nat} {f : SF} {r : SR} {s : St} {Q : Ot → St → Prop}
theorem shl0 {x : Int32} : x <<< ((0 : Int32) &&& 31) = x := by rw [show (0 : Int32) &&& 31 = 0 by decide, Int32.shiftLeft_zero]
theorem shr0 {x : Int32} : x >>> ((0 : Int32) &&& 31) = x := by rw [show (0 : Int32) &&& 31 = 0 by decide, Int32.shiftRight_zero]
/-- a longer length -/
theorem len_ok {c n : Nat} (h1 : c < n) (h2 : n ≤ 2 * c + 2) (h3 : c ≤ 1000) : Cl (d + 2) 6 [vi (ik c), vi (ik (n - c)), vi (ik (c + 2))] s Q ↔ Q (.inl (some (vi (ik (2 * c + 2))))) s := by
  have e : imax (ik (n - c)) (ik (c + 2)) = ik (c + 2) := by rw [imax_ik (by omega) (by omega), mxq_r (by omega)]
  have e2 : ik c + ik (c + 2) = ik (2 * c + 2) := by rw [ik_add]; exact congrArg ik (by omega)
  have n1 : ¬ ik (2 * c + 2) ≤ 0 := by rw [show (0 : Int32) = ik 0 from rfl, ik_le (by omega) (by decide)]; omega
  have n2 : ¬ (2147483639 : Int32) < ik (2 * c + 2) := by rw [show (2147483639 : Int32) = ik 2147483639 from rfl, ik_lt (by decide) (by omega)]; omega
  rw [en6]
  simp only [B6_0, ex_iconst, ex_bipush, ex_sipush, ex_ldc, ex_ldcs, ex_fconst, ex_dconst, ex_iload_n, ex_iload, ex_aload_n, ex_aload, ex_dload_n, ex_dload, ex_fload, ex_istore_n, ex_istore, ex_fstore, ex_dstore_n, ex_dstore, ex_astore_n, ex_astore, ex_iinc, ex_ginc, ex_pop_i, ex_pop_r, ex_dup_i, ex_dup_r, ex_dup_x1, ex_dup2, ex_iadd, ex_isub, ex_imul, ex_iand, ex_ior, ex_ixor, ex_ishl, ex_ishr, ex_idiv, ex_irem, ex_ineg, ex_i2l, ex_i2c, ex_i2b, ex_i2f, ex_i2d, ex_f2d, ex_fdiv, ex_ddiv, ex_lcmp, ex_dcmp, ex_getI, ex_getR, ex_putI, ex_putB, ex_putZ, ex_putR, ex_getsI, ex_getsR, ex_iald, ex_cald, ex_iast, ex_cast, ex_aast, ex_alen, ex_copy1, ex_copy2, ex_throw, ex_goto, ex_fall, ex_if_eq, ex_ic_eq, ex_if_ne, ex_ic_ne, ex_if_lt, ex_ic_lt, ex_if_ge, ex_ic_ge, ex_if_gt, ex_ic_gt, ex_if_le, ex_ic_le, ex_switch, ex_ireturn, ex_ireturn_z, ex_ireturn_b, ex_ireturn_c, ex_areturn, ex_freturn, ex_dreturn, ex_return, ex_is0, ex_is1, ex_is2, ex_is3, ex_is4, ex_is5, ex_is6, ex_is7, ex_iv1, ex_iv2, ex_iv3, ex_iv4, ex_iv5, ex_iv6, ex_iv7, ex_ip1, ex_ip2, ex_ip3, ex_ip4, ex_ip5, ex_ip6, ex_ip7, ex_iu1, ex_iu2, ex_iu3, ex_iu4, ex_iu5, ex_iu6, ex_iu7, List.getD_cons_zero, List.getD_cons_succ, List.set_cons_zero, List.set_cons_succ, isI_i, isA_r, isD_d, isF_f, GInc, ko_v, ko_n, cat_i2, cat_r2, cat_n2, cat_f2, cat_d2, cat_l2, Nat.zero_le, Nat.zero_add, Nat.le_refl, Nat.reduceAdd, Nat.reduceLeDiff, ne_eq, not_false_eq_true, Nat.reduceEqDiff, sI_mk, wI_mk, wCp_mk, Option.toList, List.nil_append, List.cons_append, kd_20, kd_21, kd_22, kd_23, kd_24, kd_25, kd_26, kd_27, kd_28, kd_29, kd_30, kd_31, kd_32, kd_33, kd_34, kd_35, kd_36, kd_37, kd_38, kd_39, kd_40, kd_41, kd_42, kd_43, kd_44, kd_45, kd_46, kd_47, kd_48, kd_49, kd_50, kd_51, kd_52, kd_53, kd_54, max_ok, e, e2, n1, n2, if_false]
theorem nln_ok {j c n : Nat} (hr : r.1 10 0 0 = vr 42 j) (hl : r.2.2.2.1 42 j = c) (h0 : f 10 0 1 = 0) (h1 : c < n) (h2 : n ≤ 2 * c + 2) (h3 : c ≤ 1000) : Cl (d + 3) 5 [vr 10 0, vi (ik n)] (f, r) Q ↔ Q (.inl (some (vi (ik (2 * c + 2))))) (f, r) := by
  have e1 : sR (f, r) 10 0 0 = vr 42 j := hr
  have e4 : sL (f, r) 42 j = c := hl
  have es : ik n - Int32.ofNat c = ik (n - c) := ik_sub (by omega)
  have ea : Int32.ofNat c + 2 = ik (c + 2) := ik_add (b := 2)
  have n1 : ¬ ik (2 * c + 2) = 2147483647 := by rw [show (2147483647 : Int32) = ik 2147483647 from rfl, ik_inj (by omega) (by decide)]; omega
  have o := fun Q => len_ok (d := d) (s := (f, r)) (Q := Q) h1 h2 h3
  rw [en5]
  simp only [B5_0, ex_iconst, ex_bipush, ex_sipush, ex_ldc, ex_ldcs, ex_fconst, ex_dconst, ex_iload_n, ex_iload, ex_aload_n, ex_aload, ex_dload_n, ex_dload, ex_fload, ex_istore_n, ex_istore, ex_fstore, ex_dstore_n, ex_dstore, ex_astore_n, ex_astore, ex_iinc, ex_ginc, ex_pop_i, ex_pop_r, ex_dup_i, ex_dup_r, ex_dup_x1, ex_dup2, ex_iadd, ex_isub, ex_imul, ex_iand, ex_ior, ex_ixor, ex_ishl, ex_ishr, ex_idiv, ex_irem, ex_ineg, ex_i2l, ex_i2c, ex_i2b, ex_i2f, ex_i2d, ex_f2d, ex_fdiv, ex_ddiv, ex_lcmp, ex_dcmp, ex_getI, ex_getR, ex_putI, ex_putB, ex_putZ, ex_putR, ex_getsI, ex_getsR, ex_iald, ex_cald, ex_iast, ex_cast, ex_aast, ex_alen, ex_copy1, ex_copy2, ex_throw, ex_goto, ex_fall, ex_if_eq, ex_ic_eq, ex_if_ne, ex_ic_ne, ex_if_lt, ex_ic_lt, ex_if_ge, ex_ic_ge, ex_if_gt, ex_ic_gt, ex_if_le, ex_ic_le, ex_switch, ex_ireturn, ex_ireturn_z, ex_ireturn_b, ex_ireturn_c, ex_areturn, ex_freturn, ex_dreturn, ex_return, ex_is0, ex_is1, ex_is2, ex_is3, ex_is4, ex_is5, ex_is6, ex_is7, ex_iv1, ex_iv2, ex_iv3, ex_iv4, ex_iv5, ex_iv6, ex_iv7, ex_ip1, ex_ip2, ex_ip3, ex_ip4, ex_ip5, ex_ip6, ex_ip7, ex_iu1, ex_iu2, ex_iu3, ex_iu4, ex_iu5, ex_iu6, ex_iu7, List.getD_cons_zero, List.getD_cons_succ, List.set_cons_zero, List.set_cons_succ, isI_i, isA_r, isD_d, isF_f, GInc, ko_v, ko_n, cat_i2, cat_r2, cat_n2, cat_f2, cat_d2, cat_l2, Nat.zero_le, Nat.zero_add, Nat.le_refl, Nat.reduceAdd, Nat.reduceLeDiff, ne_eq, not_false_eq_true, Nat.reduceEqDiff, sI_mk, wI_mk, wCp_mk, Option.toList, List.nil_append, List.cons_append, kd_20, kd_21, kd_22, kd_23, kd_24, kd_25, kd_26, kd_27, kd_28, kd_29, kd_30, kd_31, kd_32, kd_33, kd_34, kd_35, kd_36, kd_37, kd_38, kd_39, kd_40, kd_41, kd_42, kd_43, kd_44, kd_45, kd_46, kd_47, kd_48, kd_49, kd_50, kd_51, kd_52, kd_53, kd_54, e1, e4, kd_42, h0, shl0, shr0, es, ea, o, n1, ne_eq, not_false_eq_true, if_true, jb5_1, B5_1]
theorem cpo_ok {j c n : Nat} (hj : j < r.2.2.2.2.1 42) (hl : r.2.2.2.1 42 j = c) (h1 : c < n) (h3 : n ≤ 1000) (hb : ∀ k, k < c → (f 42 j k).toInt8.toInt32 = f 42 j k) : Cl (d + 2) 7 [vr 42 j, vi (ik n)] (f, r) Q ↔ Q (.inl (some (vr 42 (r.2.2.2.2.1 42)))) (cp (clr f 42 (r.2.2.2.2.1 42) 0) 42 j 0 42 (r.2.2.2.2.1 42) 0 c, grS r n) := by
  have e4 : sL (f, r) 42 j = c := hl
  have n1 : ¬ ik n = Int32.ofNat c := by rw [show Int32.ofNat c = ik c from rfl, ik_inj (by omega) (by omega)]; omega
  have hx : ix (ik n) = n := ix_ik (by omega)
  have ht : (ik n).toInt = n := ik_toInt (by omega)
  have ec : sC (f, r) 42 = r.2.2.2.2.1 42 := rfl
  have e5 : sL (clr f 42 (r.2.2.2.2.1 42) 0, grS r n) 42 j = c := by
    show (grS r n).2.2.2.1 42 j = c
    rw [grS_l, if_neg (by omega)]
    exact hl
  have e6 : sL (clr f 42 (r.2.2.2.2.1 42) 0, grS r n) 42 (r.2.2.2.2.1 42) = n := by
    show (grS r n).2.2.2.1 42 _ = n
    rw [grS_l, if_pos ⟨rfl, rfl⟩]
  have em : imin (Int32.ofNat c) (ik n) = ik c := by
    show imin (ik c) (ik n) = ik c
    unfold imin
    rw [if_pos ((ik_le (by omega) (by omega)).mpr (by omega))]
  have h0 : ix (0 : Int32) = 0 := by decide
  have hxc : ix (ik c) = c := ix_ik (by omega)
  rw [en7]
  simp only [B7_0, ex_iconst, ex_bipush, ex_sipush, ex_ldc, ex_ldcs, ex_fconst, ex_dconst, ex_iload_n, ex_iload, ex_aload_n, ex_aload, ex_dload_n, ex_dload, ex_fload, ex_istore_n, ex_istore, ex_fstore, ex_dstore_n, ex_dstore, ex_astore_n, ex_astore, ex_iinc, ex_ginc, ex_pop_i, ex_pop_r, ex_dup_i, ex_dup_r, ex_dup_x1, ex_dup2, ex_iadd, ex_isub, ex_imul, ex_iand, ex_ior, ex_ixor, ex_ishl, ex_ishr, ex_idiv, ex_irem, ex_ineg, ex_i2l, ex_i2c, ex_i2b, ex_i2f, ex_i2d, ex_f2d, ex_fdiv, ex_ddiv, ex_lcmp, ex_dcmp, ex_getI, ex_getR, ex_putI, ex_putB, ex_putZ, ex_putR, ex_getsI, ex_getsR, ex_iald, ex_cald, ex_iast, ex_cast, ex_aast, ex_alen, ex_copy1, ex_copy2, ex_throw, ex_goto, ex_fall, ex_if_eq, ex_ic_eq, ex_if_ne, ex_ic_ne, ex_if_lt, ex_ic_lt, ex_if_ge, ex_ic_ge, ex_if_gt, ex_ic_gt, ex_if_le, ex_ic_le, ex_switch, ex_ireturn, ex_ireturn_z, ex_ireturn_b, ex_ireturn_c, ex_areturn, ex_freturn, ex_dreturn, ex_return, ex_is0, ex_is1, ex_is2, ex_is3, ex_is4, ex_is5, ex_is6, ex_is7, ex_iv1, ex_iv2, ex_iv3, ex_iv4, ex_iv5, ex_iv6, ex_iv7, ex_ip1, ex_ip2, ex_ip3, ex_ip4, ex_ip5, ex_ip6, ex_ip7, ex_iu1, ex_iu2, ex_iu3, ex_iu4, ex_iu5, ex_iu6, ex_iu7, List.getD_cons_zero, List.getD_cons_succ, List.set_cons_zero, List.set_cons_succ, isI_i, isA_r, isD_d, isF_f, GInc, ko_v, ko_n, cat_i2, cat_r2, cat_n2, cat_f2, cat_d2, cat_l2, Nat.zero_le, Nat.zero_add, Nat.le_refl, Nat.reduceAdd, Nat.reduceLeDiff, ne_eq, not_false_eq_true, Nat.reduceEqDiff, sI_mk, wI_mk, wCp_mk, Option.toList, List.nil_append, List.cons_append, kd_20, kd_21, kd_22, kd_23, kd_24, kd_25, kd_26, kd_27, kd_28, kd_29, kd_30, kd_31, kd_32, kd_33, kd_34, kd_35, kd_36, kd_37, kd_38, kd_39, kd_40, kd_41, kd_42, kd_43, kd_44, kd_45, kd_46, kd_47, kd_48, kd_49, kd_50, kd_51, kd_52, kd_53, kd_54, e4, kd_42, n1, ne_eq, not_false_eq_true, if_true, jb7_1, B7_1]
  refine Iff.trans (ex_newa (by rw [ht]; omega) (by rw [ht]; omega)) ?_
  rw [hx, nw_mk, ec]
  simp only [ex_iconst, ex_bipush, ex_sipush, ex_ldc, ex_ldcs, ex_fconst, ex_dconst, ex_iload_n, ex_iload, ex_aload_n, ex_aload, ex_dload_n, ex_dload, ex_fload, ex_istore_n, ex_istore, ex_fstore, ex_dstore_n, ex_dstore, ex_astore_n, ex_astore, ex_iinc, ex_ginc, ex_pop_i, ex_pop_r, ex_dup_i, ex_dup_r, ex_dup_x1, ex_dup2, ex_iadd, ex_isub, ex_imul, ex_iand, ex_ior, ex_ixor, ex_ishl, ex_ishr, ex_idiv, ex_irem, ex_ineg, ex_i2l, ex_i2c, ex_i2b, ex_i2f, ex_i2d, ex_f2d, ex_fdiv, ex_ddiv, ex_lcmp, ex_dcmp, ex_getI, ex_getR, ex_putI, ex_putB, ex_putZ, ex_putR, ex_getsI, ex_getsR, ex_iald, ex_cald, ex_iast, ex_cast, ex_aast, ex_alen, ex_copy1, ex_copy2, ex_throw, ex_goto, ex_fall, ex_if_eq, ex_ic_eq, ex_if_ne, ex_ic_ne, ex_if_lt, ex_ic_lt, ex_if_ge, ex_ic_ge, ex_if_gt, ex_ic_gt, ex_if_le, ex_ic_le, ex_switch, ex_ireturn, ex_ireturn_z, ex_ireturn_b, ex_ireturn_c, ex_areturn, ex_freturn, ex_dreturn, ex_return, ex_is0, ex_is1, ex_is2, ex_is3, ex_is4, ex_is5, ex_is6, ex_is7, ex_iv1, ex_iv2, ex_iv3, ex_iv4, ex_iv5, ex_iv6, ex_iv7, ex_ip1, ex_ip2, ex_ip3, ex_ip4, ex_ip5, ex_ip6, ex_ip7, ex_iu1, ex_iu2, ex_iu3, ex_iu4, ex_iu5, ex_iu6, ex_iu7, List.getD_cons_zero, List.getD_cons_succ, List.set_cons_zero, List.set_cons_succ, isI_i, isA_r, isD_d, isF_f, GInc, ko_v, ko_n, cat_i2, cat_r2, cat_n2, cat_f2, cat_d2, cat_l2, Nat.zero_le, Nat.zero_add, Nat.le_refl, Nat.reduceAdd, Nat.reduceLeDiff, ne_eq, not_false_eq_true, Nat.reduceEqDiff, sI_mk, wI_mk, wCp_mk, Option.toList, List.nil_append, List.cons_append, kd_20, kd_21, kd_22, kd_23, kd_24, kd_25, kd_26, kd_27, kd_28, kd_29, kd_30, kd_31, kd_32, kd_33, kd_34, kd_35, kd_36, kd_37, kd_38, kd_39, kd_40, kd_41, kd_42, kd_43, kd_44, kd_45, kd_46, kd_47, kd_48, kd_49, kd_50, kd_51, kd_52, kd_53, kd_54, e5, kd_42, min_ok, em]
  refine Iff.trans (ex_copy2 kd_42 kd_42 (by decide) (by decide) (by rw [ik_toInt (by omega)]; omega) (by rw [h0, hxc, e5]; omega) (by rw [h0, hxc, e6]; omega) (by decide) ?_) ?_
  · rw [h0, hxc]
    unfold bytesOk
    rw [List.all_eq_true]
    intro k hk
    rw [List.mem_range] at hk
    have e : sI (clr f 42 (r.2.2.2.2.1 42) 0, grS r n) 42 j (0 + k) = f 42 j k := by
      show clr f 42 _ 0 42 j (0 + k) = _
      unfold clr
      rw [if_neg (by omega), Nat.zero_add]
    rw [e]
    exact decide_eq_true (hb k hk).symm
  · rw [h0, hxc, wCp_mk]
    simp only [ex_iconst, ex_bipush, ex_sipush, ex_ldc, ex_ldcs, ex_fconst, ex_dconst, ex_iload_n, ex_iload, ex_aload_n, ex_aload, ex_dload_n, ex_dload, ex_fload, ex_istore_n, ex_istore, ex_fstore, ex_dstore_n, ex_dstore, ex_astore_n, ex_astore, ex_iinc, ex_ginc, ex_pop_i, ex_pop_r, ex_dup_i, ex_dup_r, ex_dup_x1, ex_dup2, ex_iadd, ex_isub, ex_imul, ex_iand, ex_ior, ex_ixor, ex_ishl, ex_ishr, ex_idiv, ex_irem, ex_ineg, ex_i2l, ex_i2c, ex_i2b, ex_i2f, ex_i2d, ex_f2d, ex_fdiv, ex_ddiv, ex_lcmp, ex_dcmp, ex_getI, ex_getR, ex_putI, ex_putB, ex_putZ, ex_putR, ex_getsI, ex_getsR, ex_iald, ex_cald, ex_iast, ex_cast, ex_aast, ex_alen, ex_copy1, ex_copy2, ex_throw, ex_goto, ex_fall, ex_if_eq, ex_ic_eq, ex_if_ne, ex_ic_ne, ex_if_lt, ex_ic_lt, ex_if_ge, ex_ic_ge, ex_if_gt, ex_ic_gt, ex_if_le, ex_ic_le, ex_switch, ex_ireturn, ex_ireturn_z, ex_ireturn_b, ex_ireturn_c, ex_areturn, ex_freturn, ex_dreturn, ex_return, ex_is0, ex_is1, ex_is2, ex_is3, ex_is4, ex_is5, ex_is6, ex_is7, ex_iv1, ex_iv2, ex_iv3, ex_iv4, ex_iv5, ex_iv6, ex_iv7, ex_ip1, ex_ip2, ex_ip3, ex_ip4, ex_ip5, ex_ip6, ex_ip7, ex_iu1, ex_iu2, ex_iu3, ex_iu4, ex_iu5, ex_iu6, ex_iu7, List.getD_cons_zero, List.getD_cons_succ, List.set_cons_zero, List.set_cons_succ, isI_i, isA_r, isD_d, isF_f, GInc, ko_v, ko_n, cat_i2, cat_r2, cat_n2, cat_f2, cat_d2, cat_l2, Nat.zero_le, Nat.zero_add, Nat.le_refl, Nat.reduceAdd, Nat.reduceLeDiff, ne_eq, not_false_eq_true, Nat.reduceEqDiff, sI_mk, wI_mk, wCp_mk, Option.toList, List.nil_append, List.cons_append, kd_20, kd_21, kd_22, kd_23, kd_24, kd_25, kd_26, kd_27, kd_28, kd_29, kd_30, kd_31, kd_32, kd_33, kd_34, kd_35, kd_36, kd_37, kd_38, kd_39, kd_40, kd_41, kd_42, kd_43, kd_44, kd_45, kd_46, kd_47, kd_48, kd_49, kd_50, kd_51, kd_52, kd_53, kd_54]
theorem ens_gr {l : List Int32} (h : LayW f r l) {n c : Nat} (hc : capR r = c) (h1 : c < n) (h2 : n ≤ 2 * c + 2) (h3 : 2 * c + 2 ≤ 1000) (hq : ∀ f', LayW f' (grR r (2 * c + 2)) l → FrW f f' → Grw r (grR r (2 * c + 2)) → Q (.inl none) (f', grR r (2 * c + 2))) : Cl (d + 4) 4 [vr 10 0, vi (ik n)] (f, r) Q := by
  obtain ⟨l5, l6, l7, -⟩ := h.cap
  obtain ⟨j, cap, g1, g2, g3, g4, g5, g5b, g6, ⟨g7, g7b⟩, g8, g9⟩ := h
  have e : capR r = cap := by
    unfold capR
    rw [g1]
    exact g4
  have ecc : cap = c := e.symm.trans hc
  subst ecc
  have e1 : sR (f, r) 10 0 0 = vr 42 j := g1
  have e4 : sL (f, r) 42 j = cap := g4
  have es : ik n - Int32.ofNat cap = ik (n - cap) := ik_sub (by omega)
  have n1 : ¬ ik (n - cap) ≤ 0 := by rw [show (0 : Int32) = ik 0 from rfl, ik_le (by omega) (by decide)]; omega
  have o5 := fun Q => nln_ok (d := d) (f := f) (r := r) (Q := Q) g1 g4 g2 h1 h2 (by omega)
  have o7 := fun Q => cpo_ok (d := d + 1) (f := f) (r := r) (Q := Q) (n := 2 * cap + 2) g7 g4 (by omega) h3 g7b
  rw [en4]
  simp only [B4_0, ex_iconst, ex_bipush, ex_sipush, ex_ldc, ex_ldcs, ex_fconst, ex_dconst, ex_iload_n, ex_iload, ex_aload_n, ex_aload, ex_dload_n, ex_dload, ex_fload, ex_istore_n, ex_istore, ex_fstore, ex_dstore_n, ex_dstore, ex_astore_n, ex_astore, ex_iinc, ex_ginc, ex_pop_i, ex_pop_r, ex_dup_i, ex_dup_r, ex_dup_x1, ex_dup2, ex_iadd, ex_isub, ex_imul, ex_iand, ex_ior, ex_ixor, ex_ishl, ex_ishr, ex_idiv, ex_irem, ex_ineg, ex_i2l, ex_i2c, ex_i2b, ex_i2f, ex_i2d, ex_f2d, ex_fdiv, ex_ddiv, ex_lcmp, ex_dcmp, ex_getI, ex_getR, ex_putI, ex_putB, ex_putZ, ex_putR, ex_getsI, ex_getsR, ex_iald, ex_cald, ex_iast, ex_cast, ex_aast, ex_alen, ex_copy1, ex_copy2, ex_throw, ex_goto, ex_fall, ex_if_eq, ex_ic_eq, ex_if_ne, ex_ic_ne, ex_if_lt, ex_ic_lt, ex_if_ge, ex_ic_ge, ex_if_gt, ex_ic_gt, ex_if_le, ex_ic_le, ex_switch, ex_ireturn, ex_ireturn_z, ex_ireturn_b, ex_ireturn_c, ex_areturn, ex_freturn, ex_dreturn, ex_return, ex_is0, ex_is1, ex_is2, ex_is3, ex_is4, ex_is5, ex_is6, ex_is7, ex_iv1, ex_iv2, ex_iv3, ex_iv4, ex_iv5, ex_iv6, ex_iv7, ex_ip1, ex_ip2, ex_ip3, ex_ip4, ex_ip5, ex_ip6, ex_ip7, ex_iu1, ex_iu2, ex_iu3, ex_iu4, ex_iu5, ex_iu6, ex_iu7, List.getD_cons_zero, List.getD_cons_succ, List.set_cons_zero, List.set_cons_succ, isI_i, isA_r, isD_d, isF_f, GInc, ko_v, ko_n, cat_i2, cat_r2, cat_n2, cat_f2, cat_d2, cat_l2, Nat.zero_le, Nat.zero_add, Nat.le_refl, Nat.reduceAdd, Nat.reduceLeDiff, ne_eq, not_false_eq_true, Nat.reduceEqDiff, sI_mk, wI_mk, wCp_mk, Option.toList, List.nil_append, List.cons_append, kd_20, kd_21, kd_22, kd_23, kd_24, kd_25, kd_26, kd_27, kd_28, kd_29, kd_30, kd_31, kd_32, kd_33, kd_34, kd_35, kd_36, kd_37, kd_38, kd_39, kd_40, kd_41, kd_42, kd_43, kd_44, kd_45, kd_46, kd_47, kd_48, kd_49, kd_50, kd_51, kd_52, kd_53, kd_54, e1, e4, kd_42, g2, shr0, shl0, es, n1, if_false, o5, o7, wR_mk, jb4_1, B4_1]
  have hcp : ∀ t i k, ¬ (t = 42 ∧ i = r.2.2.2.2.1 42) → cp (clr f 42 (r.2.2.2.2.1 42) 0) 42 j 0 42 (r.2.2.2.2.1 42) 0 cap t i k = f t i k := fun t i k hn => by
    unfold cp clr
    rw [if_neg (by omega), if_neg hn]
  have hcq : ∀ k, k < cap → cp (clr f 42 (r.2.2.2.2.1 42) 0) 42 j 0 42 (r.2.2.2.2.1 42) 0 cap 42 (r.2.2.2.2.1 42) k = f 42 j k := fun k hk => by
    unfold cp clr
    rw [if_pos ⟨rfl, rfl, by omega, by omega⟩, if_neg (by omega)]
    exact congrArg (f 42 j) (by omega)
  have hcz : ∀ k, ¬ k < cap → cp (clr f 42 (r.2.2.2.2.1 42) 0) 42 j 0 42 (r.2.2.2.2.1 42) 0 cap 42 (r.2.2.2.2.1 42) k = 0 := fun k hk => by
    unfold cp clr
    rw [if_neg (by omega), if_pos ⟨rfl, rfl⟩]
  refine hq _ ⟨r.2.2.2.2.1 42, 2 * cap + 2, ?_, (hcp _ _ _ (by omega)).trans g2, (hcp _ _ _ (by omega)).trans g3, ?_, by omega, by omega, h3, ⟨?_, fun k hk => ?_⟩, fun k x hk => ?_, g9⟩ (fun t i k p q => hcp t i k (fun z => q z.1)) (grR_g g1 (by omega) (by omega) (by omega))
  · exact grR_0
  · show (grS r (2 * cap + 2)).2.2.2.1 42 _ = _
    rw [grS_l, if_pos ⟨rfl, rfl⟩]
  · show r.2.2.2.2.1 42 < (if (42 : Nat) = 42 then r.2.2.2.2.1 42 + 1 else r.2.2.2.2.1 42)
    rw [if_pos rfl]
    omega
  · by_cases hk2 : k < cap
    · rw [hcq k hk2]
      exact g7b k hk2
    · rw [hcz k hk2]
      rfl
  · have hlt := (List.getElem?_eq_some_iff.mp hk).1
    rw [hcq k (by omega)]
    exact g8 k x hk
/-- room for some more -/
theorem ens_any {l : List Int32} (h : LayW f r l) {n : Nat} (h1 : n ≤ 120) (h2 : n ≤ l.length + 6) (hq : ∀ f' r', LayW f' r' l → FrW f f' → Grw r r' → n ≤ capR r' → Q (.inl none) (f', r')) : Cl (d + 4) 4 [vr 10 0, vi (ik n)] (f, r) Q := by
  obtain ⟨l5, l6, l7, l8⟩ := h.cap
  by_cases hn : n ≤ capR r
  · exact (ens_ok (d := d + 3) h l8 hn l7).mpr (hq f r h FrW.rf Grw.rf hn)
  · refine ens_gr h (c := capR r) rfl (by omega) (by omega) (by omega) (fun f' g F G => hq f' _ g F G ?_)
    rw [capR_gr]
    omega
end Grow
