/-! a command carried out -/
def arL (as : List Int32) (j : Nat) : Int32 := as.getD j 0
def jdg (D : Dt) (q : Nat × List Int32) : Int32 × Option Int32 := judgeK D q.1 (arL q.2 0) (arL q.2 1) (arL q.2 2) (arL q.2 3)
def dok (D : Dt) (q : Nat × List Int32) : Int32 × Dt := doK D q.1 (arL q.2 0) (arL q.2 1) (arL q.2 2) (arL q.2 3)
def okC (q : Nat × List Int32) : Prop := q.1 < 10 ∧ q.2.length = ((TXB.getD q.1 []).filter isArg).length
theorem ar_n : ∀ k, k < 10 → ((TXB.getD k []).filter isArg).length = if k = 2 then 4 else if k = 9 then 1 else 2 := by decide
theorem arL_at {f : SF} {c : Nat} {as : List Int32} (h : ArL f c as) {j : Nat} (hj : j < as.length) (h4 : j < 4) : f 41 0 (4 * c + j) = arL as j := by
  have e : as[j]? = some (arL as j) := by
    unfold arL
    rw [List.getD_eq_getElem?_getD, List.getElem?_eq_getElem hj]
    rfl
  exact h j _ h4 e
theorem jk9 {D : Dt} {a b c e : Int32} : judgeK D 9 a b c e = judgeK D 9 a 0 0 0 := by simp only [judgeK]
theorem dk9 {D : Dt} {a b c e : Int32} : doK D 9 a b c e = doK D 9 a 0 0 0 := by simp only [doK]
theorem jk2 {D : Dt} {k : Nat} {a b c e : Int32} (hk : k < 10) (h : k ≠ 2) : judgeK D k a b c e = judgeK D k a b 0 0 := by
  rcases (show k = 0 ∨ k = 1 ∨ k = 3 ∨ k = 4 ∨ k = 5 ∨ k = 6 ∨ k = 7 ∨ k = 8 ∨ k = 9 by omega) with rfl | rfl | rfl | rfl | rfl | rfl | rfl | rfl | rfl <;> simp only [judgeK]
theorem dk2 {D : Dt} {k : Nat} {a b c e : Int32} (hk : k < 10) (h : k ≠ 2) : doK D k a b c e = doK D k a b 0 0 := by
  rcases (show k = 0 ∨ k = 1 ∨ k = 3 ∨ k = 4 ∨ k = 5 ∨ k = 6 ∨ k = 7 ∨ k = 8 ∨ k = 9 by omega) with rfl | rfl | rfl | rfl | rfl | rfl | rfl | rfl | rfl <;> simp only [doK]
theorem jdg_m {f : SF} {c : Nat} {q : Nat × List Int32} (hq : okC q) (h : ArL f c q.2) (D : Dt) : judgeK D q.1 (f 41 0 (4 * c)) (f 41 0 (4 * c + 1)) (f 41 0 (4 * c + 2)) (f 41 0 (4 * c + 3)) = jdg D q ∧ doK D q.1 (f 41 0 (4 * c)) (f 41 0 (4 * c + 1)) (f 41 0 (4 * c + 2)) (f 41 0 (4 * c + 3)) = dok D q := by
  obtain ⟨k, as⟩ := q
  obtain ⟨hk, hl⟩ := hq
  have hn := ar_n k hk
  rw [hn] at hl
  have a0 := fun z => arL_at h (j := 0) z (by decide)
  have a1 := fun z => arL_at h (j := 1) z (by decide)
  have a2 := fun z => arL_at h (j := 2) z (by decide)
  have a3 := fun z => arL_at h (j := 3) z (by decide)
  have e0 : f 41 0 (4 * c) = arL as 0 := a0 (by show 0 < as.length; have : as.length = _ := hl; rw [this]; split; (· decide); (· split <;> decide))
  unfold jdg dok
  by_cases h2 : k = 2
  · subst h2
    have hl4 : as.length = 4 := hl
    rw [e0, a1 (by show 1 < as.length; omega), a2 (by show 2 < as.length; omega), a3 (by show 3 < as.length; omega)]
    exact ⟨rfl, rfl⟩
  · by_cases h9 : k = 9
    · subst h9
      rw [e0, jk9 (b := f 41 0 (4 * c + 1)), jk9 (b := arL as 1), dk9 (b := f 41 0 (4 * c + 1)), dk9 (b := arL as 1)]
      exact ⟨rfl, rfl⟩
    · have hl2 : as.length = 2 := by rw [if_neg h2, if_neg h9] at hl; exact hl
      have hk2 : k < 10 := hk
      rw [e0, a1 (by show 1 < as.length; omega), jk2 hk2 h2 (c := f 41 0 (4 * c + 2)), jk2 hk2 h2 (c := arL as 2), dk2 hk2 h2 (c := f 41 0 (4 * c + 2)), dk2 hk2 h2 (c := arL as 2)]
      exact ⟨rfl, rfl⟩
section Exec
variable {d : Nat} {f : SF} {r : SR} {s : St} {Q : Ot → St → Prop}
theorem LayK.fr {f' : SF} {cm : List (Nat × List Int32)} (h : LayK f cm) (e4 : f' 9 0 4 = f 9 0 4) (e : ∀ t n, t = 40 ∨ t = 41 → f' t 0 n = f t 0 n) : LayK f' cm := ⟨e4.trans h.1, fun i q hi => ⟨(e _ _ (Or.inl rfl)).trans (h.2 i q hi).1, fun j v hj hv => (e _ _ (Or.inr rfl)).trans ((h.2 i q hi).2 j v hj hv)⟩⟩
/-- data 0 and what is laid anew may have changed -/
def FrX (f f' : SF) : Prop := ∀ t j n, ¬ (tgQ t = true ∨ (j = 0 ∧ tgD t = true)) → f' t j n = f t j n
theorem FrX.rf {f : SF} : FrX f f := fun _ _ _ _ => rfl
theorem FrX.tr {f g h : SF} (a : FrX f g) (b : FrX g h) : FrX f h := fun t j n q => (b t j n q).trans (a t j n q)
theorem FrX.q {i : Nat} {f f' : SF} (h : Fr tgQ i f f') : FrX f f' := fun t j n q => h t j n (Or.inl (by
  cases hp : tgQ t with
  | false => rfl
  | true => exact absurd (Or.inl hp) q))
theorem FrX.dd {f f' : SF} (h : Fr tgD 0 f f') : FrX f f' := fun t j n q => h t j n (by
  by_cases hj : j = 0
  · left
    cases hp : tgD t with
    | false => rfl
    | true => exact absurd (Or.inr ⟨hj, hp⟩) q
  · exact Or.inr hj)
theorem coc_ok (hS : Stt r) {D : Dt} {cm : List (Nat × List Int32)} {i : Nat} {q : Nat × List Int32} (hi : i < 60) (hD : LayD f 0 D) (hF : Fit D) (hK : LayK f cm) (hq0 : cm[i]? = some q) (hok : okC q)
    (hq : ∀ f', LayD f' 0 (if (jdg D q).1 = 0 then (dok D q).2 else D) → FrX f f' → Q (.inl (some (vi (jdg D q).1))) (f', r)) : Cl (d + 8) 170 [vr 0 0, vi (ik i)] (f, r) Q := by
  have hG := hS.2.1
  have h0 := hS.1 0 (by decide)
  obtain ⟨ek, ea⟩ := hK.2 i q hq0
  obtain ⟨m1, m2⟩ := jdg_m hok ea D
  have hin : inb (ik i) 60 := (inb_ik (by omega)).mpr hi
  have hx : ix (ik i) = i := ix_ik (by omega)
  have o0 := fun Q => arg_ok (d := d + 6) (f := f) (Q := Q) hG hi (show 0 < 4 by decide)
  have o1 := fun Q => arg_ok (d := d + 6) (f := f) (Q := Q) hG hi (show 1 < 4 by decide)
  have o2 := fun Q => arg_ok (d := d + 6) (f := f) (Q := Q) hG hi (show 2 < 4 by decide)
  have o3 := fun Q => arg_ok (d := d + 6) (f := f) (Q := Q) hG hi (show 3 < 4 by decide)
  rw [show ik 0 = (0 : Int32) from rfl] at o0
  rw [show ik 1 = (1 : Int32) from rfl] at o1
  rw [show ik 2 = (2 : Int32) from rfl] at o2
  rw [show ik 3 = (3 : Int32) from rfl] at o3
  simp only [Nat.add_zero] at o0
  have hQ : Fr tgQ 0 f (dtl f (jdg D q).2) := by
    cases (jdg D q).2 with
    | none => exact Fr.rf
    | some t => exact Fr.up rfl
  have g1 : LayD (dtl f (jdg D q).2) 0 D := hD.q hQ
  rw [en170]
  simp only [B170_0, ex_iconst, ex_bipush, ex_sipush, ex_ldc, ex_ldcs, ex_fconst, ex_dconst, ex_iload_n, ex_iload, ex_aload_n, ex_aload, ex_dload_n, ex_dload, ex_fload, ex_istore_n, ex_istore, ex_fstore, ex_dstore_n, ex_dstore, ex_astore_n, ex_astore, ex_iinc, ex_ginc, ex_pop_i, ex_pop_r, ex_dup_i, ex_dup_r, ex_dup_x1, ex_dup2, ex_iadd, ex_isub, ex_imul, ex_iand, ex_ior, ex_ixor, ex_ishl, ex_ishr, ex_idiv, ex_irem, ex_ineg, ex_i2l, ex_i2c, ex_i2b, ex_i2f, ex_i2d, ex_f2d, ex_fdiv, ex_ddiv, ex_lcmp, ex_dcmp, ex_getI, ex_getR, ex_putI, ex_putB, ex_putZ, ex_putR, ex_getsI, ex_getsR, ex_iald, ex_cald, ex_iast, ex_cast, ex_aast, ex_alen, ex_copy1, ex_copy2, ex_throw, ex_goto, ex_fall, ex_if_eq, ex_ic_eq, ex_if_ne, ex_ic_ne, ex_if_lt, ex_ic_lt, ex_if_ge, ex_ic_ge, ex_if_gt, ex_ic_gt, ex_if_le, ex_ic_le, ex_switch, ex_ireturn, ex_ireturn_z, ex_ireturn_b, ex_ireturn_c, ex_areturn, ex_freturn, ex_dreturn, ex_return, ex_is0, ex_is1, ex_is2, ex_is3, ex_is4, ex_is5, ex_is6, ex_is7, ex_iv1, ex_iv2, ex_iv3, ex_iv4, ex_iv5, ex_iv6, ex_iv7, ex_ip1, ex_ip2, ex_ip3, ex_ip4, ex_ip5, ex_ip6, ex_ip7, ex_iu1, ex_iu2, ex_iu3, ex_iu4, ex_iu5, ex_iu6, ex_iu7, List.getD_cons_zero, List.getD_cons_succ, List.set_cons_zero, List.set_cons_succ, isI_i, isA_r, isD_d, isF_f, GInc, ko_v, ko_n, cat_i2, cat_r2, cat_n2, cat_f2, cat_d2, cat_l2, Nat.zero_le, Nat.zero_add, Nat.le_refl, Nat.reduceAdd, Nat.reduceLeDiff, ne_eq, not_false_eq_true, Nat.reduceEqDiff, sI_mk, wI_mk, wCp_mk, Option.toList, List.nil_append, List.cons_append, kd_20, kd_21, kd_22, kd_23, kd_24, kd_25, kd_26, kd_27, kd_28, kd_29, kd_30, kd_31, kd_32, kd_33, kd_34, kd_35, kd_36, kd_37, kd_38, kd_39, kd_40, kd_41, kd_42, kd_43, kd_44, kd_45, kd_46, kd_47, kd_48, kd_49, kd_50, kd_51, kd_52, kd_53, kd_54, rg0_0 hG, rg0_1 hG, rg0_2 hG, rg0_4 hG, rg0_5 hG, rg0_6 hG, rg0_7 hG, rg0_8 hG, rg6_0 hG, rg8_0 hG, rg8_1 hG, rg8_4 hG, rg8_5 hG, rg8_6 hG, rg8_7 hG, rg9_0 hG, rg9_2 hG, rg9_3 hG, rg11_0 hG, rg11_1 hG, rg11_2 hG, rg11_3 hG, rg11_4 hG, rg11_5 hG, rg11_15 hG, rg11_17 hG, rg11_18 hG, rg11_19 hG, rl32 hG, rl33 hG, rl34 hG, rl35 hG, rl36 hG, rl37 hG, rl38 hG, rl39 hG, rl40 hG, rl41 hG, rl43 hG, rl44 hG, rl45 hG, rl46 hG, rl47 hG, rl48 hG, rl49 hG, rl50 hG, rl51 hG, rl52 hG, hin, hx, ek, o0, o1, o2, o3, ver_ok h0 hD hok.1, m1]
  by_cases hz : (jdg D q).1 = 0
  · have hJ : (judgeK D q.1 (f 41 0 (4 * i)) (f 41 0 (4 * i + 1)) (f 41 0 (4 * i + 2)) (f 41 0 (4 * i + 3))).1 = 0 := by rw [m1]; exact hz
    rw [if_pos hz] at hq
    simp only [hz, ne_eq, not_true_eq_false, if_false, ex_iconst, ex_bipush, ex_sipush, ex_ldc, ex_ldcs, ex_fconst, ex_dconst, ex_iload_n, ex_iload, ex_aload_n, ex_aload, ex_dload_n, ex_dload, ex_fload, ex_istore_n, ex_istore, ex_fstore, ex_dstore_n, ex_dstore, ex_astore_n, ex_astore, ex_iinc, ex_ginc, ex_pop_i, ex_pop_r, ex_dup_i, ex_dup_r, ex_dup_x1, ex_dup2, ex_iadd, ex_isub, ex_imul, ex_iand, ex_ior, ex_ixor, ex_ishl, ex_ishr, ex_idiv, ex_irem, ex_ineg, ex_i2l, ex_i2c, ex_i2b, ex_i2f, ex_i2d, ex_f2d, ex_fdiv, ex_ddiv, ex_lcmp, ex_dcmp, ex_getI, ex_getR, ex_putI, ex_putB, ex_putZ, ex_putR, ex_getsI, ex_getsR, ex_iald, ex_cald, ex_iast, ex_cast, ex_aast, ex_alen, ex_copy1, ex_copy2, ex_throw, ex_goto, ex_fall, ex_if_eq, ex_ic_eq, ex_if_ne, ex_ic_ne, ex_if_lt, ex_ic_lt, ex_if_ge, ex_ic_ge, ex_if_gt, ex_ic_gt, ex_if_le, ex_ic_le, ex_switch, ex_ireturn, ex_ireturn_z, ex_ireturn_b, ex_ireturn_c, ex_areturn, ex_freturn, ex_dreturn, ex_return, ex_is0, ex_is1, ex_is2, ex_is3, ex_is4, ex_is5, ex_is6, ex_is7, ex_iv1, ex_iv2, ex_iv3, ex_iv4, ex_iv5, ex_iv6, ex_iv7, ex_ip1, ex_ip2, ex_ip3, ex_ip4, ex_ip5, ex_ip6, ex_ip7, ex_iu1, ex_iu2, ex_iu3, ex_iu4, ex_iu5, ex_iu6, ex_iu7, List.getD_cons_zero, List.getD_cons_succ, List.set_cons_zero, List.set_cons_succ, isI_i, isA_r, isD_d, isF_f, GInc, ko_v, ko_n, cat_i2, cat_r2, cat_n2, cat_f2, cat_d2, cat_l2, Nat.zero_le, Nat.zero_add, Nat.le_refl, Nat.reduceAdd, Nat.reduceLeDiff, ne_eq, not_false_eq_true, Nat.reduceEqDiff, sI_mk, wI_mk, wCp_mk, Option.toList, List.nil_append, List.cons_append, kd_20, kd_21, kd_22, kd_23, kd_24, kd_25, kd_26, kd_27, kd_28, kd_29, kd_30, kd_31, kd_32, kd_33, kd_34, kd_35, kd_36, kd_37, kd_38, kd_39, kd_40, kd_41, kd_42, kd_43, kd_44, kd_45, kd_46, kd_47, kd_48, kd_49, kd_50, kd_51, kd_52, kd_53, kd_54, rg0_0 hG, rg0_1 hG, rg0_2 hG, rg0_4 hG, rg0_5 hG, rg0_6 hG, rg0_7 hG, rg0_8 hG, rg6_0 hG, rg8_0 hG, rg8_1 hG, rg8_4 hG, rg8_5 hG, rg8_6 hG, rg8_7 hG, rg9_0 hG, rg9_2 hG, rg9_3 hG, rg11_0 hG, rg11_1 hG, rg11_2 hG, rg11_3 hG, rg11_4 hG, rg11_5 hG, rg11_15 hG, rg11_17 hG, rg11_18 hG, rg11_19 hG, rl32 hG, rl33 hG, rl34 hG, rl35 hG, rl36 hG, rl37 hG, rl38 hG, rl39 hG, rl40 hG, rl41 hG, rl43 hG, rl44 hG, rl45 hG, rl46 hG, rl47 hG, rl48 hG, rl49 hG, rl50 hG, rl51 hG, rl52 hG] at hq ⊢
    refine co_ok h0 g1 hF hok.1 hJ (fun f2 h2 F2 => ?_)
    simp only [ex_iconst, ex_bipush, ex_sipush, ex_ldc, ex_ldcs, ex_fconst, ex_dconst, ex_iload_n, ex_iload, ex_aload_n, ex_aload, ex_dload_n, ex_dload, ex_fload, ex_istore_n, ex_istore, ex_fstore, ex_dstore_n, ex_dstore, ex_astore_n, ex_astore, ex_iinc, ex_ginc, ex_pop_i, ex_pop_r, ex_dup_i, ex_dup_r, ex_dup_x1, ex_dup2, ex_iadd, ex_isub, ex_imul, ex_iand, ex_ior, ex_ixor, ex_ishl, ex_ishr, ex_idiv, ex_irem, ex_ineg, ex_i2l, ex_i2c, ex_i2b, ex_i2f, ex_i2d, ex_f2d, ex_fdiv, ex_ddiv, ex_lcmp, ex_dcmp, ex_getI, ex_getR, ex_putI, ex_putB, ex_putZ, ex_putR, ex_getsI, ex_getsR, ex_iald, ex_cald, ex_iast, ex_cast, ex_aast, ex_alen, ex_copy1, ex_copy2, ex_throw, ex_goto, ex_fall, ex_if_eq, ex_ic_eq, ex_if_ne, ex_ic_ne, ex_if_lt, ex_ic_lt, ex_if_ge, ex_ic_ge, ex_if_gt, ex_ic_gt, ex_if_le, ex_ic_le, ex_switch, ex_ireturn, ex_ireturn_z, ex_ireturn_b, ex_ireturn_c, ex_areturn, ex_freturn, ex_dreturn, ex_return, ex_is0, ex_is1, ex_is2, ex_is3, ex_is4, ex_is5, ex_is6, ex_is7, ex_iv1, ex_iv2, ex_iv3, ex_iv4, ex_iv5, ex_iv6, ex_iv7, ex_ip1, ex_ip2, ex_ip3, ex_ip4, ex_ip5, ex_ip6, ex_ip7, ex_iu1, ex_iu2, ex_iu3, ex_iu4, ex_iu5, ex_iu6, ex_iu7, List.getD_cons_zero, List.getD_cons_succ, List.set_cons_zero, List.set_cons_succ, isI_i, isA_r, isD_d, isF_f, GInc, ko_v, ko_n, cat_i2, cat_r2, cat_n2, cat_f2, cat_d2, cat_l2, Nat.zero_le, Nat.zero_add, Nat.le_refl, Nat.reduceAdd, Nat.reduceLeDiff, ne_eq, not_false_eq_true, Nat.reduceEqDiff, sI_mk, wI_mk, wCp_mk, Option.toList, List.nil_append, List.cons_append, kd_20, kd_21, kd_22, kd_23, kd_24, kd_25, kd_26, kd_27, kd_28, kd_29, kd_30, kd_31, kd_32, kd_33, kd_34, kd_35, kd_36, kd_37, kd_38, kd_39, kd_40, kd_41, kd_42, kd_43, kd_44, kd_45, kd_46, kd_47, kd_48, kd_49, kd_50, kd_51, kd_52, kd_53, kd_54, jb170_1, B170_1]
    rw [m2] at h2
    exact hq f2 h2 ((FrX.q hQ).tr (FrX.dd F2))
  · rw [if_neg hz] at hq
    simp only [hz, ne_eq, not_false_eq_true, if_true, jb170_1, B170_1, ex_iconst, ex_bipush, ex_sipush, ex_ldc, ex_ldcs, ex_fconst, ex_dconst, ex_iload_n, ex_iload, ex_aload_n, ex_aload, ex_dload_n, ex_dload, ex_fload, ex_istore_n, ex_istore, ex_fstore, ex_dstore_n, ex_dstore, ex_astore_n, ex_astore, ex_iinc, ex_ginc, ex_pop_i, ex_pop_r, ex_dup_i, ex_dup_r, ex_dup_x1, ex_dup2, ex_iadd, ex_isub, ex_imul, ex_iand, ex_ior, ex_ixor, ex_ishl, ex_ishr, ex_idiv, ex_irem, ex_ineg, ex_i2l, ex_i2c, ex_i2b, ex_i2f, ex_i2d, ex_f2d, ex_fdiv, ex_ddiv, ex_lcmp, ex_dcmp, ex_getI, ex_getR, ex_putI, ex_putB, ex_putZ, ex_putR, ex_getsI, ex_getsR, ex_iald, ex_cald, ex_iast, ex_cast, ex_aast, ex_alen, ex_copy1, ex_copy2, ex_throw, ex_goto, ex_fall, ex_if_eq, ex_ic_eq, ex_if_ne, ex_ic_ne, ex_if_lt, ex_ic_lt, ex_if_ge, ex_ic_ge, ex_if_gt, ex_ic_gt, ex_if_le, ex_ic_le, ex_switch, ex_ireturn, ex_ireturn_z, ex_ireturn_b, ex_ireturn_c, ex_areturn, ex_freturn, ex_dreturn, ex_return, ex_is0, ex_is1, ex_is2, ex_is3, ex_is4, ex_is5, ex_is6, ex_is7, ex_iv1, ex_iv2, ex_iv3, ex_iv4, ex_iv5, ex_iv6, ex_iv7, ex_ip1, ex_ip2, ex_ip3, ex_ip4, ex_ip5, ex_ip6, ex_ip7, ex_iu1, ex_iu2, ex_iu3, ex_iu4, ex_iu5, ex_iu6, ex_iu7, List.getD_cons_zero, List.getD_cons_succ, List.set_cons_zero, List.set_cons_succ, isI_i, isA_r, isD_d, isF_f, GInc, ko_v, ko_n, cat_i2, cat_r2, cat_n2, cat_f2, cat_d2, cat_l2, Nat.zero_le, Nat.zero_add, Nat.le_refl, Nat.reduceAdd, Nat.reduceLeDiff, ne_eq, not_false_eq_true, Nat.reduceEqDiff, sI_mk, wI_mk, wCp_mk, Option.toList, List.nil_append, List.cons_append, kd_20, kd_21, kd_22, kd_23, kd_24, kd_25, kd_26, kd_27, kd_28, kd_29, kd_30, kd_31, kd_32, kd_33, kd_34, kd_35, kd_36, kd_37, kd_38, kd_39, kd_40, kd_41, kd_42, kd_43, kd_44, kd_45, kd_46, kd_47, kd_48, kd_49, kd_50, kd_51, kd_52, kd_53, kd_54]
    exact hq _ g1 (FrX.q hQ)
end Exec
