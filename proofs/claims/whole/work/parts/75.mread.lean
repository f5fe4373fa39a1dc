/-! the model reads: all commands -/
theorem mxn_add {p a b : Nat} : mxn (p + a) (p + b) = p + mxn a b := by
  unfold mxn
  by_cases h : a ≤ b
  · rw [if_pos h, if_pos (by omega)]
  · rw [if_neg h, if_neg (by omega)]
theorem mxq_l {a b : Nat} (h : b ≤ a) : mxn a b = a := by
  unfold mxn
  by_cases h2 : a ≤ b
  · rw [if_pos h2]; omega
  · rw [if_neg h2]
theorem mxq_r {a b : Nat} (h : a ≤ b) : mxn a b = b := by
  unfold mxn
  rw [if_pos h]
theorem stpS_b {T : List Int32} : ∀ {cs : List Int32} {p : Nat} {as : List Int32}, match cs.foldl (stpS T) (.inl p, as) with
    | (.inl e, _) => p + cs.length ≤ e ∧ (p ≤ T.length → e ≤ T.length)
    | (.inr q, _) => p ≤ q ∧ (p ≤ T.length → q ≤ T.length)
  | [], p, as => ⟨Nat.le_refl _, fun h => h⟩
  | c :: cs, p, as => by
    rw [List.foldl_cons]
    by_cases h : endT T c p = p
    · have e : stpS T (.inl p, as) c = (.inr p, as) := by
        unfold stpS elS
        simp only [h, if_true]
      rw [e, stpS_r]
      exact ⟨Nat.le_refl _, fun h => h⟩
    · have e : stpS T (.inl p, as) c = (.inl (endT T c p), if isArg c = true then as ++ [argT T c p] else as) := by
        unfold stpS elS
        simp only [h, if_false]
      have hge : p < endT T c p ∧ (p ≤ T.length → endT T c p ≤ T.length) := by
        have o3 := eodT_le (T := T) (n := 3) (p := p)
        have o1 := eodT_le (T := T) (n := 1) (p := p)
        by_cases hp : p ≤ T.length
        · have := endT_b (c := c) hp
          exact ⟨by omega, fun _ => this.2.1⟩
        · refine ⟨?_, fun z => absurd z hp⟩
          have : p ≤ endT T c p := by
            unfold endT
            split
            · exact o3.1
            · split
              · exact o1.1
              · split <;> split <;> omega
          omega
      rw [e]
      have ih := stpS_b (T := T) (cs := cs) (p := endT T c p) (as := if isArg c = true then as ++ [argT T c p] else as)
      generalize cs.foldl (stpS T) (.inl (endT T c p), if isArg c = true then as ++ [argT T c p] else as) = z at ih
      obtain ⟨z1, z2⟩ := z
      cases z1 with
      | inl e => exact ⟨by rw [List.length_cons]; have := ih.1; omega, fun hp => ih.2 (hge.2 hp)⟩
      | inr q => exact ⟨by have := ih.1; omega, fun hp => ih.2 (hge.2 hp)⟩
theorem word_f {T : List Int32} : ∀ {w : List Int32} {p : Nat}, (∀ c ∈ w, c ≠ 78 ∧ c ≠ 68 ∧ c ≠ 77) → w.foldl (stpS T) (.inl p, []) = if lcpT T p w = w.length then (.inl (p + w.length), []) else (.inr (p + lcpT T p w), [])
  | [], p, _ => rfl
  | c :: w, p, h => by
    obtain ⟨n1, n2, n3⟩ := h c (List.mem_cons_self ..)
    have hE : endT T c p = if hldT T c p then p + 1 else p := by
      unfold endT
      rw [if_neg n1, if_neg n2, if_neg n3]
    have hA : isArg c = false := by unfold isArg; simp [n1, n2, n3]
    rw [List.foldl_cons, lcpT_c, List.length_cons]
    cases hh : hldT T c p with
    | false =>
      rw [hh, if_neg Bool.false_ne_true] at hE
      have e : stpS T (.inl p, []) c = (.inr p, []) := by
        unfold stpS elS
        simp only [hE, if_true]
      rw [e, stpS_r, if_neg Bool.false_ne_true, if_neg (by omega), Nat.add_zero]
    | true =>
      rw [hh, if_pos rfl] at hE
      have e : stpS T (.inl p, []) c = (.inl (p + 1), []) := by
        unfold stpS elS
        simp only [hE, hA, show ¬ p + 1 = p by omega, if_false, Bool.false_eq_true]
      rw [e, word_f (fun x hx => h x (List.mem_cons_of_mem _ hx)), if_pos rfl]
      by_cases hl : lcpT T (p + 1) w = w.length
      · rw [if_pos hl, if_pos (by omega), show p + 1 + w.length = p + (w.length + 1) by omega]
      · rw [if_neg hl, if_neg (by omega), show p + 1 + lcpT T (p + 1) w = p + (lcpT T (p + 1) w + 1) by omega]
/-- the end of what the form asks -/
def trmT (T : List Int32) (k : Nat) (z : (Nat ⊕ Nat) × List Int32) : (Nat × List Int32 × Nat) ⊕ Nat := match z with
  | (.inl e, as) => if e = T.length ∨ chT T e = 59 then .inl (k, as, e) else .inr e
  | (.inr q, _) => .inr q
theorem matT_w {T : List Int32} {p j : Nat} (hj : j < 10) (h : lcpT T p (wdK j) ≠ (wdK j).length) : matT T (TXB.getD j []) p [] = (.inr (p + lcpT T p (wdK j)), []) := by
  rw [txb_wr j hj, matT_f, List.foldl_append, word_f (wd_sgn j hj), if_neg h, stpS_r]
theorem matT_h {T : List Int32} {p j : Nat} (hj : j < 10) (h : lcpT T p (wdK j) = (wdK j).length) : matT T (TXB.getD j []) p [] = match (rsK (sgK j)).foldl (stpS T) (.inl (p + (wdK j).length), []) with
    | (.inl e, as2) => (if e = T.length ∨ chT T e = 59 then .inl e else .inr e, as2)
    | (.inr q, as2) => (.inr q, as2) := by
  rw [txb_wr j hj, matT_f, List.foldl_append, word_f (wd_sgn j hj), if_pos h]
  generalize (rsK (sgK j)).foldl (stpS T) (.inl (p + (wdK j).length), []) = z
  obtain ⟨z1, z2⟩ := z
  cases z1 <;> rfl
theorem lcp_one {T : List Int32} {p j k : Nat} (hj : j < 10) (hk : k < 10) (hne : j ≠ k) (h : lcpT T p (wdK k) = (wdK k).length) : lcpT T p (wdK j) < (wdK k).length ∧ lcpT T p (wdK j) ≠ (wdK j).length := by
  have a : lcpT T p (wdK j) < (wdK k).length := by
    refine Nat.lt_of_not_le (fun hle => wd_pre j hj k hk hne ?_)
    rw [lcpT_eq (T := T) (p := p) (w := wdK j) (v := wdK k) (m := (wdK k).length) hle (by omega), List.take_length]
  refine ⟨a, fun e => wd_pre k hk j hj (fun z => hne z.symm) ?_⟩
  rw [lcpT_eq (T := T) (p := p) (w := wdK k) (v := wdK j) (m := (wdK j).length) (by omega) (by omega), List.take_length]
theorem wdT_l {T : List Int32} {p k2 : Nat} : ∀ {n k lg : Nat}, k + n = 10 → wdT T p n k lg = .inl k2 → k ≤ k2 ∧ k2 < 10 ∧ lcpT T p (wdK k2) = (wdK k2).length
  | 0, k, lg, _, h => by cases h
  | n + 1, k, lg, hk, h => by
    rw [wdT_c] at h
    by_cases he : lcpT T p (wdK k) = (wdK k).length
    · rw [if_pos he] at h
      cases h
      exact ⟨Nat.le_refl _, by omega, he⟩
    · rw [if_neg he] at h
      obtain ⟨a, b, c⟩ := wdT_l (by omega) h
      exact ⟨by omega, b, c⟩
theorem rc_no {T : List Int32} {p lg2 : Nat} : ∀ {n k lg : Nat}, k + n = 10 → wdT T p n k lg = .inr lg2 → rcT T p n k (p + lg) = .inr (p + lg2)
  | 0, k, lg, _, h => by cases h; rfl
  | n + 1, k, lg, hk, h => by
    rw [wdT_c] at h
    by_cases he : lcpT T p (wdK k) = (wdK k).length
    · rw [if_pos he] at h
      cases h
    · rw [if_neg he] at h
      rw [rcT_c, matT_w (by omega) he]
      dsimp only
      rw [mxn_add]
      exact rc_no (by omega) h
theorem rc_re {T : List Int32} {p : Nat} : ∀ {n k fu : Nat}, k + n = 10 → (∀ j, k ≤ j → j < 10 → lcpT T p (wdK j) ≠ (wdK j).length ∧ p + lcpT T p (wdK j) ≤ fu) → rcT T p n k fu = .inr fu
  | 0, k, fu, _, _ => rfl
  | n + 1, k, fu, hk, h => by
    obtain ⟨a, b⟩ := h k (Nat.le_refl _) (by omega)
    rw [rcT_c, matT_w (by omega) a]
    dsimp only
    rw [mxq_l b]
    exact rc_re (by omega) (fun j hj => h j (by omega))
theorem rc_yes {T : List Int32} {p k2 : Nat} : ∀ {n k lg : Nat}, k + n = 10 → lg ≤ (wdK k2).length → wdT T p n k lg = .inl k2 → rcT T p n k (p + lg) = trmT T k2 ((rsK (sgK k2)).foldl (stpS T) (.inl (p + (wdK k2).length), []))
  | 0, k, lg, _, _, h => by cases h
  | n + 1, k, lg, hk, hlg, h => by
    have hl := wdT_l hk h
    rw [wdT_c] at h
    by_cases he : lcpT T p (wdK k) = (wdK k).length
    · rw [if_pos he] at h
      have hkk : k2 = k := by injection h with h; exact h.symm
      subst hkk
      rw [rcT_c, matT_h (by omega) he]
      have hb := stpS_b (T := T) (cs := rsK (sgK k2)) (p := p + (wdK k2).length) (as := [])
      generalize (rsK (sgK k2)).foldl (stpS T) (.inl (p + (wdK k2).length), []) = z at hb
      have rest : ∀ q, p + (wdK k2).length ≤ q → rcT T p n (k2 + 1) (mxn (p + lg) q) = .inr q := fun q hq => by
        rw [mxq_r (by omega)]
        refine rc_re (by omega) (fun j hj hj10 => ?_)
        obtain ⟨a, b⟩ := lcp_one (T := T) (p := p) hj10 (by omega : k2 < 10) (by omega) he
        exact ⟨b, by omega⟩
      obtain ⟨z1, z2⟩ := z
      unfold trmT
      cases z1 with
      | inr q => exact rest q hb.1
      | inl e =>
        dsimp only
        by_cases ht : e = T.length ∨ chT T e = 59
        · rw [if_pos ht, if_pos ht]
        · rw [if_neg ht, if_neg ht]
          exact rest e (by have := hb.1; omega)
    · rw [if_neg he] at h
      have hne : k ≠ k2 := fun z => he (by rw [z]; exact hl.2.2)
      have hlt := (lcp_one (T := T) (p := p) (by omega : k < 10) hl.2.1 hne hl.2.2).1
      rw [rcT_c, matT_w (by omega) he]
      dsimp only
      rw [mxn_add]
      exact rc_yes (by omega) (by unfold mxn; split <;> omega) h
/-- both readings of a command -/
theorem rc_cm {T : List Int32} {p : Nat} : rcT T p 10 0 p = match cmT T p with
    | .inl (k, as, e) => if e = T.length ∨ chT T e = 59 then .inl (k, as, e) else .inr e
    | .inr q => .inr q := by
  unfold cmT
  cases h : wdT T p 10 0 0 with
  | inr lg => exact rc_no (k := 0) (lg := 0) rfl h
  | inl k =>
    have e : rcT T p 10 0 p = _ := rc_yes (k := 0) (lg := 0) rfl (Nat.zero_le _) h
    rw [e]
    dsimp only
    generalize (rsK (sgK k)).foldl (stpS T) (.inl (p + (wdK k).length), []) = z
    obtain ⟨z1, z2⟩ := z
    cases z1 <;> rfl
theorem wr_len : ∀ k, k < 10 → 4 ≤ (wdK k).length + (rsK (sgK k)).length := by decide
theorem cm_b {T : List Int32} {p : Nat} (hp : p ≤ T.length) : match cmT T p with
    | .inl (k, as, e) => k < 10 ∧ p + 4 ≤ e ∧ e ≤ T.length
    | .inr q => q ≤ T.length := by
  unfold cmT
  have hr := rcT_b hp (n := 10) (k := 0) (fu := p) rfl hp
  cases h : wdT T p 10 0 0 with
  | inr lg =>
    have e : rcT T p 10 0 p = _ := rc_no (k := 0) (lg := 0) rfl h
    rw [e] at hr
    exact hr
  | inl k =>
    obtain ⟨-, hk, hl⟩ := wdT_l (n := 10) (k := 0) rfl h
    have hle := (lcpT_le (T := T) (w := wdK k) (p := p)).2 hp
    have hb := stpS_b (T := T) (cs := rsK (sgK k)) (p := p + (wdK k).length) (as := [])
    have h4 := wr_len k hk
    dsimp only
    generalize (rsK (sgK k)).foldl (stpS T) (.inl (p + (wdK k).length), []) = z at hb
    obtain ⟨z1, z2⟩ := z
    cases z1 with
    | inl e => exact ⟨hk, by have := hb.1; omega, hb.2 (by omega)⟩
    | inr q => exact hb.2 (by omega)
/-- the commands as laid in the model -/
def LayKM (f : SF) (cm : List (Nat × List Int32)) : Prop := f 11 0 23 = ik cm.length ∧ ∀ i q, cm[i]? = some q → f 51 0 i = ik q.1 ∧ ∀ j v, j < 4 → q.2[j]? = some v → f 52 0 (4 * i + j) = v
/-- only what the reading lays -/
def FrP (f f' : SF) : Prop := ∀ t j n, ¬ (t = 11 ∧ 20 ≤ n ∧ n ≤ 24) → t ≠ 51 → t ≠ 52 → f' t j n = f t j n
theorem FrJ.p {c : Nat} {f g : SF} (h : FrJ c f g) : FrP f g := fun t j n q q2 q3 => h t j n (by omega) (fun z => q3 z.1) (fun z => q2 z.1)
theorem FrP.tr {f g h : SF} (a : FrP f g) (b : FrP g h) : FrP f h := fun t j n q q2 q3 => (b t j n q q2 q3).trans (a t j n q q2 q3)
theorem FrP.up {f : SF} {k : Nat} {v : Int32} (h : 20 ≤ k ∧ k ≤ 24) : FrP f (up3 f 11 0 k v) := fun t j n q _ _ => by rw [up3_at, if_neg (by omega)]
def PrQ (Q : Ot → St → Prop) (r : SR) (f : SF) (N : Nat → Int32) (L : Nat) (z : List (Nat × List Int32) ⊕ Nat) : Prop := match z with
  | .inl cm => ∀ f', f' 11 0 22 = ik L → f' 11 0 24 = b01 false → LayKM f' cm → FrP f f' → f' 11 0 20 = f 11 0 20 → f' 11 0 21 = f 11 0 21 → Q (.inl none) (pr f' N, r)
  | .inr q => ∀ f', f' 11 0 22 = ik q → f' 11 0 24 = b01 true → FrP f f' → f' 11 0 20 = f 11 0 20 → f' 11 0 21 = f 11 0 21 → Q (.inl none) (pr f' N, r)
theorem PrQ.fr {Q : Ot → St → Prop} {r : SR} {f g : SF} {N : Nat → Int32} {L : Nat} {z : List (Nat × List Int32) ⊕ Nat} (h : PrQ Q r f N L z) (F : FrP f g) (e : g 11 0 20 = f 11 0 20) (e1 : g 11 0 21 = f 11 0 21) : PrQ Q r g N L z := by
  cases z with
  | inl cm => exact fun f' a b c F2 z z2 => h f' a b c (F.tr F2) (z.trans e) (z2.trans e1)
  | inr q => exact fun f' a b F2 z z2 => h f' a b (F.tr F2) (z.trans e) (z2.trans e1)
theorem LayKM.add {f f' : SF} {cm : List (Nat × List Int32)} {k : Nat} {as : List Int32} (h : LayKM f cm) (h0 : f' 11 0 23 = ik (cm.length + 1)) (h1 : f' 51 0 cm.length = ik k) (h2 : ∀ i v, as[i]? = some v → f' 52 0 (4 * cm.length + i) = v) (F : FrJ cm.length f f') : LayKM f' (cm ++ [(k, as)]) := by
  refine ⟨by rw [len_one]; exact h0, fun i q hi => ?_⟩
  have hlt : i < (cm ++ [(k, as)]).length := (List.getElem?_eq_some_iff.mp hi).1
  rw [len_one] at hlt
  by_cases hj : i = cm.length
  · subst hj
    rw [mid_at] at hi
    cases hi
    exact ⟨h1, fun j v _ hv => h2 j v hv⟩
  · rw [List.getElem?_append_left (by omega)] at hi
    obtain ⟨g1, g2⟩ := h.2 i q hi
    refine ⟨?_, fun j v hj hv => ?_⟩
    · rw [F _ _ _ (by omega) (by omega) (by omega)]
      exact g1
    · rw [F _ _ _ (by omega) (by omega) (by omega)]
      exact g2 j v hj hv
theorem LayKM.dep {f f' : SF} {cm : List (Nat × List Int32)} (h : LayKM f cm) (e4 : f' 11 0 23 = f 11 0 23) (e : ∀ t n, t = 51 ∨ t = 52 → f' t 0 n = f t 0 n) : LayKM f' cm := ⟨e4.trans h.1, fun i q hi => ⟨(e _ _ (Or.inl rfl)).trans (h.2 i q hi).1, fun j v hj hv => (e _ _ (Or.inr rfl)).trans ((h.2 i q hi).2 j v hj hv)⟩⟩
section Mread
variable {d : Nat} {f : SF} {r : SR} {s : St} {Q : Ot → St → Prop} {N : Nat → Int32} {T : List Int32} {c : Nat}
/-- the wrong sign at the end -/
theorem prs_w {p : Nat} {w : Bool} (h : PsM f T p c w) (hq : ∀ f', f' 11 0 22 = ik p → f' 11 0 24 = b01 (w || decide (p < T.length)) → f' = up3 f 11 0 24 (b01 (w || decide (p < T.length))) → Q (.inl none) (pr f' N, r)) : Jx (d + 5) 294 2 [vr 11 0] [] (pr f N, r) Q := by
  obtain ⟨h1, h2, h3, h4, h5, h6, h7, h8⟩ := h
  have e : (ik T.length ≤ ik p) ↔ T.length ≤ p := ik_le (by omega) (by omega)
  rw [jb294_2]
  by_cases hp : p < T.length
  · have hle : ¬ T.length ≤ p := by omega
    simp only [B294_2, ex_iconst, ex_bipush, ex_sipush, ex_ldc, ex_ldcs, ex_fconst, ex_dconst, ex_iload_n, ex_iload, ex_aload_n, ex_aload, ex_dload_n, ex_dload, ex_fload, ex_istore_n, ex_istore, ex_fstore, ex_dstore_n, ex_dstore, ex_astore_n, ex_astore, ex_iinc, ex_ginc, ex_pop_i, ex_pop_r, ex_dup_i, ex_dup_r, ex_dup_x1, ex_dup2, ex_iadd, ex_isub, ex_imul, ex_iand, ex_ior, ex_ixor, ex_ishl, ex_ishr, ex_idiv, ex_irem, ex_ineg, ex_i2l, ex_i2c, ex_i2b, ex_i2f, ex_i2d, ex_f2d, ex_fdiv, ex_ddiv, ex_lcmp, ex_dcmp, ex_getI, ex_getR, ex_putI, ex_putB, ex_putZ, ex_putR, ex_getsI, ex_getsR, ex_iald, ex_cald, ex_iast, ex_cast, ex_aast, ex_alen, ex_copy1, ex_copy2, ex_throw, ex_goto, ex_fall, ex_if_eq, ex_ic_eq, ex_if_ne, ex_ic_ne, ex_if_lt, ex_ic_lt, ex_if_ge, ex_ic_ge, ex_if_gt, ex_ic_gt, ex_if_le, ex_ic_le, ex_switch, ex_ireturn, ex_ireturn_z, ex_ireturn_b, ex_ireturn_c, ex_areturn, ex_freturn, ex_dreturn, ex_return, ex_is0, ex_is1, ex_is2, ex_is3, ex_is4, ex_is5, ex_is6, ex_is7, ex_iv1, ex_iv2, ex_iv3, ex_iv4, ex_iv5, ex_iv6, ex_iv7, ex_ip1, ex_ip2, ex_ip3, ex_ip4, ex_ip5, ex_ip6, ex_ip7, ex_iu1, ex_iu2, ex_iu3, ex_iu4, ex_iu5, ex_iu6, ex_iu7, List.getD_cons_zero, List.getD_cons_succ, List.set_cons_zero, List.set_cons_succ, isI_i, isA_r, isD_d, isF_f, GInc, ko_v, ko_n, cat_i2, cat_r2, cat_n2, cat_f2, cat_d2, cat_l2, Nat.zero_le, Nat.zero_add, Nat.le_refl, Nat.reduceAdd, Nat.reduceLeDiff, ne_eq, not_false_eq_true, Nat.reduceEqDiff, sI_mk, wI_mk, wCp_mk, Option.toList, List.nil_append, List.cons_append, kd_20, kd_21, kd_22, kd_23, kd_24, kd_25, kd_26, kd_27, kd_28, kd_29, kd_30, kd_31, kd_32, kd_33, kd_34, kd_35, kd_36, kd_37, kd_38, kd_39, kd_40, kd_41, kd_42, kd_43, kd_44, kd_45, kd_46, kd_47, kd_48, kd_49, kd_50, kd_51, kd_52, kd_53, kd_54, pr_11, h1, h2, h4, e, hle, if_false, jb294_4, B294_4, b01_o1]
    refine (ex_putZ (b01_or _)).mpr ?_
    simp only [ex_iconst, ex_bipush, ex_sipush, ex_ldc, ex_ldcs, ex_fconst, ex_dconst, ex_iload_n, ex_iload, ex_aload_n, ex_aload, ex_dload_n, ex_dload, ex_fload, ex_istore_n, ex_istore, ex_fstore, ex_dstore_n, ex_dstore, ex_astore_n, ex_astore, ex_iinc, ex_ginc, ex_pop_i, ex_pop_r, ex_dup_i, ex_dup_r, ex_dup_x1, ex_dup2, ex_iadd, ex_isub, ex_imul, ex_iand, ex_ior, ex_ixor, ex_ishl, ex_ishr, ex_idiv, ex_irem, ex_ineg, ex_i2l, ex_i2c, ex_i2b, ex_i2f, ex_i2d, ex_f2d, ex_fdiv, ex_ddiv, ex_lcmp, ex_dcmp, ex_getI, ex_getR, ex_putI, ex_putB, ex_putZ, ex_putR, ex_getsI, ex_getsR, ex_iald, ex_cald, ex_iast, ex_cast, ex_aast, ex_alen, ex_copy1, ex_copy2, ex_throw, ex_goto, ex_fall, ex_if_eq, ex_ic_eq, ex_if_ne, ex_ic_ne, ex_if_lt, ex_ic_lt, ex_if_ge, ex_ic_ge, ex_if_gt, ex_ic_gt, ex_if_le, ex_ic_le, ex_switch, ex_ireturn, ex_ireturn_z, ex_ireturn_b, ex_ireturn_c, ex_areturn, ex_freturn, ex_dreturn, ex_return, ex_is0, ex_is1, ex_is2, ex_is3, ex_is4, ex_is5, ex_is6, ex_is7, ex_iv1, ex_iv2, ex_iv3, ex_iv4, ex_iv5, ex_iv6, ex_iv7, ex_ip1, ex_ip2, ex_ip3, ex_ip4, ex_ip5, ex_ip6, ex_ip7, ex_iu1, ex_iu2, ex_iu3, ex_iu4, ex_iu5, ex_iu6, ex_iu7, List.getD_cons_zero, List.getD_cons_succ, List.set_cons_zero, List.set_cons_succ, isI_i, isA_r, isD_d, isF_f, GInc, ko_v, ko_n, cat_i2, cat_r2, cat_n2, cat_f2, cat_d2, cat_l2, Nat.zero_le, Nat.zero_add, Nat.le_refl, Nat.reduceAdd, Nat.reduceLeDiff, ne_eq, not_false_eq_true, Nat.reduceEqDiff, sI_mk, wI_mk, wCp_mk, Option.toList, List.nil_append, List.cons_append, kd_20, kd_21, kd_22, kd_23, kd_24, kd_25, kd_26, kd_27, kd_28, kd_29, kd_30, kd_31, kd_32, kd_33, kd_34, kd_35, kd_36, kd_37, kd_38, kd_39, kd_40, kd_41, kd_42, kd_43, kd_44, kd_45, kd_46, kd_47, kd_48, kd_49, kd_50, kd_51, kd_52, kd_53, kd_54, pr_u11]
    have := hq (up3 f 11 0 24 (b01 true))
    rw [show (w || decide (p < T.length)) = true by simp [hp]] at this
    exact this (by rw [up3_at, if_neg (by decide)]; exact h2) (by rw [up3_at, if_pos ⟨rfl, rfl, rfl⟩]) rfl
  · have hle : T.length ≤ p := by omega
    simp only [B294_2, ex_iconst, ex_bipush, ex_sipush, ex_ldc, ex_ldcs, ex_fconst, ex_dconst, ex_iload_n, ex_iload, ex_aload_n, ex_aload, ex_dload_n, ex_dload, ex_fload, ex_istore_n, ex_istore, ex_fstore, ex_dstore_n, ex_dstore, ex_astore_n, ex_astore, ex_iinc, ex_ginc, ex_pop_i, ex_pop_r, ex_dup_i, ex_dup_r, ex_dup_x1, ex_dup2, ex_iadd, ex_isub, ex_imul, ex_iand, ex_ior, ex_ixor, ex_ishl, ex_ishr, ex_idiv, ex_irem, ex_ineg, ex_i2l, ex_i2c, ex_i2b, ex_i2f, ex_i2d, ex_f2d, ex_fdiv, ex_ddiv, ex_lcmp, ex_dcmp, ex_getI, ex_getR, ex_putI, ex_putB, ex_putZ, ex_putR, ex_getsI, ex_getsR, ex_iald, ex_cald, ex_iast, ex_cast, ex_aast, ex_alen, ex_copy1, ex_copy2, ex_throw, ex_goto, ex_fall, ex_if_eq, ex_ic_eq, ex_if_ne, ex_ic_ne, ex_if_lt, ex_ic_lt, ex_if_ge, ex_ic_ge, ex_if_gt, ex_ic_gt, ex_if_le, ex_ic_le, ex_switch, ex_ireturn, ex_ireturn_z, ex_ireturn_b, ex_ireturn_c, ex_areturn, ex_freturn, ex_dreturn, ex_return, ex_is0, ex_is1, ex_is2, ex_is3, ex_is4, ex_is5, ex_is6, ex_is7, ex_iv1, ex_iv2, ex_iv3, ex_iv4, ex_iv5, ex_iv6, ex_iv7, ex_ip1, ex_ip2, ex_ip3, ex_ip4, ex_ip5, ex_ip6, ex_ip7, ex_iu1, ex_iu2, ex_iu3, ex_iu4, ex_iu5, ex_iu6, ex_iu7, List.getD_cons_zero, List.getD_cons_succ, List.set_cons_zero, List.set_cons_succ, isI_i, isA_r, isD_d, isF_f, GInc, ko_v, ko_n, cat_i2, cat_r2, cat_n2, cat_f2, cat_d2, cat_l2, Nat.zero_le, Nat.zero_add, Nat.le_refl, Nat.reduceAdd, Nat.reduceLeDiff, ne_eq, not_false_eq_true, Nat.reduceEqDiff, sI_mk, wI_mk, wCp_mk, Option.toList, List.nil_append, List.cons_append, kd_20, kd_21, kd_22, kd_23, kd_24, kd_25, kd_26, kd_27, kd_28, kd_29, kd_30, kd_31, kd_32, kd_33, kd_34, kd_35, kd_36, kd_37, kd_38, kd_39, kd_40, kd_41, kd_42, kd_43, kd_44, kd_45, kd_46, kd_47, kd_48, kd_49, kd_50, kd_51, kd_52, kd_53, kd_54, pr_11, h1, h2, h4, e, hle, if_true, jb294_3, B294_3, jb294_4, B294_4, b01_o0]
    refine (ex_putZ (b01_or _)).mpr ?_
    simp only [ex_iconst, ex_bipush, ex_sipush, ex_ldc, ex_ldcs, ex_fconst, ex_dconst, ex_iload_n, ex_iload, ex_aload_n, ex_aload, ex_dload_n, ex_dload, ex_fload, ex_istore_n, ex_istore, ex_fstore, ex_dstore_n, ex_dstore, ex_astore_n, ex_astore, ex_iinc, ex_ginc, ex_pop_i, ex_pop_r, ex_dup_i, ex_dup_r, ex_dup_x1, ex_dup2, ex_iadd, ex_isub, ex_imul, ex_iand, ex_ior, ex_ixor, ex_ishl, ex_ishr, ex_idiv, ex_irem, ex_ineg, ex_i2l, ex_i2c, ex_i2b, ex_i2f, ex_i2d, ex_f2d, ex_fdiv, ex_ddiv, ex_lcmp, ex_dcmp, ex_getI, ex_getR, ex_putI, ex_putB, ex_putZ, ex_putR, ex_getsI, ex_getsR, ex_iald, ex_cald, ex_iast, ex_cast, ex_aast, ex_alen, ex_copy1, ex_copy2, ex_throw, ex_goto, ex_fall, ex_if_eq, ex_ic_eq, ex_if_ne, ex_ic_ne, ex_if_lt, ex_ic_lt, ex_if_ge, ex_ic_ge, ex_if_gt, ex_ic_gt, ex_if_le, ex_ic_le, ex_switch, ex_ireturn, ex_ireturn_z, ex_ireturn_b, ex_ireturn_c, ex_areturn, ex_freturn, ex_dreturn, ex_return, ex_is0, ex_is1, ex_is2, ex_is3, ex_is4, ex_is5, ex_is6, ex_is7, ex_iv1, ex_iv2, ex_iv3, ex_iv4, ex_iv5, ex_iv6, ex_iv7, ex_ip1, ex_ip2, ex_ip3, ex_ip4, ex_ip5, ex_ip6, ex_ip7, ex_iu1, ex_iu2, ex_iu3, ex_iu4, ex_iu5, ex_iu6, ex_iu7, List.getD_cons_zero, List.getD_cons_succ, List.set_cons_zero, List.set_cons_succ, isI_i, isA_r, isD_d, isF_f, GInc, ko_v, ko_n, cat_i2, cat_r2, cat_n2, cat_f2, cat_d2, cat_l2, Nat.zero_le, Nat.zero_add, Nat.le_refl, Nat.reduceAdd, Nat.reduceLeDiff, ne_eq, not_false_eq_true, Nat.reduceEqDiff, sI_mk, wI_mk, wCp_mk, Option.toList, List.nil_append, List.cons_append, kd_20, kd_21, kd_22, kd_23, kd_24, kd_25, kd_26, kd_27, kd_28, kd_29, kd_30, kd_31, kd_32, kd_33, kd_34, kd_35, kd_36, kd_37, kd_38, kd_39, kd_40, kd_41, kd_42, kd_43, kd_44, kd_45, kd_46, kd_47, kd_48, kd_49, kd_50, kd_51, kd_52, kd_53, kd_54, pr_u11]
    have := hq (up3 f 11 0 24 (b01 w))
    rw [show (w || decide (p < T.length)) = w by simp [hp]] at this
    exact this (by rw [up3_at, if_neg (by decide)]; exact h2) (by rw [up3_at, if_pos ⟨rfl, rfl, rfl⟩]) rfl
theorem prs_lp (hG : StG r) : ∀ (n p : Nat) (cm : List (Nat × List Int32)) (f : SF) (Q2 : Ot → St → Prop), n + cm.length = 60 → 4 * cm.length ≤ p → p ≤ T.length → PsM f T p cm.length false → LayKM f cm → PrQ Q r f N T.length (rdT T n p cm) → (∀ s, Jx (d + 5) 294 1 [vr 11 0] [] s Q → Q2 (.inl none) s) → Cl (d + 5) 295 [vr 11 0] (pr f N, r) Q2 := by
  intro n
  induction n with
  | zero =>
    intro p cm f Q2 hn hc hp h hL hq hk
    have := h.2.2.2.2.2.1
    omega
  | succ n ih =>
    intro p cm f Q2 hn hc hp h hL hq hk
    have h60 := h.2.2.2.2.2.1
    rw [rdT_c, rc_cm] at hq
    have hb := cm_b hp
    refine cmd_ok (N := N) hG h (by omega) ?_
    generalize cmT T p = z at hb hq
    have h20 : ∀ {c : Nat} {f g : SF}, FrJ c f g → g 11 0 20 = f 11 0 20 ∧ g 11 0 21 = f 11 0 21 := fun F => ⟨F _ _ _ (by omega) (by omega) (by omega), F _ _ _ (by omega) (by omega) (by omega)⟩
    cases z with
    | inr q =>
      intro f1 a1 F1
      refine hk _ ?_
      have om := fun Q => mrk_t (d := d + 4) (N := N) (r := r) (Q := Q) a1
      have n59 : ¬ (-1 : Int32) = 59 := by decide
      rw [jb294_1]
      simp only [B294_1, ex_iconst, ex_bipush, ex_sipush, ex_ldc, ex_ldcs, ex_fconst, ex_dconst, ex_iload_n, ex_iload, ex_aload_n, ex_aload, ex_dload_n, ex_dload, ex_fload, ex_istore_n, ex_istore, ex_fstore, ex_dstore_n, ex_dstore, ex_astore_n, ex_astore, ex_iinc, ex_ginc, ex_pop_i, ex_pop_r, ex_dup_i, ex_dup_r, ex_dup_x1, ex_dup2, ex_iadd, ex_isub, ex_imul, ex_iand, ex_ior, ex_ixor, ex_ishl, ex_ishr, ex_idiv, ex_irem, ex_ineg, ex_i2l, ex_i2c, ex_i2b, ex_i2f, ex_i2d, ex_f2d, ex_fdiv, ex_ddiv, ex_lcmp, ex_dcmp, ex_getI, ex_getR, ex_putI, ex_putB, ex_putZ, ex_putR, ex_getsI, ex_getsR, ex_iald, ex_cald, ex_iast, ex_cast, ex_aast, ex_alen, ex_copy1, ex_copy2, ex_throw, ex_goto, ex_fall, ex_if_eq, ex_ic_eq, ex_if_ne, ex_ic_ne, ex_if_lt, ex_ic_lt, ex_if_ge, ex_ic_ge, ex_if_gt, ex_ic_gt, ex_if_le, ex_ic_le, ex_switch, ex_ireturn, ex_ireturn_z, ex_ireturn_b, ex_ireturn_c, ex_areturn, ex_freturn, ex_dreturn, ex_return, ex_is0, ex_is1, ex_is2, ex_is3, ex_is4, ex_is5, ex_is6, ex_is7, ex_iv1, ex_iv2, ex_iv3, ex_iv4, ex_iv5, ex_iv6, ex_iv7, ex_ip1, ex_ip2, ex_ip3, ex_ip4, ex_ip5, ex_ip6, ex_ip7, ex_iu1, ex_iu2, ex_iu3, ex_iu4, ex_iu5, ex_iu6, ex_iu7, List.getD_cons_zero, List.getD_cons_succ, List.set_cons_zero, List.set_cons_succ, isI_i, isA_r, isD_d, isF_f, GInc, ko_v, ko_n, cat_i2, cat_r2, cat_n2, cat_f2, cat_d2, cat_l2, Nat.zero_le, Nat.zero_add, Nat.le_refl, Nat.reduceAdd, Nat.reduceLeDiff, ne_eq, not_false_eq_true, Nat.reduceEqDiff, sI_mk, wI_mk, wCp_mk, Option.toList, List.nil_append, List.cons_append, kd_20, kd_21, kd_22, kd_23, kd_24, kd_25, kd_26, kd_27, kd_28, kd_29, kd_30, kd_31, kd_32, kd_33, kd_34, kd_35, kd_36, kd_37, kd_38, kd_39, kd_40, kd_41, kd_42, kd_43, kd_44, kd_45, kd_46, kd_47, kd_48, kd_49, kd_50, kd_51, kd_52, kd_53, kd_54, om, n59, not_false_eq_true, if_true]
      refine prs_w a1 (fun f2 e1 e2 e3 => ?_)
      refine hq f2 e1 e2 (F1.p.tr (by rw [e3]; exact FrP.up (by decide))) ?_ ?_
      · rw [e3, up3_at, if_neg (by decide)]; exact (h20 F1).1
      · rw [e3, up3_at, if_neg (by decide)]; exact (h20 F1).2
    | inl z =>
      obtain ⟨k, as, e⟩ := z
      obtain ⟨b1, b2, b3⟩ := hb
      intro f1 a1 e51 e52 F1
      refine hk _ ?_
      have om := fun Q => mrk_f (d := d + 4) (N := N) (r := r) (Q := Q) hG a1
      have hm := mkT_c (T := T) (p := e) (c := 59) (by decide)
      have hL2 := hL.add a1.2.2.1 e51 e52 F1
      rw [jb294_1]
      cases hh : hldT T 59 e with
      | true =>
        have hlt : e < T.length ∧ chT T e = 59 := by
          unfold hldT at hh
          rw [Bool.and_eq_true] at hh
          exact ⟨of_decide_eq_true hh.1, of_decide_eq_true hh.2⟩
        have a12 := a1.2.1
        rw [hh] at hm
        dsimp only at hq
        rw [if_pos (Or.inr hlt.2)] at hq
        dsimp only at hq
        rw [if_neg (show ¬ e = T.length by omega)] at hq
        simp only [B294_1, ex_iconst, ex_bipush, ex_sipush, ex_ldc, ex_ldcs, ex_fconst, ex_dconst, ex_iload_n, ex_iload, ex_aload_n, ex_aload, ex_dload_n, ex_dload, ex_fload, ex_istore_n, ex_istore, ex_fstore, ex_dstore_n, ex_dstore, ex_astore_n, ex_astore, ex_iinc, ex_ginc, ex_pop_i, ex_pop_r, ex_dup_i, ex_dup_r, ex_dup_x1, ex_dup2, ex_iadd, ex_isub, ex_imul, ex_iand, ex_ior, ex_ixor, ex_ishl, ex_ishr, ex_idiv, ex_irem, ex_ineg, ex_i2l, ex_i2c, ex_i2b, ex_i2f, ex_i2d, ex_f2d, ex_fdiv, ex_ddiv, ex_lcmp, ex_dcmp, ex_getI, ex_getR, ex_putI, ex_putB, ex_putZ, ex_putR, ex_getsI, ex_getsR, ex_iald, ex_cald, ex_iast, ex_cast, ex_aast, ex_alen, ex_copy1, ex_copy2, ex_throw, ex_goto, ex_fall, ex_if_eq, ex_ic_eq, ex_if_ne, ex_ic_ne, ex_if_lt, ex_ic_lt, ex_if_ge, ex_ic_ge, ex_if_gt, ex_ic_gt, ex_if_le, ex_ic_le, ex_switch, ex_ireturn, ex_ireturn_z, ex_ireturn_b, ex_ireturn_c, ex_areturn, ex_freturn, ex_dreturn, ex_return, ex_is0, ex_is1, ex_is2, ex_is3, ex_is4, ex_is5, ex_is6, ex_is7, ex_iv1, ex_iv2, ex_iv3, ex_iv4, ex_iv5, ex_iv6, ex_iv7, ex_ip1, ex_ip2, ex_ip3, ex_ip4, ex_ip5, ex_ip6, ex_ip7, ex_iu1, ex_iu2, ex_iu3, ex_iu4, ex_iu5, ex_iu6, ex_iu7, List.getD_cons_zero, List.getD_cons_succ, List.set_cons_zero, List.set_cons_succ, isI_i, isA_r, isD_d, isF_f, GInc, ko_v, ko_n, cat_i2, cat_r2, cat_n2, cat_f2, cat_d2, cat_l2, Nat.zero_le, Nat.zero_add, Nat.le_refl, Nat.reduceAdd, Nat.reduceLeDiff, ne_eq, not_false_eq_true, Nat.reduceEqDiff, sI_mk, wI_mk, wCp_mk, Option.toList, List.nil_append, List.cons_append, kd_20, kd_21, kd_22, kd_23, kd_24, kd_25, kd_26, kd_27, kd_28, kd_29, kd_30, kd_31, kd_32, kd_33, kd_34, kd_35, kd_36, kd_37, kd_38, kd_39, kd_40, kd_41, kd_42, kd_43, kd_44, kd_45, kd_46, kd_47, kd_48, kd_49, kd_50, kd_51, kd_52, kd_53, kd_54, om, hm, not_true_eq_false, if_false, pr_11, a12, ik_succ, pr_u11]
        have F2 : FrP f (up3 f1 11 0 22 (ik (e + 1))) := F1.p.tr (FrP.up (by decide))
        refine ih (e + 1) (cm ++ [(k, as)]) _ _ (by rw [len_one]; omega) (by rw [len_one]; omega) (by omega) (by rw [len_one]; exact a1.setP (by omega)) (hL2.dep (by rw [up3_at, if_neg (by decide)]) (fun t n ht => by rw [up3_at, if_neg (by omega)])) (hq.fr F2 ?_ ?_) (fun s hs => ?_)
        · rw [up3_at, if_neg (by decide)]; exact (h20 F1).1
        · rw [up3_at, if_neg (by decide)]; exact (h20 F1).2
        · simp only [ex_iconst, ex_bipush, ex_sipush, ex_ldc, ex_ldcs, ex_fconst, ex_dconst, ex_iload_n, ex_iload, ex_aload_n, ex_aload, ex_dload_n, ex_dload, ex_fload, ex_istore_n, ex_istore, ex_fstore, ex_dstore_n, ex_dstore, ex_astore_n, ex_astore, ex_iinc, ex_ginc, ex_pop_i, ex_pop_r, ex_dup_i, ex_dup_r, ex_dup_x1, ex_dup2, ex_iadd, ex_isub, ex_imul, ex_iand, ex_ior, ex_ixor, ex_ishl, ex_ishr, ex_idiv, ex_irem, ex_ineg, ex_i2l, ex_i2c, ex_i2b, ex_i2f, ex_i2d, ex_f2d, ex_fdiv, ex_ddiv, ex_lcmp, ex_dcmp, ex_getI, ex_getR, ex_putI, ex_putB, ex_putZ, ex_putR, ex_getsI, ex_getsR, ex_iald, ex_cald, ex_iast, ex_cast, ex_aast, ex_alen, ex_copy1, ex_copy2, ex_throw, ex_goto, ex_fall, ex_if_eq, ex_ic_eq, ex_if_ne, ex_ic_ne, ex_if_lt, ex_ic_lt, ex_if_ge, ex_ic_ge, ex_if_gt, ex_ic_gt, ex_if_le, ex_ic_le, ex_switch, ex_ireturn, ex_ireturn_z, ex_ireturn_b, ex_ireturn_c, ex_areturn, ex_freturn, ex_dreturn, ex_return, ex_is0, ex_is1, ex_is2, ex_is3, ex_is4, ex_is5, ex_is6, ex_is7, ex_iv1, ex_iv2, ex_iv3, ex_iv4, ex_iv5, ex_iv6, ex_iv7, ex_ip1, ex_ip2, ex_ip3, ex_ip4, ex_ip5, ex_ip6, ex_ip7, ex_iu1, ex_iu2, ex_iu3, ex_iu4, ex_iu5, ex_iu6, ex_iu7, List.getD_cons_zero, List.getD_cons_succ, List.set_cons_zero, List.set_cons_succ, isI_i, isA_r, isD_d, isF_f, GInc, ko_v, ko_n, cat_i2, cat_r2, cat_n2, cat_f2, cat_d2, cat_l2, Nat.zero_le, Nat.zero_add, Nat.le_refl, Nat.reduceAdd, Nat.reduceLeDiff, ne_eq, not_false_eq_true, Nat.reduceEqDiff, sI_mk, wI_mk, wCp_mk, Option.toList, List.nil_append, List.cons_append, kd_20, kd_21, kd_22, kd_23, kd_24, kd_25, kd_26, kd_27, kd_28, kd_29, kd_30, kd_31, kd_32, kd_33, kd_34, kd_35, kd_36, kd_37, kd_38, kd_39, kd_40, kd_41, kd_42, kd_43, kd_44, kd_45, kd_46, kd_47, kd_48, kd_49, kd_50, kd_51, kd_52, kd_53, kd_54]
          exact hs
      | false =>
        have hn : ¬ mkT T e = 59 := fun z => by rw [hm, hh] at z; exact absurd z (by decide)
        simp only [B294_1, ex_iconst, ex_bipush, ex_sipush, ex_ldc, ex_ldcs, ex_fconst, ex_dconst, ex_iload_n, ex_iload, ex_aload_n, ex_aload, ex_dload_n, ex_dload, ex_fload, ex_istore_n, ex_istore, ex_fstore, ex_dstore_n, ex_dstore, ex_astore_n, ex_astore, ex_iinc, ex_ginc, ex_pop_i, ex_pop_r, ex_dup_i, ex_dup_r, ex_dup_x1, ex_dup2, ex_iadd, ex_isub, ex_imul, ex_iand, ex_ior, ex_ixor, ex_ishl, ex_ishr, ex_idiv, ex_irem, ex_ineg, ex_i2l, ex_i2c, ex_i2b, ex_i2f, ex_i2d, ex_f2d, ex_fdiv, ex_ddiv, ex_lcmp, ex_dcmp, ex_getI, ex_getR, ex_putI, ex_putB, ex_putZ, ex_putR, ex_getsI, ex_getsR, ex_iald, ex_cald, ex_iast, ex_cast, ex_aast, ex_alen, ex_copy1, ex_copy2, ex_throw, ex_goto, ex_fall, ex_if_eq, ex_ic_eq, ex_if_ne, ex_ic_ne, ex_if_lt, ex_ic_lt, ex_if_ge, ex_ic_ge, ex_if_gt, ex_ic_gt, ex_if_le, ex_ic_le, ex_switch, ex_ireturn, ex_ireturn_z, ex_ireturn_b, ex_ireturn_c, ex_areturn, ex_freturn, ex_dreturn, ex_return, ex_is0, ex_is1, ex_is2, ex_is3, ex_is4, ex_is5, ex_is6, ex_is7, ex_iv1, ex_iv2, ex_iv3, ex_iv4, ex_iv5, ex_iv6, ex_iv7, ex_ip1, ex_ip2, ex_ip3, ex_ip4, ex_ip5, ex_ip6, ex_ip7, ex_iu1, ex_iu2, ex_iu3, ex_iu4, ex_iu5, ex_iu6, ex_iu7, List.getD_cons_zero, List.getD_cons_succ, List.set_cons_zero, List.set_cons_succ, isI_i, isA_r, isD_d, isF_f, GInc, ko_v, ko_n, cat_i2, cat_r2, cat_n2, cat_f2, cat_d2, cat_l2, Nat.zero_le, Nat.zero_add, Nat.le_refl, Nat.reduceAdd, Nat.reduceLeDiff, ne_eq, not_false_eq_true, Nat.reduceEqDiff, sI_mk, wI_mk, wCp_mk, Option.toList, List.nil_append, List.cons_append, kd_20, kd_21, kd_22, kd_23, kd_24, kd_25, kd_26, kd_27, kd_28, kd_29, kd_30, kd_31, kd_32, kd_33, kd_34, kd_35, kd_36, kd_37, kd_38, kd_39, kd_40, kd_41, kd_42, kd_43, kd_44, kd_45, kd_46, kd_47, kd_48, kd_49, kd_50, kd_51, kd_52, kd_53, kd_54, om, hn, not_false_eq_true, if_true]
        refine prs_w a1 (fun f2 e1 e2 e3 => ?_)
        have F2 : FrP f f2 := F1.p.tr (by rw [e3]; exact FrP.up (by decide))
        have g1 : f2 11 0 20 = f 11 0 20 := by rw [e3, up3_at, if_neg (by decide)]; exact (h20 F1).1
        have g2 : f2 11 0 21 = f 11 0 21 := by rw [e3, up3_at, if_neg (by decide)]; exact (h20 F1).2
        by_cases hlt : e < T.length
        · have hc59 : ¬ chT T e = 59 := fun z => by unfold hldT at hh; simp [hlt, z] at hh
          dsimp only at hq
          rw [if_neg (show ¬ (e = T.length ∨ chT T e = 59) from fun z => z.elim (fun z => by omega) hc59)] at hq
          exact hq f2 e1 (by rw [e2]; simp [hlt]) F2 g1 g2
        · have hel : e = T.length := by omega
          dsimp only at hq
          rw [if_pos (Or.inl hel)] at hq
          dsimp only at hq
          rw [if_pos hel] at hq
          refine hq f2 (by rw [e1, hel]) (by rw [e2]; simp [hlt]) (hL2.dep (by rw [e3, up3_at, if_neg (by decide)]) (fun t n ht => by rw [e3, up3_at, if_neg (by omega)])) F2 g1 g2
/-- the input read -/
theorem prs_ok (hG : StG r) (h1 : f 11 0 20 = ik T.length) (h60 : T.length ≤ 60) (hT : ∀ k x, T[k]? = some x → f 50 0 k = x) (hq : ∀ g, FrP f g → g 11 0 20 = 0 → PrQ Q r g N T.length (rdT T 60 0 [])) : Cl (d + 6) 294 [vr 11 0] (pr f N, r) Q := by
  rw [en294]
  simp only [B294_0, ex_iconst, ex_bipush, ex_sipush, ex_ldc, ex_ldcs, ex_fconst, ex_dconst, ex_iload_n, ex_iload, ex_aload_n, ex_aload, ex_dload_n, ex_dload, ex_fload, ex_istore_n, ex_istore, ex_fstore, ex_dstore_n, ex_dstore, ex_astore_n, ex_astore, ex_iinc, ex_ginc, ex_pop_i, ex_pop_r, ex_dup_i, ex_dup_r, ex_dup_x1, ex_dup2, ex_iadd, ex_isub, ex_imul, ex_iand, ex_ior, ex_ixor, ex_ishl, ex_ishr, ex_idiv, ex_irem, ex_ineg, ex_i2l, ex_i2c, ex_i2b, ex_i2f, ex_i2d, ex_f2d, ex_fdiv, ex_ddiv, ex_lcmp, ex_dcmp, ex_getI, ex_getR, ex_putI, ex_putB, ex_putZ, ex_putR, ex_getsI, ex_getsR, ex_iald, ex_cald, ex_iast, ex_cast, ex_aast, ex_alen, ex_copy1, ex_copy2, ex_throw, ex_goto, ex_fall, ex_if_eq, ex_ic_eq, ex_if_ne, ex_ic_ne, ex_if_lt, ex_ic_lt, ex_if_ge, ex_ic_ge, ex_if_gt, ex_ic_gt, ex_if_le, ex_ic_le, ex_switch, ex_ireturn, ex_ireturn_z, ex_ireturn_b, ex_ireturn_c, ex_areturn, ex_freturn, ex_dreturn, ex_return, ex_is0, ex_is1, ex_is2, ex_is3, ex_is4, ex_is5, ex_is6, ex_is7, ex_iv1, ex_iv2, ex_iv3, ex_iv4, ex_iv5, ex_iv6, ex_iv7, ex_ip1, ex_ip2, ex_ip3, ex_ip4, ex_ip5, ex_ip6, ex_ip7, ex_iu1, ex_iu2, ex_iu3, ex_iu4, ex_iu5, ex_iu6, ex_iu7, List.getD_cons_zero, List.getD_cons_succ, List.set_cons_zero, List.set_cons_succ, isI_i, isA_r, isD_d, isF_f, GInc, ko_v, ko_n, cat_i2, cat_r2, cat_n2, cat_f2, cat_d2, cat_l2, Nat.zero_le, Nat.zero_add, Nat.le_refl, Nat.reduceAdd, Nat.reduceLeDiff, ne_eq, not_false_eq_true, Nat.reduceEqDiff, sI_mk, wI_mk, wCp_mk, Option.toList, List.nil_append, List.cons_append, kd_20, kd_21, kd_22, kd_23, kd_24, kd_25, kd_26, kd_27, kd_28, kd_29, kd_30, kd_31, kd_32, kd_33, kd_34, kd_35, kd_36, kd_37, kd_38, kd_39, kd_40, kd_41, kd_42, kd_43, kd_44, kd_45, kd_46, kd_47, kd_48, kd_49, kd_50, kd_51, kd_52, kd_53, kd_54, pr_11, h1, pr_u11]
  refine (ex_putZ (Or.inl rfl)).mpr ?_
  simp only [ex_iconst, ex_bipush, ex_sipush, ex_ldc, ex_ldcs, ex_fconst, ex_dconst, ex_iload_n, ex_iload, ex_aload_n, ex_aload, ex_dload_n, ex_dload, ex_fload, ex_istore_n, ex_istore, ex_fstore, ex_dstore_n, ex_dstore, ex_astore_n, ex_astore, ex_iinc, ex_ginc, ex_pop_i, ex_pop_r, ex_dup_i, ex_dup_r, ex_dup_x1, ex_dup2, ex_iadd, ex_isub, ex_imul, ex_iand, ex_ior, ex_ixor, ex_ishl, ex_ishr, ex_idiv, ex_irem, ex_ineg, ex_i2l, ex_i2c, ex_i2b, ex_i2f, ex_i2d, ex_f2d, ex_fdiv, ex_ddiv, ex_lcmp, ex_dcmp, ex_getI, ex_getR, ex_putI, ex_putB, ex_putZ, ex_putR, ex_getsI, ex_getsR, ex_iald, ex_cald, ex_iast, ex_cast, ex_aast, ex_alen, ex_copy1, ex_copy2, ex_throw, ex_goto, ex_fall, ex_if_eq, ex_ic_eq, ex_if_ne, ex_ic_ne, ex_if_lt, ex_ic_lt, ex_if_ge, ex_ic_ge, ex_if_gt, ex_ic_gt, ex_if_le, ex_ic_le, ex_switch, ex_ireturn, ex_ireturn_z, ex_ireturn_b, ex_ireturn_c, ex_areturn, ex_freturn, ex_dreturn, ex_return, ex_is0, ex_is1, ex_is2, ex_is3, ex_is4, ex_is5, ex_is6, ex_is7, ex_iv1, ex_iv2, ex_iv3, ex_iv4, ex_iv5, ex_iv6, ex_iv7, ex_ip1, ex_ip2, ex_ip3, ex_ip4, ex_ip5, ex_ip6, ex_ip7, ex_iu1, ex_iu2, ex_iu3, ex_iu4, ex_iu5, ex_iu6, ex_iu7, List.getD_cons_zero, List.getD_cons_succ, List.set_cons_zero, List.set_cons_succ, isI_i, isA_r, isD_d, isF_f, GInc, ko_v, ko_n, cat_i2, cat_r2, cat_n2, cat_f2, cat_d2, cat_l2, Nat.zero_le, Nat.zero_add, Nat.le_refl, Nat.reduceAdd, Nat.reduceLeDiff, ne_eq, not_false_eq_true, Nat.reduceEqDiff, sI_mk, wI_mk, wCp_mk, Option.toList, List.nil_append, List.cons_append, kd_20, kd_21, kd_22, kd_23, kd_24, kd_25, kd_26, kd_27, kd_28, kd_29, kd_30, kd_31, kd_32, kd_33, kd_34, kd_35, kd_36, kd_37, kd_38, kd_39, kd_40, kd_41, kd_42, kd_43, kd_44, kd_45, kd_46, kd_47, kd_48, kd_49, kd_50, kd_51, kd_52, kd_53, kd_54, pr_u11]
  refine prs_lp (T := T) (Q := Q) hG 60 0 [] _ _ rfl (Nat.le_refl _) (Nat.zero_le _) ⟨?_, ?_, ?_, ?_, fun k x hk => ?_, h60, Nat.zero_le _, Nat.zero_le _⟩ ⟨?_, fun i q hi => by simp at hi⟩ (hq _ (fun t j n q q2 q3 => ?_) ?_) (fun s hs => ?_)
  · simp only [up3_at, up3_at, Nat.reduceEqDiff, false_and, and_false, and_true, true_and, and_self, eq_self, reduceIte, if_true, if_false]
  · simp only [up3_at, up3_at, Nat.reduceEqDiff, false_and, and_false, and_true, true_and, and_self, eq_self, reduceIte, if_true, if_false]; rfl
  · simp only [up3_at, up3_at, Nat.reduceEqDiff, false_and, and_false, and_true, true_and, and_self, eq_self, reduceIte, if_true, if_false]; rfl
  · simp only [up3_at, up3_at, Nat.reduceEqDiff, false_and, and_false, and_true, true_and, and_self, eq_self, reduceIte, if_true, if_false]; rfl
  · simp only [up3_at, up3_at, Nat.reduceEqDiff, false_and, and_false, and_true, true_and, and_self, eq_self, reduceIte, if_true, if_false]; exact hT k x hk
  · simp only [up3_at, up3_at, Nat.reduceEqDiff, false_and, and_false, and_true, true_and, and_self, eq_self, reduceIte, if_true, if_false]; rfl
  · rw [up3_at, if_neg (by omega), up3_at, if_neg (by omega), up3_at, if_neg (by omega), up3_at, if_neg (by omega), up3_at, if_neg (by omega)]
  · simp only [up3_at, up3_at, Nat.reduceEqDiff, false_and, and_false, and_true, true_and, and_self, eq_self, reduceIte, if_true, if_false]
  · simp only [ex_iconst, ex_bipush, ex_sipush, ex_ldc, ex_ldcs, ex_fconst, ex_dconst, ex_iload_n, ex_iload, ex_aload_n, ex_aload, ex_dload_n, ex_dload, ex_fload, ex_istore_n, ex_istore, ex_fstore, ex_dstore_n, ex_dstore, ex_astore_n, ex_astore, ex_iinc, ex_ginc, ex_pop_i, ex_pop_r, ex_dup_i, ex_dup_r, ex_dup_x1, ex_dup2, ex_iadd, ex_isub, ex_imul, ex_iand, ex_ior, ex_ixor, ex_ishl, ex_ishr, ex_idiv, ex_irem, ex_ineg, ex_i2l, ex_i2c, ex_i2b, ex_i2f, ex_i2d, ex_f2d, ex_fdiv, ex_ddiv, ex_lcmp, ex_dcmp, ex_getI, ex_getR, ex_putI, ex_putB, ex_putZ, ex_putR, ex_getsI, ex_getsR, ex_iald, ex_cald, ex_iast, ex_cast, ex_aast, ex_alen, ex_copy1, ex_copy2, ex_throw, ex_goto, ex_fall, ex_if_eq, ex_ic_eq, ex_if_ne, ex_ic_ne, ex_if_lt, ex_ic_lt, ex_if_ge, ex_ic_ge, ex_if_gt, ex_ic_gt, ex_if_le, ex_ic_le, ex_switch, ex_ireturn, ex_ireturn_z, ex_ireturn_b, ex_ireturn_c, ex_areturn, ex_freturn, ex_dreturn, ex_return, ex_is0, ex_is1, ex_is2, ex_is3, ex_is4, ex_is5, ex_is6, ex_is7, ex_iv1, ex_iv2, ex_iv3, ex_iv4, ex_iv5, ex_iv6, ex_iv7, ex_ip1, ex_ip2, ex_ip3, ex_ip4, ex_ip5, ex_ip6, ex_ip7, ex_iu1, ex_iu2, ex_iu3, ex_iu4, ex_iu5, ex_iu6, ex_iu7, List.getD_cons_zero, List.getD_cons_succ, List.set_cons_zero, List.set_cons_succ, isI_i, isA_r, isD_d, isF_f, GInc, ko_v, ko_n, cat_i2, cat_r2, cat_n2, cat_f2, cat_d2, cat_l2, Nat.zero_le, Nat.zero_add, Nat.le_refl, Nat.reduceAdd, Nat.reduceLeDiff, ne_eq, not_false_eq_true, Nat.reduceEqDiff, sI_mk, wI_mk, wCp_mk, Option.toList, List.nil_append, List.cons_append, kd_20, kd_21, kd_22, kd_23, kd_24, kd_25, kd_26, kd_27, kd_28, kd_29, kd_30, kd_31, kd_32, kd_33, kd_34, kd_35, kd_36, kd_37, kd_38, kd_39, kd_40, kd_41, kd_42, kd_43, kd_44, kd_45, kd_46, kd_47, kd_48, kd_49, kd_50, kd_51, kd_52, kd_53, kd_54]
    exact hs
end Mread
