theorem ck_all (m : Nat) (h : m < 361) : chkM m = true := by
  have h1 : m = 20 * (m / 20) + m % 20 := by omega
  have h2 : m / 20 < 19 := by omega
  have h3 : m % 20 < 20 := by omega
  generalize m / 20 = q at h1 h2
  generalize m % 20 = r at h1 h3
  subst h1
  by_cases e0 : q = 0
  · subst e0; exact List.all_eq_true.mp ckc_0 r (List.mem_range.mpr (by omega))
  by_cases e1 : q = 1
  · subst e1; exact List.all_eq_true.mp ckc_1 r (List.mem_range.mpr (by omega))
  by_cases e2 : q = 2
  · subst e2; exact List.all_eq_true.mp ckc_2 r (List.mem_range.mpr (by omega))
  by_cases e3 : q = 3
  · subst e3; exact List.all_eq_true.mp ckc_3 r (List.mem_range.mpr (by omega))
  by_cases e4 : q = 4
  · subst e4; exact List.all_eq_true.mp ckc_4 r (List.mem_range.mpr (by omega))
  by_cases e5 : q = 5
  · subst e5; exact List.all_eq_true.mp ckc_5 r (List.mem_range.mpr (by omega))
  by_cases e6 : q = 6
  · subst e6; exact List.all_eq_true.mp ckc_6 r (List.mem_range.mpr (by omega))
  by_cases e7 : q = 7
  · subst e7; exact List.all_eq_true.mp ckc_7 r (List.mem_range.mpr (by omega))
  by_cases e8 : q = 8
  · subst e8; exact List.all_eq_true.mp ckc_8 r (List.mem_range.mpr (by omega))
  by_cases e9 : q = 9
  · subst e9; exact List.all_eq_true.mp ckc_9 r (List.mem_range.mpr (by omega))
  by_cases e10 : q = 10
  · subst e10; exact List.all_eq_true.mp ckc_10 r (List.mem_range.mpr (by omega))
  by_cases e11 : q = 11
  · subst e11; exact List.all_eq_true.mp ckc_11 r (List.mem_range.mpr (by omega))
  by_cases e12 : q = 12
  · subst e12; exact List.all_eq_true.mp ckc_12 r (List.mem_range.mpr (by omega))
  by_cases e13 : q = 13
  · subst e13; exact List.all_eq_true.mp ckc_13 r (List.mem_range.mpr (by omega))
  by_cases e14 : q = 14
  · subst e14; exact List.all_eq_true.mp ckc_14 r (List.mem_range.mpr (by omega))
  by_cases e15 : q = 15
  · subst e15; exact List.all_eq_true.mp ckc_15 r (List.mem_range.mpr (by omega))
  by_cases e16 : q = 16
  · subst e16; exact List.all_eq_true.mp ckc_16 r (List.mem_range.mpr (by omega))
  by_cases e17 : q = 17
  · subst e17; exact List.all_eq_true.mp ckc_17 r (List.mem_range.mpr (by omega))
  by_cases e18 : q = 18
  · subst e18; exact List.all_eq_true.mp ckc_18 r (List.mem_range.mpr (by omega))
  omega
theorem cl_all (m : Nat) (h : m < 160) : chkB 361 (pcs 361 m) (MC 361 m) = true := by
  have h1 : m = 8 * (m / 8) + m % 8 := by omega
  have h2 : m / 8 < 20 := by omega
  have h3 : m % 8 < 8 := by omega
  generalize m / 8 = q at h1 h2
  generalize m % 8 = r at h1 h3
  subst h1
  by_cases e0 : q = 0
  · subst e0; exact List.all_eq_true.mp cl0 r (List.mem_range.mpr (by omega))
  by_cases e1 : q = 1
  · subst e1; exact List.all_eq_true.mp cl1 r (List.mem_range.mpr (by omega))
  by_cases e2 : q = 2
  · subst e2; exact List.all_eq_true.mp cl2 r (List.mem_range.mpr (by omega))
  by_cases e3 : q = 3
  · subst e3; exact List.all_eq_true.mp cl3 r (List.mem_range.mpr (by omega))
  by_cases e4 : q = 4
  · subst e4; exact List.all_eq_true.mp cl4 r (List.mem_range.mpr (by omega))
  by_cases e5 : q = 5
  · subst e5; exact List.all_eq_true.mp cl5 r (List.mem_range.mpr (by omega))
  by_cases e6 : q = 6
  · subst e6; exact List.all_eq_true.mp cl6 r (List.mem_range.mpr (by omega))
  by_cases e7 : q = 7
  · subst e7; exact List.all_eq_true.mp cl7 r (List.mem_range.mpr (by omega))
  by_cases e8 : q = 8
  · subst e8; exact List.all_eq_true.mp cl8 r (List.mem_range.mpr (by omega))
  by_cases e9 : q = 9
  · subst e9; exact List.all_eq_true.mp cl9 r (List.mem_range.mpr (by omega))
  by_cases e10 : q = 10
  · subst e10; exact List.all_eq_true.mp cl10 r (List.mem_range.mpr (by omega))
  by_cases e11 : q = 11
  · subst e11; exact List.all_eq_true.mp cl11 r (List.mem_range.mpr (by omega))
  by_cases e12 : q = 12
  · subst e12; exact List.all_eq_true.mp cl12 r (List.mem_range.mpr (by omega))
  by_cases e13 : q = 13
  · subst e13; exact List.all_eq_true.mp cl13 r (List.mem_range.mpr (by omega))
  by_cases e14 : q = 14
  · subst e14; exact List.all_eq_true.mp cl14 r (List.mem_range.mpr (by omega))
  by_cases e15 : q = 15
  · subst e15; exact List.all_eq_true.mp cl15 r (List.mem_range.mpr (by omega))
  by_cases e16 : q = 16
  · subst e16; exact List.all_eq_true.mp cl16 r (List.mem_range.mpr (by omega))
  by_cases e17 : q = 17
  · subst e17; exact List.all_eq_true.mp cl17 r (List.mem_range.mpr (by omega))
  by_cases e18 : q = 18
  · subst e18; exact List.all_eq_true.mp cl18 r (List.mem_range.mpr (by omega))
  by_cases e19 : q = 19
  · subst e19; exact List.all_eq_true.mp cl19 r (List.mem_range.mpr (by omega))
  omega
theorem cw_code (m : Nat) (h : m < 314) : (decide (cwOf m = some (.code (mY m) (mB m) (ML m) (mR m))) && plainFor (mY m) && goodWord (.code (mY m) (mB m) (ML m) (mR m))) = true := by
  have h1 : m = 20 * (m / 20) + m % 20 := by omega
  have h2 : m / 20 < 16 := by omega
  have h3 : m % 20 < 20 := by omega
  generalize m / 20 = q at h1 h2
  generalize m % 20 = r at h1 h3
  subst h1
  by_cases e0 : q = 0
  · subst e0; exact List.all_eq_true.mp cwk_0 r (List.mem_range.mpr (by omega))
  by_cases e1 : q = 1
  · subst e1; exact List.all_eq_true.mp cwk_1 r (List.mem_range.mpr (by omega))
  by_cases e2 : q = 2
  · subst e2; exact List.all_eq_true.mp cwk_2 r (List.mem_range.mpr (by omega))
  by_cases e3 : q = 3
  · subst e3; exact List.all_eq_true.mp cwk_3 r (List.mem_range.mpr (by omega))
  by_cases e4 : q = 4
  · subst e4; exact List.all_eq_true.mp cwk_4 r (List.mem_range.mpr (by omega))
  by_cases e5 : q = 5
  · subst e5; exact List.all_eq_true.mp cwk_5 r (List.mem_range.mpr (by omega))
  by_cases e6 : q = 6
  · subst e6; exact List.all_eq_true.mp cwk_6 r (List.mem_range.mpr (by omega))
  by_cases e7 : q = 7
  · subst e7; exact List.all_eq_true.mp cwk_7 r (List.mem_range.mpr (by omega))
  by_cases e8 : q = 8
  · subst e8; exact List.all_eq_true.mp cwk_8 r (List.mem_range.mpr (by omega))
  by_cases e9 : q = 9
  · subst e9; exact List.all_eq_true.mp cwk_9 r (List.mem_range.mpr (by omega))
  by_cases e10 : q = 10
  · subst e10; exact List.all_eq_true.mp cwk_10 r (List.mem_range.mpr (by omega))
  by_cases e11 : q = 11
  · subst e11; exact List.all_eq_true.mp cwk_11 r (List.mem_range.mpr (by omega))
  by_cases e12 : q = 12
  · subst e12; exact List.all_eq_true.mp cwk_12 r (List.mem_range.mpr (by omega))
  by_cases e13 : q = 13
  · subst e13; exact List.all_eq_true.mp cwk_13 r (List.mem_range.mpr (by omega))
  by_cases e14 : q = 14
  · subst e14; exact List.all_eq_true.mp cwk_14 r (List.mem_range.mpr (by omega))
  by_cases e15 : q = 15
  · subst e15; exact List.all_eq_true.mp cwk_15 r (List.mem_range.mpr (by omega))
  omega
theorem cl_len : (MCL.getD 361 []).length ≤ 160 := by decide +kernel
theorem cl_pc0 : pcs 361 0 = 0 := by decide +kernel
theorem ck_blk {m : Nat} (h : m < 362) (b : Nat) : chkB m (pcs m b) (MC m b) = true := by
  by_cases hm : m < 361
  · have h1 := ck_all m hm
    simp only [chkM, Bool.and_eq_true] at h1
    by_cases hb : b < (MCL.getD m []).length
    · exact List.all_eq_true.mp h1.1 b (List.mem_range.mpr hb)
    · have : MC m b = [] := by unfold MC; rw [List.getD_eq_getElem?_getD, List.getElem?_eq_none (by omega)]; rfl
      rw [this]; rfl
  · have : m = 361 := by omega
    subst this
    by_cases hb : b < 160
    · exact cl_all b hb
    · have : MC 361 b = [] := by unfold MC; rw [List.getD_eq_getElem?_getD, List.getElem?_eq_none (by have := cl_len; omega)]; rfl
      rw [this]; rfl
theorem ck_pc0 {m : Nat} (h : m < 362) : pcs m 0 = 0 := by
  by_cases hm : m < 361
  · have h1 := ck_all m hm
    simp only [chkM, Bool.and_eq_true, decide_eq_true_eq] at h1
    exact h1.2
  · have : m = 361 := by omega
    subst this
    exact cl_pc0
theorem cw_mem {m : Nat} {w : Cond} (h : cwOf m = some w) : w ∈ lw2 := by
  unfold cwOf at h
  exact tbl_mem _ _ (List.mem_of_getElem? h)
