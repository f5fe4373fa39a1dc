theorem ck_all (m : Nat) (h : m < 361) : chkM m = true := by
  have h1 : m = 20 * (m / 20) + m % 20 := by omega
  have h2 : m / 20 < 19 := by omega
  have h3 : m % 20 < 20 := by omega
  generalize m / 20 = q at h1 h2
  generalize m % 20 = r at h1 h3
  subst h1
  by_cases e0 : q = 0
  · subst e0; exact List.all_eq_true.mp ckc_0 r (List.mem_range.mpr (by omega))
  by_cases e1 : q = 1
  · subst e1; exact List.all_eq_true.mp ckc_1 r (List.mem_range.mpr (by omega))
  by_cases e2 : q = 2
  · subst e2; exact List.all_eq_true.mp ckc_2 r (List.mem_range.mpr (by omega))
  by_cases e3 : q = 3
  · subst e3; exact List.all_eq_true.mp ckc_3 r (List.mem_range.mpr (by omega))
  by_cases e4 : q = 4
  · subst e4; exact List.all_eq_true.mp ckc_4 r (List.mem_range.mpr (by omega))
  by_cases e5 : q = 5
  · subst e5; exact List.all_eq_true.mp ckc_5 r (List.mem_range.mpr (by omega))
  by_cases e6 : q = 6
  · subst e6; exact List.all_eq_true.mp ckc_6 r (List.mem_range.mpr (by omega))
  by_cases e7 : q = 7
  · subst e7; exact List.all_eq_true.mp ckc_7 r (List.mem_range.mpr (by omega))
  by_cases e8 : q = 8
  · subst e8; exact List.all_eq_true.mp ckc_8 r (List.mem_range.mpr (by omega))
  by_cases e9 : q = 9
  · subst e9; exact List.all_eq_true.mp ckc_9 r (List.mem_range.mpr (by omega))
  by_cases e10 : q = 10
  · subst e10; exact List.all_eq_true.mp ckc_10 r (List.mem_range.mpr (by omega))
  by_cases e11 : q = 11
  · subst e11; exact List.all_eq_true.mp ckc_11 r (List.mem_range.mpr (by omega))
  by_cases e12 : q = 12
  · subst e12; exact List.all_eq_true.mp ckc_12 r (List.mem_range.mpr (by omega))
  by_cases e13 : q = 13
  · subst e13; exact List.all_eq_true.mp ckc_13 r (List.mem_range.mpr (by omega))
  by_cases e14 : q = 14
  · subst e14; exact List.all_eq_true.mp ckc_14 r (List.mem_range.mpr (by omega))
  by_cases e15 : q = 15
  · subst e15; exact List.all_eq_true.mp ckc_15 r (List.mem_range.mpr (by omega))
  by_cases e16 : q = 16
  · subst e16; exact List.all_eq_true.mp ckc_16 r (List.mem_range.mpr (by omega))
  by_cases e17 : q = 17
  · subst e17; exact List.all_eq_true.mp ckc_17 r (List.mem_range.mpr (by omega))
  by_cases e18 : q = 18
  · subst e18; exact List.all_eq_true.mp ckc_18 r (List.mem_range.mpr (by omega))
  omega
theorem cl_all (m : Nat) (h : m < 160) : chkB 361 (pcs 361 m) (MC 361 m) = true := by
  have h1 : m = 2 * (m / 2) + m % 2 := by omega
  have h2 : m / 2 < 80 := by omega
  have h3 : m % 2 < 2 := by omega
  generalize m / 2 = q at h1 h2
  generalize m % 2 = r at h1 h3
  subst h1
  by_cases e0 : q = 0
  · subst e0; exact List.all_eq_true.mp cl0 r (List.mem_range.mpr (by omega))
  by_cases e1 : q = 1
  · subst e1; exact List.all_eq_true.mp cl1 r (List.mem_range.mpr (by omega))
  by_cases e2 : q = 2
  · subst e2; exact List.all_eq_true.mp cl2 r (List.mem_range.mpr (by omega))
  by_cases e3 : q = 3
  · subst e3; exact List.all_eq_true.mp cl3 r (List.mem_range.mpr (by omega))
  by_cases e4 : q = 4
  · subst e4; exact List.all_eq_true.mp cl4 r (List.mem_range.mpr (by omega))
  by_cases e5 : q = 5
  · subst e5; exact List.all_eq_true.mp cl5 r (List.mem_range.mpr (by omega))
  by_cases e6 : q = 6
  · subst e6; exact List.all_eq_true.mp cl6 r (List.mem_range.mpr (by omega))
  by_cases e7 : q = 7
  · subst e7; exact List.all_eq_true.mp cl7 r (List.mem_range.mpr (by omega))
  by_cases e8 : q = 8
  · subst e8; exact List.all_eq_true.mp cl8 r (List.mem_range.mpr (by omega))
  by_cases e9 : q = 9
  · subst e9; exact List.all_eq_true.mp cl9 r (List.mem_range.mpr (by omega))
  by_cases e10 : q = 10
  · subst e10; exact List.all_eq_true.mp cl10 r (List.mem_range.mpr (by omega))
  by_cases e11 : q = 11
  · subst e11; exact List.all_eq_true.mp cl11 r (List.mem_range.mpr (by omega))
  by_cases e12 : q = 12
  · subst e12; exact List.all_eq_true.mp cl12 r (List.mem_range.mpr (by omega))
  by_cases e13 : q = 13
  · subst e13; exact List.all_eq_true.mp cl13 r (List.mem_range.mpr (by omega))
  by_cases e14 : q = 14
  · subst e14; exact List.all_eq_true.mp cl14 r (List.mem_range.mpr (by omega))
  by_cases e15 : q = 15
  · subst e15; exact List.all_eq_true.mp cl15 r (List.mem_range.mpr (by omega))
  by_cases e16 : q = 16
  · subst e16; exact List.all_eq_true.mp cl16 r (List.mem_range.mpr (by omega))
  by_cases e17 : q = 17
  · subst e17; exact List.all_eq_true.mp cl17 r (List.mem_range.mpr (by omega))
  by_cases e18 : q = 18
  · subst e18; exact List.all_eq_true.mp cl18 r (List.mem_range.mpr (by omega))
  by_cases e19 : q = 19
  · subst e19; exact List.all_eq_true.mp cl19 r (List.mem_range.mpr (by omega))
  by_cases e20 : q = 20
  · subst e20; exact List.all_eq_true.mp cl20 r (List.mem_range.mpr (by omega))
  by_cases e21 : q = 21
  · subst e21; exact List.all_eq_true.mp cl21 r (List.mem_range.mpr (by omega))
  by_cases e22 : q = 22
  · subst e22; exact List.all_eq_true.mp cl22 r (List.mem_range.mpr (by omega))
  by_cases e23 : q = 23
  · subst e23; exact List.all_eq_true.mp cl23 r (List.mem_range.mpr (by omega))
  by_cases e24 : q = 24
  · subst e24; exact List.all_eq_true.mp cl24 r (List.mem_range.mpr (by omega))
  by_cases e25 : q = 25
  · subst e25; exact List.all_eq_true.mp cl25 r (List.mem_range.mpr (by omega))
  by_cases e26 : q = 26
  · subst e26; exact List.all_eq_true.mp cl26 r (List.mem_range.mpr (by omega))
  by_cases e27 : q = 27
  · subst e27; exact List.all_eq_true.mp cl27 r (List.mem_range.mpr (by omega))
  by_cases e28 : q = 28
  · subst e28; exact List.all_eq_true.mp cl28 r (List.mem_range.mpr (by omega))
  by_cases e29 : q = 29
  · subst e29; exact List.all_eq_true.mp cl29 r (List.mem_range.mpr (by omega))
  by_cases e30 : q = 30
  · subst e30; exact List.all_eq_true.mp cl30 r (List.mem_range.mpr (by omega))
  by_cases e31 : q = 31
  · subst e31; exact List.all_eq_true.mp cl31 r (List.mem_range.mpr (by omega))
  by_cases e32 : q = 32
  · subst e32; exact List.all_eq_true.mp cl32 r (List.mem_range.mpr (by omega))
  by_cases e33 : q = 33
  · subst e33; exact List.all_eq_true.mp cl33 r (List.mem_range.mpr (by omega))
  by_cases e34 : q = 34
  · subst e34; exact List.all_eq_true.mp cl34 r (List.mem_range.mpr (by omega))
  by_cases e35 : q = 35
  · subst e35; exact List.all_eq_true.mp cl35 r (List.mem_range.mpr (by omega))
  by_cases e36 : q = 36
  · subst e36; exact List.all_eq_true.mp cl36 r (List.mem_range.mpr (by omega))
  by_cases e37 : q = 37
  · subst e37; exact List.all_eq_true.mp cl37 r (List.mem_range.mpr (by omega))
  by_cases e38 : q = 38
  · subst e38; exact List.all_eq_true.mp cl38 r (List.mem_range.mpr (by omega))
  by_cases e39 : q = 39
  · subst e39; exact List.all_eq_true.mp cl39 r (List.mem_range.mpr (by omega))
  by_cases e40 : q = 40
  · subst e40; exact List.all_eq_true.mp cl40 r (List.mem_range.mpr (by omega))
  by_cases e41 : q = 41
  · subst e41; exact List.all_eq_true.mp cl41 r (List.mem_range.mpr (by omega))
  by_cases e42 : q = 42
  · subst e42; exact List.all_eq_true.mp cl42 r (List.mem_range.mpr (by omega))
  by_cases e43 : q = 43
  · subst e43; exact List.all_eq_true.mp cl43 r (List.mem_range.mpr (by omega))
  by_cases e44 : q = 44
  · subst e44; exact List.all_eq_true.mp cl44 r (List.mem_range.mpr (by omega))
  by_cases e45 : q = 45
  · subst e45; exact List.all_eq_true.mp cl45 r (List.mem_range.mpr (by omega))
  by_cases e46 : q = 46
  · subst e46; exact List.all_eq_true.mp cl46 r (List.mem_range.mpr (by omega))
  by_cases e47 : q = 47
  · subst e47; exact List.all_eq_true.mp cl47 r (List.mem_range.mpr (by omega))
  by_cases e48 : q = 48
  · subst e48; exact List.all_eq_true.mp cl48 r (List.mem_range.mpr (by omega))
  by_cases e49 : q = 49
  · subst e49; exact List.all_eq_true.mp cl49 r (List.mem_range.mpr (by omega))
  by_cases e50 : q = 50
  · subst e50; exact List.all_eq_true.mp cl50 r (List.mem_range.mpr (by omega))
  by_cases e51 : q = 51
  · subst e51; exact List.all_eq_true.mp cl51 r (List.mem_range.mpr (by omega))
  by_cases e52 : q = 52
  · subst e52; exact List.all_eq_true.mp cl52 r (List.mem_range.mpr (by omega))
  by_cases e53 : q = 53
  · subst e53; exact List.all_eq_true.mp cl53 r (List.mem_range.mpr (by omega))
  by_cases e54 : q = 54
  · subst e54; exact List.all_eq_true.mp cl54 r (List.mem_range.mpr (by omega))
  by_cases e55 : q = 55
  · subst e55; exact List.all_eq_true.mp cl55 r (List.mem_range.mpr (by omega))
  by_cases e56 : q = 56
  · subst e56; exact List.all_eq_true.mp cl56 r (List.mem_range.mpr (by omega))
  by_cases e57 : q = 57
  · subst e57; exact List.all_eq_true.mp cl57 r (List.mem_range.mpr (by omega))
  by_cases e58 : q = 58
  · subst e58; exact List.all_eq_true.mp cl58 r (List.mem_range.mpr (by omega))
  by_cases e59 : q = 59
  · subst e59; exact List.all_eq_true.mp cl59 r (List.mem_range.mpr (by omega))
  by_cases e60 : q = 60
  · subst e60; exact List.all_eq_true.mp cl60 r (List.mem_range.mpr (by omega))
  by_cases e61 : q = 61
  · subst e61; exact List.all_eq_true.mp cl61 r (List.mem_range.mpr (by omega))
  by_cases e62 : q = 62
  · subst e62; exact List.all_eq_true.mp cl62 r (List.mem_range.mpr (by omega))
  by_cases e63 : q = 63
  · subst e63; exact List.all_eq_true.mp cl63 r (List.mem_range.mpr (by omega))
  by_cases e64 : q = 64
  · subst e64; exact List.all_eq_true.mp cl64 r (List.mem_range.mpr (by omega))
  by_cases e65 : q = 65
  · subst e65; exact List.all_eq_true.mp cl65 r (List.mem_range.mpr (by omega))
  by_cases e66 : q = 66
  · subst e66; exact List.all_eq_true.mp cl66 r (List.mem_range.mpr (by omega))
  by_cases e67 : q = 67
  · subst e67; exact List.all_eq_true.mp cl67 r (List.mem_range.mpr (by omega))
  by_cases e68 : q = 68
  · subst e68; exact List.all_eq_true.mp cl68 r (List.mem_range.mpr (by omega))
  by_cases e69 : q = 69
  · subst e69; exact List.all_eq_true.mp cl69 r (List.mem_range.mpr (by omega))
  by_cases e70 : q = 70
  · subst e70; exact List.all_eq_true.mp cl70 r (List.mem_range.mpr (by omega))
  by_cases e71 : q = 71
  · subst e71; exact List.all_eq_true.mp cl71 r (List.mem_range.mpr (by omega))
  by_cases e72 : q = 72
  · subst e72; exact List.all_eq_true.mp cl72 r (List.mem_range.mpr (by omega))
  by_cases e73 : q = 73
  · subst e73; exact List.all_eq_true.mp cl73 r (List.mem_range.mpr (by omega))
  by_cases e74 : q = 74
  · subst e74; exact List.all_eq_true.mp cl74 r (List.mem_range.mpr (by omega))
  by_cases e75 : q = 75
  · subst e75; exact List.all_eq_true.mp cl75 r (List.mem_range.mpr (by omega))
  by_cases e76 : q = 76
  · subst e76; exact List.all_eq_true.mp cl76 r (List.mem_range.mpr (by omega))
  by_cases e77 : q = 77
  · subst e77; exact List.all_eq_true.mp cl77 r (List.mem_range.mpr (by omega))
  by_cases e78 : q = 78
  · subst e78; exact List.all_eq_true.mp cl78 r (List.mem_range.mpr (by omega))
  by_cases e79 : q = 79
  · subst e79; exact List.all_eq_true.mp cl79 r (List.mem_range.mpr (by omega))
  omega
theorem cw_code (m : Nat) (h : m < 314) : (decide (cwOf m = some (.code (mY m) (mB m) (ML m) (mR m))) && plainFor (mY m) && goodWord (.code (mY m) (mB m) (ML m) (mR m))) = true := by
  have h1 : m = 20 * (m / 20) + m % 20 := by omega
  have h2 : m / 20 < 16 := by omega
  have h3 : m % 20 < 20 := by omega
  generalize m / 20 = q at h1 h2
  generalize m % 20 = r at h1 h3
  subst h1
  by_cases e0 : q = 0
  · subst e0; exact List.all_eq_true.mp cwk_0 r (List.mem_range.mpr (by omega))
  by_cases e1 : q = 1
  · subst e1; exact List.all_eq_true.mp cwk_1 r (List.mem_range.mpr (by omega))
  by_cases e2 : q = 2
  · subst e2; exact List.all_eq_true.mp cwk_2 r (List.mem_range.mpr (by omega))
  by_cases e3 : q = 3
  · subst e3; exact List.all_eq_true.mp cwk_3 r (List.mem_range.mpr (by omega))
  by_cases e4 : q = 4
  · subst e4; exact List.all_eq_true.mp cwk_4 r (List.mem_range.mpr (by omega))
  by_cases e5 : q = 5
  · subst e5; exact List.all_eq_true.mp cwk_5 r (List.mem_range.mpr (by omega))
  by_cases e6 : q = 6
  · subst e6; exact List.all_eq_true.mp cwk_6 r (List.mem_range.mpr (by omega))
  by_cases e7 : q = 7
  · subst e7; exact List.all_eq_true.mp cwk_7 r (List.mem_range.mpr (by omega))
  by_cases e8 : q = 8
  · subst e8; exact List.all_eq_true.mp cwk_8 r (List.mem_range.mpr (by omega))
  by_cases e9 : q = 9
  · subst e9; exact List.all_eq_true.mp cwk_9 r (List.mem_range.mpr (by omega))
  by_cases e10 : q = 10
  · subst e10; exact List.all_eq_true.mp cwk_10 r (List.mem_range.mpr (by omega))
  by_cases e11 : q = 11
  · subst e11; exact List.all_eq_true.mp cwk_11 r (List.mem_range.mpr (by omega))
  by_cases e12 : q = 12
  · subst e12; exact List.all_eq_true.mp cwk_12 r (List.mem_range.mpr (by omega))
  by_cases e13 : q = 13
  · subst e13; exact List.all_eq_true.mp cwk_13 r (List.mem_range.mpr (by omega))
  by_cases e14 : q = 14
  · subst e14; exact List.all_eq_true.mp cwk_14 r (List.mem_range.mpr (by omega))
  by_cases e15 : q = 15
  · subst e15; exact List.all_eq_true.mp cwk_15 r (List.mem_range.mpr (by omega))
  omega
theorem cl_len : (MCL.getD 361 []).length ≤ 160 := by decide +kernel
theorem cl_pc0 : pcs 361 0 = 0 := by decide +kernel
theorem ck_blk {m : Nat} (h : m < 362) (b : Nat) : chkB m (pcs m b) (MC m b) = true := by
  by_cases hm : m < 361
  · have h1 := ck_all m hm
    simp only [chkM, Bool.and_eq_true] at h1
    by_cases hb : b < (MCL.getD m []).length
    · exact List.all_eq_true.mp h1.1 b (List.mem_range.mpr hb)
    · have : MC m b = [] := by unfold MC; rw [List.getD_eq_getElem?_getD, List.getElem?_eq_none (by omega)]; rfl
      rw [this]; rfl
  · have : m = 361 := by omega
    subst this
    by_cases hb : b < 160
    · exact cl_all b hb
    · have : MC 361 b = [] := by unfold MC; rw [List.getD_eq_getElem?_getD, List.getElem?_eq_none (by have := cl_len; omega)]; rfl
      rw [this]; rfl
theorem ck_pc0 {m : Nat} (h : m < 362) : pcs m 0 = 0 := by
  by_cases hm : m < 361
  · have h1 := ck_all m hm
    simp only [chkM, Bool.and_eq_true, decide_eq_true_eq] at h1
    exact h1.2
  · have : m = 361 := by omega
    subst this
    exact cl_pc0
theorem cw_mem {m : Nat} {w : Cond} (h : cwOf m = some w) : w ∈ lw2 := by
  unfold cwOf at h
  exact tbl_mem _ _ (List.mem_of_getElem? h)
