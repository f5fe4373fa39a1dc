/-! tools for AM's runs: counters, the fixed part of the store (wip/whole/gentool.py) -/
abbrev ik (k : Nat) : Int32 := Int32.ofNat k
abbrev SR : Type := (Nat → Nat → Nat → AV) × (Nat → Nat → Nat → Int64) × (Nat → Nat → Nat → UInt64) × (Nat → Nat → Nat) × (Nat → Nat) × Nat × Nat
abbrev SF : Type := Nat → Nat → Nat → Int32
theorem ik_toInt {k : Nat} (h : k < 2147483648) : (ik k).toInt = k := Int32.toInt_ofNat_of_lt h
theorem ix_ik {k : Nat} (h : k < 2147483648) : ix (ik k) = k := Int32.toNatClampNeg_ofNat_of_lt h
theorem inb_ik {k n : Nat} (h : k < 2147483648) : inb (ik k) n ↔ k < n := by
  unfold inb
  rw [ik_toInt h]
  omega
theorem ik_lt {a b : Nat} (ha : a < 2147483648) (hb : b < 2147483648) : ik a < ik b ↔ a < b := Int32.ofNat_lt_iff_lt ha hb
theorem ik_le {a b : Nat} (ha : a < 2147483648) (hb : b < 2147483648) : ik a ≤ ik b ↔ a ≤ b := Int32.ofNat_le_iff_le ha hb
theorem ik_inj {a b : Nat} (ha : a < 2147483648) (hb : b < 2147483648) : ik a = ik b ↔ a = b := by
  constructor
  · intro h
    have := congrArg Int32.toInt h
    rw [ik_toInt ha, ik_toInt hb] at this
    omega
  · rintro rfl; rfl
theorem ik_succ {k : Nat} : ik k + 1 = ik (k + 1) := (Int32.ofNat_add k 1).symm
theorem ik_add {a b : Nat} : ik a + ik b = ik (a + b) := (Int32.ofNat_add a b).symm
theorem ik_sub {a b : Nat} (h : b ≤ a) : ik a - ik b = ik (a - b) := (Int32.ofNat_sub a b h).symm
theorem ik_mul {a b : Nat} : ik a * ik b = ik (a * b) := (Int32.ofNat_mul a b).symm
theorem ik_0 : (0 : Int32) = ik 0 := rfl
theorem ik_1 : (1 : Int32) = ik 1 := rfl
theorem ik_nn {k : Nat} (h : k < 2147483648) : (0 : Int32) ≤ ik k := (ik_le (by decide) h).mpr (Nat.zero_le _)
theorem ik_nneg {k : Nat} (h : k < 2147483648) : ¬ ik k < 0 := by
  rw [show (0 : Int32) = ik 0 from rfl, ik_lt h (by decide)]
  omega
theorem i32_cases (x : Int32) : (∃ k : Nat, k < 2147483648 ∧ x = ik k) ∨ x < 0 := by
  by_cases h : 0 ≤ x.toInt
  · left
    refine ⟨x.toInt.toNat, ?_, ?_⟩
    · have := Int32.toInt_lt x
      omega
    · apply Int32.toInt_inj.mp
      rw [ik_toInt (by have := Int32.toInt_lt x; omega)]
      omega
  · right
    rw [Int32.lt_iff_toInt_lt, Int32.toInt_zero]
    omega
theorem lt_le_i {a b : Int32} : (¬ a < b) ↔ b ≤ a := by rw [Int32.lt_iff_toInt_lt, Int32.le_iff_toInt_le]; omega
theorem le_lt_i {a b : Int32} : (¬ a ≤ b) ↔ b < a := by rw [Int32.lt_iff_toInt_lt, Int32.le_iff_toInt_le]; omega
theorem cat_i2 {x : Int32} {st : List AV} : catS (vi x :: st) = catS st + 1 := by rw [cat_i]; omega
theorem cat_r2 {t i : Nat} {st : List AV} : catS (vr t i :: st) = catS st + 1 := by rw [cat_r]; omega
theorem cat_f2 {x : UInt32} {st : List AV} : catS (vf x :: st) = catS st + 1 := by show 1 + catS st = _; omega
theorem cat_d2 {x : UInt64} {st : List AV} : catS (vd x :: st) = catS st + 2 := by show 2 + catS st = _; omega
theorem cat_l2 {x : Int64} {st : List AV} : catS (vl x :: st) = catS st + 2 := by show 2 + catS st = _; omega
theorem cat_n2 : catS [] = 0 := by decide
theorem sI_wI {s : St} {t i k t2 i2 k2 : Nat} {v : Int32} : sI (wI s t2 i2 k2 v) t i k = if t = t2 ∧ i = i2 ∧ k = k2 then v else sI s t i k := rfl
theorem sR_wI {s : St} {t i k t2 i2 k2 : Nat} {v : Int32} : sR (wI s t2 i2 k2 v) t i k = sR s t i k := rfl
theorem sL_wI {s : St} {t i t2 i2 k2 : Nat} {v : Int32} : sL (wI s t2 i2 k2 v) t i = sL s t i := rfl
theorem wI_mk {f : SF} {r : SR} {t i k : Nat} {v : Int32} : wI (f, r) t i k v = (up3 f t i k v, r) := rfl
theorem sI_mk {f : SF} {r : SR} {t i k : Nat} : sI (f, r) t i k = f t i k := rfl
theorem up3_at {α : Type} {f : Nat → Nat → Nat → α} {t i k t2 i2 k2 : Nat} {v : α} : up3 f t2 i2 k2 v t i k = if t = t2 ∧ i = i2 ∧ k = k2 then v else f t i k := rfl

theorem nn0 : (0 : Int) ≤ (0 : Int32).toInt := by decide
theorem cx0 : ix (0 : Int32) = 0 := by decide
theorem nn5 : (0 : Int) ≤ (5 : Int32).toInt := by decide
theorem cx5 : ix (5 : Int32) = 5 := by decide
theorem nn8 : (0 : Int) ≤ (8 : Int32).toInt := by decide
theorem cx8 : ix (8 : Int32) = 8 := by decide
theorem nn12 : (0 : Int) ≤ (12 : Int32).toInt := by decide
theorem cx12 : ix (12 : Int32) = 12 := by decide
theorem nn50 : (0 : Int) ≤ (50 : Int32).toInt := by decide
theorem cx50 : ix (50 : Int32) = 50 := by decide
/-- a row's part copied over another's -/
def cp (f : SF) (t i sp t2 i2 dp n : Nat) : SF := fun a b k => if a = t2 ∧ b = i2 ∧ dp ≤ k ∧ k < dp + n then f t i (sp + (k - dp)) else f a b k
theorem wCp_mk {f : SF} {r : SR} {t i sp t2 i2 dp n : Nat} : wCp (f, r) t i sp t2 i2 dp n = (cp f t i sp t2 i2 dp n, r) := rfl
theorem cp_ne {f : SF} {t i sp t2 i2 dp n a b k : Nat} (h : a ≠ t2 ∨ b ≠ i2) : cp f t i sp t2 i2 dp n a b k = f a b k := by
  unfold cp
  rw [if_neg]
  rintro ⟨h1, h2, -⟩
  rcases h with h | h
  · exact h h1
  · exact h h2
theorem cp_at {f : SF} {t i t2 i2 n k : Nat} (h : k < n) : cp f t i 0 t2 i2 0 n t2 i2 k = f t i k := by
  unfold cp
  rw [if_pos ⟨rfl, rfl, Nat.zero_le _, by omega⟩]
  simp
theorem ne2 : ¬ (2 : Int32) = 0 := by decide
theorem ne8 : ¬ (8 : Int32) = 0 := by decide
theorem ne10 : ¬ (10 : Int32) = 0 := by decide
theorem ne12 : ¬ (12 : Int32) = 0 := by decide
/-- the shape of the data i -/
def StD (r : SR) (i : Nat) : Prop := r.1 1 i 0 = vr 2 i ∧ r.1 1 i 1 = vr 3 i ∧ r.1 1 i 2 = vr 4 i ∧ r.1 1 i 3 = vr 30 i ∧ r.1 1 i 5 = vr 5 i ∧ r.1 2 i 0 = vr 20 i ∧ r.1 2 i 1 = vr 21 i ∧ r.1 2 i 2 = vr 22 i ∧ r.1 2 i 3 = vr 23 i ∧ r.1 3 i 0 = vr 24 i ∧ r.1 3 i 1 = vr 25 i ∧ r.1 3 i 2 = vr 26 i ∧ r.1 3 i 3 = vr 27 i ∧ r.1 3 i 4 = vr 28 i ∧ r.1 3 i 5 = vr 29 i ∧ r.1 5 i 0 = vr 31 i ∧ r.2.2.2.1 20 i = 5 ∧ r.2.2.2.1 21 i = 5 ∧ r.2.2.2.1 22 i = 5 ∧ r.2.2.2.1 23 i = 5 ∧ r.2.2.2.1 24 i = 50 ∧ r.2.2.2.1 25 i = 50 ∧ r.2.2.2.1 26 i = 50 ∧ r.2.2.2.1 27 i = 50 ∧ r.2.2.2.1 28 i = 50 ∧ r.2.2.2.1 29 i = 50 ∧ r.2.2.2.1 30 i = 12 ∧ r.2.2.2.1 31 i = 10
/-- the shape of all else -/
def StG (r : SR) : Prop := r.1 0 0 0 = vr 1 0 ∧ r.1 0 0 1 = vr 1 1 ∧ r.1 0 0 2 = vr 1 2 ∧ r.1 0 0 4 = vr 6 0 ∧ r.1 0 0 5 = vr 7 0 ∧ r.1 0 0 6 = vr 8 0 ∧ r.1 0 0 7 = vr 9 0 ∧ r.1 0 0 8 = vr 10 0 ∧ r.1 6 0 0 = vr 32 0 ∧ r.1 8 0 0 = vr 33 0 ∧ r.1 8 0 1 = vr 34 0 ∧ r.1 8 0 4 = vr 35 0 ∧ r.1 8 0 5 = vr 36 0 ∧ r.1 8 0 6 = vr 37 0 ∧ r.1 8 0 7 = vr 38 0 ∧ r.1 9 0 0 = vr 39 0 ∧ r.1 9 0 2 = vr 40 0 ∧ r.1 9 0 3 = vr 41 0 ∧ r.1 11 0 0 = vr 43 0 ∧ r.1 11 0 1 = vr 44 0 ∧ r.1 11 0 2 = vr 45 0 ∧ r.1 11 0 3 = vr 46 0 ∧ r.1 11 0 4 = vr 47 0 ∧ r.1 11 0 5 = vr 48 0 ∧ r.1 11 0 15 = vr 49 0 ∧ r.1 11 0 17 = vr 50 0 ∧ r.1 11 0 18 = vr 51 0 ∧ r.1 11 0 19 = vr 52 0 ∧ r.2.2.2.1 32 0 = 8 ∧ r.2.2.2.1 33 0 = 10 ∧ r.2.2.2.1 34 0 = 10 ∧ r.2.2.2.1 35 0 = 401 ∧ r.2.2.2.1 36 0 = 401 ∧ r.2.2.2.1 37 0 = 7 ∧ r.2.2.2.1 38 0 = 7 ∧ r.2.2.2.1 39 0 = 60 ∧ r.2.2.2.1 40 0 = 60 ∧ r.2.2.2.1 41 0 = 240 ∧ r.2.2.2.1 43 0 = 304 ∧ r.2.2.2.1 44 0 = 304 ∧ r.2.2.2.1 45 0 = 304 ∧ r.2.2.2.1 46 0 = 2432 ∧ r.2.2.2.1 47 0 = 10 ∧ r.2.2.2.1 48 0 = 84 ∧ r.2.2.2.1 49 0 = 120 ∧ r.2.2.2.1 50 0 = 60 ∧ r.2.2.2.1 51 0 = 32 ∧ r.2.2.2.1 52 0 = 128
def Stt (r : SR) : Prop := (∀ i, i < 11 → StD r i) ∧ StG r ∧ ∀ k, k < 8 → r.1 32 0 k = vr 1 (3 + k)
section Shape
variable {r : SR} {f : SF} {i : Nat}
theorem rr1_0 (h : StD r i) : sR (f, r) 1 i 0 = vr 2 i := h.1
theorem rr1_1 (h : StD r i) : sR (f, r) 1 i 1 = vr 3 i := h.2.1
theorem rr1_2 (h : StD r i) : sR (f, r) 1 i 2 = vr 4 i := h.2.2.1
theorem rr1_3 (h : StD r i) : sR (f, r) 1 i 3 = vr 30 i := h.2.2.2.1
theorem rr1_5 (h : StD r i) : sR (f, r) 1 i 5 = vr 5 i := h.2.2.2.2.1
theorem rr2_0 (h : StD r i) : sR (f, r) 2 i 0 = vr 20 i := h.2.2.2.2.2.1
theorem rr2_1 (h : StD r i) : sR (f, r) 2 i 1 = vr 21 i := h.2.2.2.2.2.2.1
theorem rr2_2 (h : StD r i) : sR (f, r) 2 i 2 = vr 22 i := h.2.2.2.2.2.2.2.1
theorem rr2_3 (h : StD r i) : sR (f, r) 2 i 3 = vr 23 i := h.2.2.2.2.2.2.2.2.1
theorem rr3_0 (h : StD r i) : sR (f, r) 3 i 0 = vr 24 i := h.2.2.2.2.2.2.2.2.2.1
theorem rr3_1 (h : StD r i) : sR (f, r) 3 i 1 = vr 25 i := h.2.2.2.2.2.2.2.2.2.2.1
theorem rr3_2 (h : StD r i) : sR (f, r) 3 i 2 = vr 26 i := h.2.2.2.2.2.2.2.2.2.2.2.1
theorem rr3_3 (h : StD r i) : sR (f, r) 3 i 3 = vr 27 i := h.2.2.2.2.2.2.2.2.2.2.2.2.1
theorem rr3_4 (h : StD r i) : sR (f, r) 3 i 4 = vr 28 i := h.2.2.2.2.2.2.2.2.2.2.2.2.2.1
theorem rr3_5 (h : StD r i) : sR (f, r) 3 i 5 = vr 29 i := h.2.2.2.2.2.2.2.2.2.2.2.2.2.2.1
theorem rr5_0 (h : StD r i) : sR (f, r) 5 i 0 = vr 31 i := h.2.2.2.2.2.2.2.2.2.2.2.2.2.2.2.1
theorem rl20 (h : StD r i) : sL (f, r) 20 i = 5 := h.2.2.2.2.2.2.2.2.2.2.2.2.2.2.2.2.1
theorem rl21 (h : StD r i) : sL (f, r) 21 i = 5 := h.2.2.2.2.2.2.2.2.2.2.2.2.2.2.2.2.2.1
theorem rl22 (h : StD r i) : sL (f, r) 22 i = 5 := h.2.2.2.2.2.2.2.2.2.2.2.2.2.2.2.2.2.2.1
theorem rl23 (h : StD r i) : sL (f, r) 23 i = 5 := h.2.2.2.2.2.2.2.2.2.2.2.2.2.2.2.2.2.2.2.1
theorem rl24 (h : StD r i) : sL (f, r) 24 i = 50 := h.2.2.2.2.2.2.2.2.2.2.2.2.2.2.2.2.2.2.2.2.1
theorem rl25 (h : StD r i) : sL (f, r) 25 i = 50 := h.2.2.2.2.2.2.2.2.2.2.2.2.2.2.2.2.2.2.2.2.2.1
theorem rl26 (h : StD r i) : sL (f, r) 26 i = 50 := h.2.2.2.2.2.2.2.2.2.2.2.2.2.2.2.2.2.2.2.2.2.2.1
theorem rl27 (h : StD r i) : sL (f, r) 27 i = 50 := h.2.2.2.2.2.2.2.2.2.2.2.2.2.2.2.2.2.2.2.2.2.2.2.1
theorem rl28 (h : StD r i) : sL (f, r) 28 i = 50 := h.2.2.2.2.2.2.2.2.2.2.2.2.2.2.2.2.2.2.2.2.2.2.2.2.1
theorem rl29 (h : StD r i) : sL (f, r) 29 i = 50 := h.2.2.2.2.2.2.2.2.2.2.2.2.2.2.2.2.2.2.2.2.2.2.2.2.2.1
theorem rl30 (h : StD r i) : sL (f, r) 30 i = 12 := h.2.2.2.2.2.2.2.2.2.2.2.2.2.2.2.2.2.2.2.2.2.2.2.2.2.2.1
theorem rl31 (h : StD r i) : sL (f, r) 31 i = 10 := h.2.2.2.2.2.2.2.2.2.2.2.2.2.2.2.2.2.2.2.2.2.2.2.2.2.2.2
theorem rg0_0 (h : StG r) : sR (f, r) 0 0 0 = vr 1 0 := h.1
theorem rg0_1 (h : StG r) : sR (f, r) 0 0 1 = vr 1 1 := h.2.1
theorem rg0_2 (h : StG r) : sR (f, r) 0 0 2 = vr 1 2 := h.2.2.1
theorem rg0_4 (h : StG r) : sR (f, r) 0 0 4 = vr 6 0 := h.2.2.2.1
theorem rg0_5 (h : StG r) : sR (f, r) 0 0 5 = vr 7 0 := h.2.2.2.2.1
theorem rg0_6 (h : StG r) : sR (f, r) 0 0 6 = vr 8 0 := h.2.2.2.2.2.1
theorem rg0_7 (h : StG r) : sR (f, r) 0 0 7 = vr 9 0 := h.2.2.2.2.2.2.1
theorem rg0_8 (h : StG r) : sR (f, r) 0 0 8 = vr 10 0 := h.2.2.2.2.2.2.2.1
theorem rg6_0 (h : StG r) : sR (f, r) 6 0 0 = vr 32 0 := h.2.2.2.2.2.2.2.2.1
theorem rg8_0 (h : StG r) : sR (f, r) 8 0 0 = vr 33 0 := h.2.2.2.2.2.2.2.2.2.1
theorem rg8_1 (h : StG r) : sR (f, r) 8 0 1 = vr 34 0 := h.2.2.2.2.2.2.2.2.2.2.1
theorem rg8_4 (h : StG r) : sR (f, r) 8 0 4 = vr 35 0 := h.2.2.2.2.2.2.2.2.2.2.2.1
theorem rg8_5 (h : StG r) : sR (f, r) 8 0 5 = vr 36 0 := h.2.2.2.2.2.2.2.2.2.2.2.2.1
theorem rg8_6 (h : StG r) : sR (f, r) 8 0 6 = vr 37 0 := h.2.2.2.2.2.2.2.2.2.2.2.2.2.1
theorem rg8_7 (h : StG r) : sR (f, r) 8 0 7 = vr 38 0 := h.2.2.2.2.2.2.2.2.2.2.2.2.2.2.1
theorem rg9_0 (h : StG r) : sR (f, r) 9 0 0 = vr 39 0 := h.2.2.2.2.2.2.2.2.2.2.2.2.2.2.2.1
theorem rg9_2 (h : StG r) : sR (f, r) 9 0 2 = vr 40 0 := h.2.2.2.2.2.2.2.2.2.2.2.2.2.2.2.2.1
theorem rg9_3 (h : StG r) : sR (f, r) 9 0 3 = vr 41 0 := h.2.2.2.2.2.2.2.2.2.2.2.2.2.2.2.2.2.1
theorem rg11_0 (h : StG r) : sR (f, r) 11 0 0 = vr 43 0 := h.2.2.2.2.2.2.2.2.2.2.2.2.2.2.2.2.2.2.1
theorem rg11_1 (h : StG r) : sR (f, r) 11 0 1 = vr 44 0 := h.2.2.2.2.2.2.2.2.2.2.2.2.2.2.2.2.2.2.2.1
theorem rg11_2 (h : StG r) : sR (f, r) 11 0 2 = vr 45 0 := h.2.2.2.2.2.2.2.2.2.2.2.2.2.2.2.2.2.2.2.2.1
theorem rg11_3 (h : StG r) : sR (f, r) 11 0 3 = vr 46 0 := h.2.2.2.2.2.2.2.2.2.2.2.2.2.2.2.2.2.2.2.2.2.1
theorem rg11_4 (h : StG r) : sR (f, r) 11 0 4 = vr 47 0 := h.2.2.2.2.2.2.2.2.2.2.2.2.2.2.2.2.2.2.2.2.2.2.1
theorem rg11_5 (h : StG r) : sR (f, r) 11 0 5 = vr 48 0 := h.2.2.2.2.2.2.2.2.2.2.2.2.2.2.2.2.2.2.2.2.2.2.2.1
theorem rg11_15 (h : StG r) : sR (f, r) 11 0 15 = vr 49 0 := h.2.2.2.2.2.2.2.2.2.2.2.2.2.2.2.2.2.2.2.2.2.2.2.2.1
theorem rg11_17 (h : StG r) : sR (f, r) 11 0 17 = vr 50 0 := h.2.2.2.2.2.2.2.2.2.2.2.2.2.2.2.2.2.2.2.2.2.2.2.2.2.1
theorem rg11_18 (h : StG r) : sR (f, r) 11 0 18 = vr 51 0 := h.2.2.2.2.2.2.2.2.2.2.2.2.2.2.2.2.2.2.2.2.2.2.2.2.2.2.1
theorem rg11_19 (h : StG r) : sR (f, r) 11 0 19 = vr 52 0 := h.2.2.2.2.2.2.2.2.2.2.2.2.2.2.2.2.2.2.2.2.2.2.2.2.2.2.2.1
theorem rl32 (h : StG r) : sL (f, r) 32 0 = 8 := h.2.2.2.2.2.2.2.2.2.2.2.2.2.2.2.2.2.2.2.2.2.2.2.2.2.2.2.2.1
theorem rl33 (h : StG r) : sL (f, r) 33 0 = 10 := h.2.2.2.2.2.2.2.2.2.2.2.2.2.2.2.2.2.2.2.2.2.2.2.2.2.2.2.2.2.1
theorem rl34 (h : StG r) : sL (f, r) 34 0 = 10 := h.2.2.2.2.2.2.2.2.2.2.2.2.2.2.2.2.2.2.2.2.2.2.2.2.2.2.2.2.2.2.1
theorem rl35 (h : StG r) : sL (f, r) 35 0 = 401 := h.2.2.2.2.2.2.2.2.2.2.2.2.2.2.2.2.2.2.2.2.2.2.2.2.2.2.2.2.2.2.2.1
theorem rl36 (h : StG r) : sL (f, r) 36 0 = 401 := h.2.2.2.2.2.2.2.2.2.2.2.2.2.2.2.2.2.2.2.2.2.2.2.2.2.2.2.2.2.2.2.2.1
theorem rl37 (h : StG r) : sL (f, r) 37 0 = 7 := h.2.2.2.2.2.2.2.2.2.2.2.2.2.2.2.2.2.2.2.2.2.2.2.2.2.2.2.2.2.2.2.2.2.1
theorem rl38 (h : StG r) : sL (f, r) 38 0 = 7 := h.2.2.2.2.2.2.2.2.2.2.2.2.2.2.2.2.2.2.2.2.2.2.2.2.2.2.2.2.2.2.2.2.2.2.1
theorem rl39 (h : StG r) : sL (f, r) 39 0 = 60 := h.2.2.2.2.2.2.2.2.2.2.2.2.2.2.2.2.2.2.2.2.2.2.2.2.2.2.2.2.2.2.2.2.2.2.2.1
theorem rl40 (h : StG r) : sL (f, r) 40 0 = 60 := h.2.2.2.2.2.2.2.2.2.2.2.2.2.2.2.2.2.2.2.2.2.2.2.2.2.2.2.2.2.2.2.2.2.2.2.2.1
theorem rl41 (h : StG r) : sL (f, r) 41 0 = 240 := h.2.2.2.2.2.2.2.2.2.2.2.2.2.2.2.2.2.2.2.2.2.2.2.2.2.2.2.2.2.2.2.2.2.2.2.2.2.1
theorem rl43 (h : StG r) : sL (f, r) 43 0 = 304 := h.2.2.2.2.2.2.2.2.2.2.2.2.2.2.2.2.2.2.2.2.2.2.2.2.2.2.2.2.2.2.2.2.2.2.2.2.2.2.1
theorem rl44 (h : StG r) : sL (f, r) 44 0 = 304 := h.2.2.2.2.2.2.2.2.2.2.2.2.2.2.2.2.2.2.2.2.2.2.2.2.2.2.2.2.2.2.2.2.2.2.2.2.2.2.2.1
theorem rl45 (h : StG r) : sL (f, r) 45 0 = 304 := h.2.2.2.2.2.2.2.2.2.2.2.2.2.2.2.2.2.2.2.2.2.2.2.2.2.2.2.2.2.2.2.2.2.2.2.2.2.2.2.2.1
theorem rl46 (h : StG r) : sL (f, r) 46 0 = 2432 := h.2.2.2.2.2.2.2.2.2.2.2.2.2.2.2.2.2.2.2.2.2.2.2.2.2.2.2.2.2.2.2.2.2.2.2.2.2.2.2.2.2.1
theorem rl47 (h : StG r) : sL (f, r) 47 0 = 10 := h.2.2.2.2.2.2.2.2.2.2.2.2.2.2.2.2.2.2.2.2.2.2.2.2.2.2.2.2.2.2.2.2.2.2.2.2.2.2.2.2.2.2.1
theorem rl48 (h : StG r) : sL (f, r) 48 0 = 84 := h.2.2.2.2.2.2.2.2.2.2.2.2.2.2.2.2.2.2.2.2.2.2.2.2.2.2.2.2.2.2.2.2.2.2.2.2.2.2.2.2.2.2.2.1
theorem rl49 (h : StG r) : sL (f, r) 49 0 = 120 := h.2.2.2.2.2.2.2.2.2.2.2.2.2.2.2.2.2.2.2.2.2.2.2.2.2.2.2.2.2.2.2.2.2.2.2.2.2.2.2.2.2.2.2.2.1
theorem rl50 (h : StG r) : sL (f, r) 50 0 = 60 := h.2.2.2.2.2.2.2.2.2.2.2.2.2.2.2.2.2.2.2.2.2.2.2.2.2.2.2.2.2.2.2.2.2.2.2.2.2.2.2.2.2.2.2.2.2.1
theorem rl51 (h : StG r) : sL (f, r) 51 0 = 32 := h.2.2.2.2.2.2.2.2.2.2.2.2.2.2.2.2.2.2.2.2.2.2.2.2.2.2.2.2.2.2.2.2.2.2.2.2.2.2.2.2.2.2.2.2.2.2.1
theorem rl52 (h : StG r) : sL (f, r) 52 0 = 128 := h.2.2.2.2.2.2.2.2.2.2.2.2.2.2.2.2.2.2.2.2.2.2.2.2.2.2.2.2.2.2.2.2.2.2.2.2.2.2.2.2.2.2.2.2.2.2.2
end Shape
theorem kd_20 : kd 20 = 1 := by decide
theorem kd_21 : kd 21 = 1 := by decide
theorem kd_22 : kd 22 = 1 := by decide
theorem kd_23 : kd 23 = 1 := by decide
theorem kd_24 : kd 24 = 1 := by decide
theorem kd_25 : kd 25 = 1 := by decide
theorem kd_26 : kd 26 = 1 := by decide
theorem kd_27 : kd 27 = 1 := by decide
theorem kd_28 : kd 28 = 1 := by decide
theorem kd_29 : kd 29 = 1 := by decide
theorem kd_30 : kd 30 = 1 := by decide
theorem kd_31 : kd 31 = 1 := by decide
theorem kd_32 : kd 32 = 7 := by decide
theorem kd_33 : kd 33 = 1 := by decide
theorem kd_34 : kd 34 = 1 := by decide
theorem kd_35 : kd 35 = 1 := by decide
theorem kd_36 : kd 36 = 3 := by decide
theorem kd_37 : kd 37 = 1 := by decide
theorem kd_38 : kd 38 = 1 := by decide
theorem kd_39 : kd 39 = 4 := by decide
theorem kd_40 : kd 40 = 1 := by decide
theorem kd_41 : kd 41 = 1 := by decide
theorem kd_42 : kd 42 = 2 := by decide
theorem kd_43 : kd 43 = 1 := by decide
theorem kd_44 : kd 44 = 1 := by decide
theorem kd_45 : kd 45 = 1 := by decide
theorem kd_46 : kd 46 = 1 := by decide
theorem kd_47 : kd 47 = 1 := by decide
theorem kd_48 : kd 48 = 1 := by decide
theorem kd_49 : kd 49 = 1 := by decide
theorem kd_50 : kd 50 = 1 := by decide
theorem kd_51 : kd 51 = 1 := by decide
theorem kd_52 : kd 52 = 1 := by decide
theorem kd_53 : kd 53 = 5 := by decide
theorem kd_54 : kd 54 = 6 := by decide
