/-! quotients of whole numbers are no NaN -/
section Float
/-- what is asked of a format -/
def GFm (f : FP.Core.Fmt) : Prop := 0 < f.tails ∧ 3 ≤ f.exps ∧ 2 ^ f.p = 2 * f.tails ∧ f.qmax - f.qmin + 3 = (f.exps : Int) ∧ f.qmin ≤ -100 ∧ 40 ≤ f.qmax ∧ 24 ≤ f.p
theorem gfm32 : GFm FP.Core.b32 := by unfold GFm; decide +kernel
theorem gfm64 : GFm FP.Core.b64 := by unfold GFm; decide +kernel
/-- a datum that fits, and no NaN -/
def DOk (f : FP.Core.Fmt) (d : FP.Core.Datum) : Prop := match d with
  | .nan => False
  | .inf _ => True
  | .fin _ c q => c < 2 ^ f.p ∧ f.qmin ≤ q ∧ q ≤ f.qmax
theorem bound_ok {f : FP.Core.Fmt} {s : Bool} {c : Nat} {q : Int} (hc : c < 2 ^ f.p) (hq : f.qmin ≤ q) : DOk f (FP.Core.bound f s c q) := by
  unfold FP.Core.bound
  split
  · exact ⟨hc, hq, by assumption⟩
  · trivial
theorem settle_ok {f : FP.Core.Fmt} (hf : GFm f) {s : Bool} {c : Nat} {q : Int} (hq : f.qmin ≤ q) : DOk f (FP.Core.settle f s c q) := by
  obtain ⟨h1, h2, h3, h4, h5, h6, h7⟩ := hf
  unfold FP.Core.settle
  split
  · exact bound_ok (by assumption) hq
  · exact bound_ok (by omega) (by omega)
theorem ratio_ok {f : FP.Core.Fmt} (hf : GFm f) {s : Bool} {n d : Nat} {e : Int} : DOk f (FP.Core.roundRatio f s n d e) := by
  unfold FP.Core.roundRatio
  split
  · obtain ⟨h1, h2, h3, h4, h5, h6, h7⟩ := hf
    exact ⟨Nat.two_pow_pos _, Int.le_refl _, by omega⟩
  · refine settle_ok hf ?_
    unfold FP.Core.quantum
    exact Int.le_max_left _ _
theorem round_ok {f g : FP.Core.Fmt} (hf : GFm f) {d : FP.Core.Datum} (h : DOk g d) : DOk f (FP.Core.round f d) := by
  cases d with
  | nan => exact h.elim
  | inf s => trivial
  | fin s c q => exact ratio_ok hf
/-- a whole number's datum is finite, and no zero where it isn't 0 -/
theorem whole_fin {f : FP.Core.Fmt} (hf : GFm f) {s : Bool} {n : Nat} (hn : n < 2 ^ 32) : ∃ c q, FP.Core.roundRatio f s n 1 0 = .fin s c q ∧ (n ≠ 0 → n < 2 ^ 24 → c ≠ 0) := by
  have hf2 := hf
  obtain ⟨h1, h2, h3, h4, h5, h6, h7⟩ := hf2
  unfold FP.Core.roundRatio
  by_cases h0 : n = 0
  · rw [if_pos h0]
    exact ⟨0, _, rfl, fun h => absurd h0 h⟩
  · rw [if_neg h0]
    have hl : n.log2 < 32 := (Nat.log2_lt h0).mpr hn
    have hk : FP.Core.leading n 1 ≤ (n.log2 : Int) := by
      unfold FP.Core.leading
      dsimp only
      have : (1 : Nat).log2 = 0 := by decide
      rw [this]
      split <;> omega
    have hq1 : FP.Core.quantum f n 1 0 ≤ 9 := by
      unfold FP.Core.quantum
      have := Int.max_le.mpr (⟨by omega, by omega⟩ : f.qmin ≤ 9 ∧ FP.Core.leading n 1 + 0 - ((f.p : Int) - 1) ≤ 9)
      exact this
    have hnz : n < 2 ^ 24 → FP.Core.nearest (FP.Core.unitsNum n 0 (FP.Core.quantum f n 1 0)) (FP.Core.unitsDen 1 0 (FP.Core.quantum f n 1 0)) ≠ 0 := by
      intro h24
      have hl2 : n.log2 < 24 := (Nat.log2_lt h0).mpr h24
      have hq2 : FP.Core.quantum f n 1 0 ≤ 0 := by
        unfold FP.Core.quantum
        exact Int.max_le.mpr ⟨by omega, by omega⟩
      have e1 : FP.Core.unitsDen 1 0 (FP.Core.quantum f n 1 0) = 1 := by
        unfold FP.Core.unitsDen
        rw [show (FP.Core.quantum f n 1 0 - 0).toNat = 0 by omega]
      rw [e1]
      unfold FP.Core.nearest FP.Core.unitsNum
      rw [Nat.mod_one, if_pos (by decide), Nat.div_one]
      have := Nat.two_pow_pos (0 - FP.Core.quantum f n 1 0).toNat
      exact Nat.mul_ne_zero h0 (by omega)
    unfold FP.Core.roundAt FP.Core.settle
    generalize FP.Core.nearest (FP.Core.unitsNum n 0 (FP.Core.quantum f n 1 0)) (FP.Core.unitsDen 1 0 (FP.Core.quantum f n 1 0)) = z at hnz
    generalize FP.Core.quantum f n 1 0 = q at hq1
    split
    · unfold FP.Core.bound
      rw [if_pos (by omega)]
      exact ⟨z, q, rfl, fun _ h => hnz h⟩
    · unfold FP.Core.bound
      rw [if_pos (by omega)]
      exact ⟨_, _, rfl, fun _ _ => by omega⟩
theorem toNat_l {f : FP.Core.Fmt} (hf : GFm f) {q : Int} (h1 : f.qmin ≤ q) (h2 : q ≤ f.qmax) : (q - f.qmin).toNat + 1 < f.exps - 1 := by
  obtain ⟨g1, g2, g3, g4, g5, g6, g7⟩ := hf
  omega
/-- what the bits of a datum say -/
theorem enc_fin {f : FP.Core.Fmt} (hf : GFm f) {s : Bool} {c : Nat} {q : Int} (h : DOk f (.fin s c q)) : ∃ E T, FP.Core.encode f (.fin s c q) = (s.toNat * f.exps + E) * f.tails + T ∧ E < f.exps - 1 ∧ T < f.tails ∧ (c ≠ 0 → E = 0 → T ≠ 0) := by
  obtain ⟨h1, h2, h3⟩ := h
  have hf2 := hf
  obtain ⟨g1, g2, g3, g4, g5, g6, g7⟩ := hf2
  unfold FP.Core.encode FP.Core.assemble
  dsimp only
  split
  · exact ⟨0, c, rfl, by omega, by assumption, fun h _ => h⟩
  · exact ⟨_, _, rfl, toNat_l hf h2 h3, by omega, fun _ h => by omega⟩
theorem dec_fld {f : FP.Core.Fmt} (hf : GFm f) {S E T : Nat} (hE : E < f.exps) (hT : T < f.tails) : FP.Core.fieldE f ((S * f.exps + E) * f.tails + T) = E ∧ FP.Core.fieldT f ((S * f.exps + E) * f.tails + T) = T := by
  obtain ⟨g1, g2, g3, g4, g5, g6, g7⟩ := hf
  unfold FP.Core.fieldE FP.Core.fieldT
  have e1 : ((S * f.exps + E) * f.tails + T) / f.tails = S * f.exps + E := by
    rw [Nat.add_comm, Nat.add_mul_div_right _ _ g1, Nat.div_eq_of_lt hT, Nat.zero_add]
  have e2 : ((S * f.exps + E) * f.tails + T) % f.tails = T := by
    rw [Nat.add_comm, Nat.add_mul_mod_self_right, Nat.mod_eq_of_lt hT]
  rw [e1, e2]
  refine ⟨?_, rfl⟩
  rw [Nat.add_comm, Nat.add_mul_mod_self_right, Nat.mod_eq_of_lt hE]
theorem dec_fin {f : FP.Core.Fmt} (hf : GFm f) {s : Bool} {c : Nat} {q : Int} (h : DOk f (.fin s c q)) : ∃ s2 c2 q2, FP.Core.decode f (FP.Core.encode f (.fin s c q)) = .fin s2 c2 q2 ∧ (c ≠ 0 → c2 ≠ 0) := by
  obtain ⟨E, T, e, hE, hT, hz⟩ := enc_fin hf h
  obtain ⟨e1, e2⟩ := dec_fld hf (S := s.toNat) (E := E) (T := T) (by omega) hT
  rw [e]
  unfold FP.Core.decode
  rw [e1, e2, if_neg (by omega)]
  have g1 := hf.1
  split
  · rename_i h0
    exact ⟨_, _, _, rfl, fun hc => hz hc h0⟩
  · exact ⟨_, _, _, rfl, fun _ => by omega⟩
theorem dec_ok {f : FP.Core.Fmt} (hf : GFm f) {d : FP.Core.Datum} (h : DOk f d) : FP.Core.decode f (FP.Core.encode f d) ≠ .nan := by
  cases d with
  | nan => exact h.elim
  | inf s =>
    obtain ⟨e1, e2⟩ := dec_fld hf (S := s.toNat) (E := f.exps - 1) (T := 0) (by have := hf.2.1; omega) hf.1
    have e : FP.Core.encode f (.inf s) = (s.toNat * f.exps + (f.exps - 1)) * f.tails + 0 := rfl
    rw [e]
    unfold FP.Core.decode
    rw [e1, e2, if_pos rfl, if_pos rfl]
    exact fun z => by cases z
  | fin s c q =>
    obtain ⟨s2, c2, q2, e, -⟩ := dec_fin hf h
    rw [e]
    exact fun z => by cases z
theorem enc_mag {f : FP.Core.Fmt} (hf : GFm f) {d : FP.Core.Datum} (h : DOk f d) : FP.Core.encode f d % (f.exps * f.tails) ≤ (f.exps - 1) * f.tails ∧ FP.Core.encode f d < 2 * (f.exps * f.tails) := by
  have key : ∀ (S E T : Nat), S ≤ 1 → (E < f.exps - 1 ∧ T < f.tails ∨ E = f.exps - 1 ∧ T = 0) → ((S * f.exps + E) * f.tails + T) % (f.exps * f.tails) ≤ (f.exps - 1) * f.tails ∧ (S * f.exps + E) * f.tails + T < 2 * (f.exps * f.tails) := by
    intro S E T hS hE
    have g2 := hf.2.1
    have g1 := hf.1
    have hlt : E * f.tails + T ≤ (f.exps - 1) * f.tails := by
      rcases hE with ⟨h1, h2⟩ | ⟨h1, h2⟩
      · have : (E + 1) * f.tails ≤ (f.exps - 1) * f.tails := Nat.mul_le_mul_right _ (by omega)
        rw [Nat.add_mul] at this
        omega
      · rw [h1, h2]; omega
    have hlt2 : (f.exps - 1) * f.tails < f.exps * f.tails := Nat.mul_lt_mul_of_pos_right (by omega) g1
    have e : (S * f.exps + E) * f.tails + T = S * (f.exps * f.tails) + (E * f.tails + T) := by
      rw [Nat.add_mul, Nat.mul_assoc]; omega
    rw [e]
    constructor
    · rw [Nat.add_comm, Nat.add_mul_mod_self_right, Nat.mod_eq_of_lt (by omega)]
      exact hlt
    · have : S * (f.exps * f.tails) ≤ 1 * (f.exps * f.tails) := Nat.mul_le_mul_right _ hS
      omega
  have hS : ∀ s : Bool, s.toNat ≤ 1 := fun s => by cases s <;> decide
  cases d with
  | nan => exact h.elim
  | inf s => exact key s.toNat (f.exps - 1) 0 (hS s) (Or.inr ⟨rfl, rfl⟩)
  | fin s c q =>
    obtain ⟨E, T, e, hE, hT, -⟩ := enc_fin hf h
    rw [e]
    exact key s.toNat E T (hS s) (Or.inl ⟨hE, hT⟩)
theorem n64_ok {d : FP.Core.Datum} (h : DOk FP.Core.b64 d) : n64 (UInt64.ofNat (FP.Core.encode FP.Core.b64 d)) = true ∧ (UInt64.ofNat (FP.Core.encode FP.Core.b64 d)).toNat = FP.Core.encode FP.Core.b64 d := by
  obtain ⟨h1, h2⟩ := enc_mag gfm64 h
  rw [show FP.Core.b64.exps * FP.Core.b64.tails = 2 ^ 63 by decide +kernel] at h1 h2
  rw [show (FP.Core.b64.exps - 1) * FP.Core.b64.tails = 9218868437227405312 by decide +kernel] at h1
  generalize FP.Core.encode FP.Core.b64 d = n at h1 h2
  have e : (UInt64.ofNat n).toNat = n := UInt64.toNat_ofNat_of_lt' (by omega)
  refine ⟨?_, e⟩
  unfold n64
  rw [decide_eq_true_eq, UInt64.le_iff_toNat_le, UInt64.toNat_and, e]
  show n &&& (2 ^ 63 - 1) ≤ 9218868437227405312
  rw [Nat.and_two_pow_sub_one_eq_mod]
  exact h1
theorem n32_ok {d : FP.Core.Datum} (h : DOk FP.Core.b32 d) : n32 (UInt32.ofNat (FP.Core.encode FP.Core.b32 d)) = true ∧ (UInt32.ofNat (FP.Core.encode FP.Core.b32 d)).toNat = FP.Core.encode FP.Core.b32 d := by
  obtain ⟨h1, h2⟩ := enc_mag gfm32 h
  rw [show FP.Core.b32.exps * FP.Core.b32.tails = 2 ^ 31 by decide +kernel] at h1 h2
  rw [show (FP.Core.b32.exps - 1) * FP.Core.b32.tails = 2139095040 by decide +kernel] at h1
  generalize FP.Core.encode FP.Core.b32 d = n at h1 h2
  have e : (UInt32.ofNat n).toNat = n := UInt32.toNat_ofNat_of_lt' (by omega)
  refine ⟨?_, e⟩
  unfold n32
  rw [decide_eq_true_eq, UInt32.le_iff_toNat_le, UInt32.toNat_and, e]
  show n &&& (2 ^ 31 - 1) ≤ 2139095040
  rw [Nat.and_two_pow_sub_one_eq_mod]
  exact h1
theorem quo_ok {f : FP.Core.Fmt} (hf : GFm f) {a b : FP.Core.Datum} {s t : Bool} {c d : Nat} {q u : Int} (ha : a = .fin s c q) (hb : b = .fin t d u) (hd : d ≠ 0) : DOk f (FP.Core.quotient f a b) := by
  subst ha hb
  show DOk f (if d = 0 then _ else _)
  rw [if_neg hd]
  exact ratio_ok hf
theorem int_abs (v : Int32) : v.toInt.natAbs < 2 ^ 32 := by
  have h1 := Int32.toInt_lt v
  have h2 := Int32.le_toInt v
  omega
theorem i2d_dec (v : Int32) : ∃ s c q, FP.Core.decode FP.Core.b64 (FP.i2d v).toNat = .fin s c q ∧ (v.toInt ≠ 0 → v.toInt.natAbs < 2 ^ 24 → c ≠ 0) := by
  obtain ⟨c, q, e, hz⟩ := whole_fin gfm64 (s := decide (v.toInt < 0)) (int_abs v)
  have hok : DOk FP.Core.b64 (.fin (decide (v.toInt < 0)) c q) := by rw [← e]; exact ratio_ok gfm64
  obtain ⟨s2, c2, q2, e2, hz2⟩ := dec_fin gfm64 hok
  have ev : (FP.i2d v).toNat = FP.Core.encode FP.Core.b64 (.fin (decide (v.toInt < 0)) c q) := by
    have : FP.i2d v = UInt64.ofNat (FP.Core.encode FP.Core.b64 (FP.Core.roundRatio FP.Core.b64 (decide (v.toInt < 0)) v.toInt.natAbs 1 0)) := rfl
    rw [this, e]
    exact (n64_ok hok).2
  rw [ev]
  exact ⟨s2, c2, q2, e2, fun h1 h2 => hz2 (hz (by omega) h2)⟩
theorem i2f_dec (v : Int32) : ∃ s c q, FP.Core.decode FP.Core.b32 (FP.i2f v).toNat = .fin s c q ∧ (v.toInt ≠ 0 → v.toInt.natAbs < 2 ^ 24 → c ≠ 0) := by
  obtain ⟨c, q, e, hz⟩ := whole_fin gfm32 (s := decide (v.toInt < 0)) (int_abs v)
  have hok : DOk FP.Core.b32 (.fin (decide (v.toInt < 0)) c q) := by rw [← e]; exact ratio_ok gfm32
  obtain ⟨s2, c2, q2, e2, hz2⟩ := dec_fin gfm32 hok
  have ev : (FP.i2f v).toNat = FP.Core.encode FP.Core.b32 (.fin (decide (v.toInt < 0)) c q) := by
    have : FP.i2f v = UInt32.ofNat (FP.Core.encode FP.Core.b32 (FP.Core.roundRatio FP.Core.b32 (decide (v.toInt < 0)) v.toInt.natAbs 1 0)) := rfl
    rw [this, e]
    exact (n32_ok hok).2
  rw [ev]
  exact ⟨s2, c2, q2, e2, fun h1 h2 => hz2 (hz (by omega) h2)⟩
/-- a quotient of doubles: no NaN, equal to itself -/
theorem ddiv_nn {a b : Int32} (h : b.toInt ≠ 0) (h2 : b.toInt.natAbs < 2 ^ 24) : n64 (FP.ddiv (FP.i2d a) (FP.i2d b)) = true ∧ FP.Core.decode FP.Core.b64 (FP.ddiv (FP.i2d a) (FP.i2d b)).toNat ≠ .nan := by
  obtain ⟨s, c, q, ea, -⟩ := i2d_dec a
  obtain ⟨t, d, u, eb, hd⟩ := i2d_dec b
  have hok := quo_ok gfm64 ea eb (hd h h2)
  have e : FP.ddiv (FP.i2d a) (FP.i2d b) = UInt64.ofNat (FP.Core.encode FP.Core.b64 (FP.Core.quotient FP.Core.b64 (FP.Core.decode FP.Core.b64 (FP.i2d a).toNat) (FP.Core.decode FP.Core.b64 (FP.i2d b).toNat))) := rfl
  rw [e]
  refine ⟨(n64_ok hok).1, ?_⟩
  rw [(n64_ok hok).2]
  exact dec_ok gfm64 hok
theorem fdiv_nn {a b : Int32} (h : b.toInt ≠ 0) (h2 : b.toInt.natAbs < 2 ^ 24) : n32 (FP.fdiv (FP.i2f a) (FP.i2f b)) = true ∧ n64 (FP.f2d (FP.fdiv (FP.i2f a) (FP.i2f b))) = true ∧ FP.Core.decode FP.Core.b64 (FP.f2d (FP.fdiv (FP.i2f a) (FP.i2f b))).toNat ≠ .nan := by
  obtain ⟨s, c, q, ea, -⟩ := i2f_dec a
  obtain ⟨t, d, u, eb, hd⟩ := i2f_dec b
  have hok := quo_ok gfm32 ea eb (hd h h2)
  have e : FP.fdiv (FP.i2f a) (FP.i2f b) = UInt32.ofNat (FP.Core.encode FP.Core.b32 (FP.Core.quotient FP.Core.b32 (FP.Core.decode FP.Core.b32 (FP.i2f a).toNat) (FP.Core.decode FP.Core.b32 (FP.i2f b).toNat))) := rfl
  rw [e]
  have h3 := n32_ok hok
  generalize UInt32.ofNat (FP.Core.encode FP.Core.b32 (FP.Core.quotient FP.Core.b32 (FP.Core.decode FP.Core.b32 (FP.i2f a).toNat) (FP.Core.decode FP.Core.b32 (FP.i2f b).toNat))) = x at h3
  have hx : FP.Core.decode FP.Core.b32 x.toNat ≠ .nan := by rw [h3.2]; exact dec_ok gfm32 hok
  have hnan : FP.Core.fIsNaN x = false := decide_eq_false hx
  have e2 : FP.f2d x = UInt64.ofNat (FP.Core.encode FP.Core.b64 (FP.Core.round FP.Core.b64 (FP.Core.decode FP.Core.b32 x.toNat))) := by
    unfold FP.f2d
    rw [hnan]
    rfl
  have hok2 : DOk FP.Core.b64 (FP.Core.round FP.Core.b64 (FP.Core.decode FP.Core.b32 x.toNat)) := by
    generalize FP.Core.decode FP.Core.b32 x.toNat = y at hx
    cases y with
    | nan => exact absurd rfl hx
    | inf s => trivial
    | fin s c q => exact ratio_ok gfm64
  rw [e2]
  refine ⟨h3.1, (n64_ok hok2).1, ?_⟩
  rw [(n64_ok hok2).2]
  exact dec_ok gfm64 hok2
theorem dcmp_rf {a : UInt64} (h : FP.Core.decode FP.Core.b64 a.toNat ≠ .nan) : FP.dcmp a a = some .eq := by
  show FP.Core.order (FP.Core.decode FP.Core.b64 a.toNat) (FP.Core.decode FP.Core.b64 a.toNat) = some .eq
  generalize FP.Core.decode FP.Core.b64 a.toNat = d at h
  have e : ∀ x : Int, compare x x = .eq := fun x => Int.compare_eq_eq.mpr rfl
  cases d with
  | nan => exact absurd rfl h
  | inf s => exact congrArg some (e _)
  | fin s c q => exact congrArg some (e _)
end Float
