/-! class and model in one store -/
theorem pr_eta {f : SF} : pr f (f 43 0) = f := by
  funext t j k
  unfold pr
  by_cases h : t = 43 ∧ j = 0
  · rw [if_pos h, h.1, h.2]
  · rw [if_neg h]
theorem LayC.dep {f f' : SF} {r : SR} {C : Cst} (h : LayC f r C) (e : ∀ t j n, tgC t = true → f' t j n = f t j n) : LayC f' r C := by
  obtain ⟨h1, h2, ⟨nx, h3⟩, h4, h5, h6, h7⟩ := h
  have eD : ∀ t, (t = 1 ∨ t = 2 ∨ t = 3 ∨ t = 4 ∨ 20 ≤ t ∧ t ≤ 30) → tgC t = true := fun t ht => tgD_C t (tgD_l ht)
  exact ⟨h1, h2.dep (fun t n ht => e _ _ _ (eD t ht)), ⟨nx, h3.dep (fun n => e _ _ _ rfl) (fun t j n hj ht => e _ _ _ (eD t ht))⟩, h4.dep (e _ _ _ rfl) (fun t n ht => e _ _ _ (eD t ht)), h5.dep (fun n _ => e _ _ _ rfl), h6.dep (e _ _ _ rfl) (fun n => e _ _ _ rfl), h7.dep (fun t j n ht => e _ _ _ (by rcases ht with rfl | rfl <;> rfl))⟩
/-- the model's step leaves the class -/
theorem c_mo {f f' : SF} {N N' : Nat → Int32} {r : SR} {C : Cst} (h : LayC (pr f N) r C) (F : FrM f f') : LayC (pr f' N') r C := h.dep (fun t j n ht => by
  have n11 : t ≠ 11 := by rintro rfl; cases ht
  have n43 : ¬ (43 ≤ t ∧ t ≤ 52) := fun z => by
    unfold tgC at ht
    simp at ht
    omega
  rw [pr_ne (by omega), pr_ne (by omega)]
  exact F t j n (by omega))
/-- the class' step leaves the model -/
theorem mo_c {f f' : SF} {N : Nat → Int32} {C : Cst} (h : LayMo f N C) (F : FrC (pr f N) f') : LayMo f' N C ∧ f' = pr f' N := by
  have e43 : f' 43 0 = N := by
    funext k
    exact (F 43 0 k rfl).trans pr_43
  have ek : ∀ t k, t = 11 ∨ 45 ≤ t ∧ t ≤ 52 → f' t 0 k = f t 0 k := fun t k ht => (F t 0 k (by unfold tgC; simp; omega)).trans (pr_ne (by omega))
  refine ⟨h.dep (fun t k hk => ek t k (by unfold kept at hk; omega)) (ek _ _ (by decide)) (fun k => ek _ _ (by omega)), ?_⟩
  rw [← e43]
  exact pr_eta.symm
/-- the same shape -/
def SamR (r r' : SR) : Prop := r'.1 = r.1 ∧ r'.2.2.2.1 = r.2.2.2.1 ∧ r'.2.2.2.2.1 = r.2.2.2.2.1
theorem SamR.rf {r : SR} : SamR r r := ⟨rfl, rfl, rfl⟩
theorem SamR.tr {a b c : SR} (h : SamR a b) (g : SamR b c) : SamR a c := ⟨g.1.trans h.1, g.2.1.trans h.2.1, g.2.2.trans h.2.2⟩
theorem SamR.cap {r r' : SR} (h : SamR r r') : capR r' = capR r := by
  unfold capR
  rw [h.1, h.2.1]
theorem LayC.sam {f : SF} {r r' : SR} {C : Cst} (h : LayC f r C) (g : SamR r r') : LayC f r' C := by
  obtain ⟨g1, g2, g3⟩ := g
  obtain ⟨⟨s1, s2, s3⟩, h2, h3, h4, h5, h6, ⟨j, cap, w1, w2, w3, w4, w5, w6, w7, ⟨w8, w8b⟩, w9⟩⟩ := h
  refine ⟨⟨fun i hi => (s1 i hi).dep (fun t k _ => by rw [g1]) (fun t _ => by rw [g2]), ?_, fun k hk => by rw [g1]; exact s3 k hk⟩, h2, h3, h4, h5, h6, ⟨j, cap, by rw [g1]; exact w1, w2, w3, by rw [g2]; exact w4, w5, w6, w7, ⟨by rw [g3]; exact w8, w8b⟩, w9⟩⟩
  unfold StG at s2 ⊢
  rw [g1, g2]
  exact s2
theorem Kst.sam {f : SF} {r r' : SR} (h : Kst f r) (g : SamR r r') : Kst f r' := by
  unfold Kst at h ⊢
  rw [g.1, g.2.1]
  exact h
theorem Dst.sam {f : SF} {r r' : SR} (h : Dst f r) (g : SamR r r') : Dst f r' := by
  unfold Dst at h ⊢
  rw [g.1, g.2.1]
  exact h
theorem sam_wst {f : SF} {r : SR} {a b : Nat} : ∃ r', wst (f, r) a b = (f, r') ∧ SamR r r' ∧ r'.2.2.2.2.2.1 = r.2.2.2.2.2.1 + a ∧ r'.2.2.2.2.2.2 = r.2.2.2.2.2.2 + b := ⟨(wst (f, r) a b).2, rfl, ⟨rfl, rfl, rfl⟩, rfl, rfl⟩
theorem sam_wJ {f : SF} {r : SR} {t i k : Nat} {v : Int64} : ∃ r', wJ (f, r) t i k v = (f, r') ∧ SamR r r' ∧ r'.2.2.2.2.2 = r.2.2.2.2.2 ∧ r'.2.1 t i k = v := ⟨(wJ (f, r) t i k v).2, rfl, ⟨rfl, rfl, rfl⟩, rfl, by show up3 r.2.1 t i k v t i k = v; unfold up3; rw [if_pos ⟨rfl, rfl, rfl⟩]⟩
theorem sam_wD {f : SF} {r : SR} {t i k : Nat} {v : UInt64} : ∃ r', wD (f, r) t i k v = (f, r') ∧ SamR r r' ∧ r'.2.2.2.2.2 = r.2.2.2.2.2 ∧ r'.2.2.1 t i k = v := ⟨(wD (f, r) t i k v).2, rfl, ⟨rfl, rfl, rfl⟩, rfl, by show up3 r.2.2.1 t i k v t i k = v; unfold up3; rw [if_pos ⟨rfl, rfl, rfl⟩]⟩
