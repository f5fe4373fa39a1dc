/-! between the class' step and the model's -/
/-- what the class' step has left, the model's not yet made -/
def Mid (L : Nat) (xs : Nat → Int32) (n : Nat) (C : Cst) (f : SF) (r : SR) : Prop := LayC f r C ∧ Kst f r ∧ Dst f r ∧ r.2.2.2.1 53 0 = 1 ∧ r.2.2.2.1 54 0 = 1 ∧ r.2.2.2.1 55 0 = L ∧ (∀ k, f 55 0 k = xs k) ∧ r.2.2.2.2.2.1 ≤ 217 + (n + 1) + capR r ∧ r.2.2.2.2.2.2 ≤ 9141 + 6 * (n + 1) + 2 * capR r
theorem mid_c {L : Nat} {xs : Nat → Int32} {U n : Nat} {C C1 : Cst} {f f1 : SF} {N : Nat → Int32} {r r1 r2 : SR} (h : Btw L xs U n C f N r) (hC : LayC f1 r2 C1) (F : FrC (pr f N) f1) (G : Grw r r2) (S : SamR r2 r1) (hN : r1.2.2.2.2.2.1 ≤ r2.2.2.2.2.2.1 + 1) (hM : r1.2.2.2.2.2.2 ≤ r2.2.2.2.2.2.2 + 6) : Mid L xs n C1 f1 r1 ∧ LayMo f1 N C ∧ f1 = pr f1 N := by
  obtain ⟨h1, h2, h3, h4, h5, h6, h7, h8, h9, ha, hb⟩ := h
  have e : ∀ t j k, tgC t = false → f1 t j k = pr f N t j k := fun t j k ht => F t j k ht
  obtain ⟨m1, m2⟩ := mo_c h2 F
  have gc := S.cap
  have hK : Kst f1 r := by
    obtain ⟨k1, k2, k3⟩ := h4
    exact ⟨fun x hx => ⟨(k1 x hx).1, (e 12 x 1 rfl).trans (k1 x hx).2.1, (k1 x hx).2.2.1, fun j => (e 56 x j rfl).trans ((k1 x hx).2.2.2 j)⟩, (e 60 0 0 rfl).trans k2, k3⟩
  have hD : Dst f1 r := h5.dep (fun t k ht => by rcases ht with rfl | rfl <;> exact e _ 0 k rfl)
  refine ⟨⟨hC.sam S, Kst.sam (hK.gr G) S, Dst.sam (hD.gr G) S, ?_, ?_, ?_, fun k => (e 55 0 k rfl).trans ((pr_ne (by decide)).trans (h9 k)), ?_, ?_⟩, m1, m2⟩
  · rw [S.2.1]; exact (G.2.1 53 0 (by decide)).trans h6
  · rw [S.2.1]; exact (G.2.1 54 0 (by decide)).trans h7
  · rw [S.2.1]; exact (G.2.1 55 0 (by decide)).trans h8
  · rw [gc]
    have := G.2.2.2.2.1
    omega
  · rw [gc]
    have := G.2.2.2.2.2
    omega
theorem mid_m {L : Nat} {xs : Nat → Int32} {U n : Nat} {C1 : Cst} {f1 f2 : SF} {N N2 : Nat → Int32} {r1 : SR} (h : Mid L xs n C1 (pr f1 N) r1) (hl : LayMo f2 N2 C1) (F : FrM f1 f2) (hI : CInv (U + 60) C1) : Btw L xs (U + 60) (n + 1) C1 f2 N2 r1 := by
  obtain ⟨h1, h4, h5, h6, h7, h8, h9, ha, hb⟩ := h
  have e : ∀ t j k, 53 ≤ t → pr f2 N2 t j k = pr f1 N t j k := fun t j k ht => by rw [pr_ne (by omega), pr_ne (by omega)]; exact F t j k (by omega)
  have e12 : ∀ j k, pr f2 N2 12 j k = pr f1 N 12 j k := fun j k => by rw [pr_ne (by decide), pr_ne (by decide)]; exact F 12 j k (by decide)
  refine ⟨c_mo h1 F, hl, hI, ?_, h5.dep (fun t k ht => e t 0 k (by omega)), h6, h7, h8, fun k => ?_, ha, hb⟩
  · obtain ⟨k1, k2, k3⟩ := h4
    exact ⟨fun x hx => ⟨(k1 x hx).1, (e12 x 1).trans (k1 x hx).2.1, (k1 x hx).2.2.1, fun j => (e 56 x j (by decide)).trans ((k1 x hx).2.2.2 j)⟩, (e 60 0 0 (by decide)).trans k2, k3⟩
  · exact (F 55 0 k (by decide)).trans ((pr_ne (N := N) (by decide)).symm.trans (h9 k))
