/-! the order by weight: laid by insertion, or by the number of those ahead -/
section Ord
variable (wt : Nat → Int)
def ah (a b : Nat) : Prop := wt b < wt a ∨ (wt a = wt b ∧ a < b)
def ahB (a b : Nat) : Bool := decide (wt b < wt a) || (decide (wt a = wt b) && decide (a < b))
theorem ahB_iff {a b : Nat} : ahB wt a b = true ↔ ah wt a b := by simp [ahB, ah]
/-- x goes into a row whose last place comes first -/
def insV (x : Nat) : List Nat → List Nat
  | [] => [x]
  | y :: t => if wt y < wt x then y :: insV x t else x :: y :: t
def rsrt : Nat → List Nat
  | 0 => []
  | n + 1 => insV wt n (rsrt n)
theorem insV_perm (x : Nat) : ∀ l : List Nat, (insV wt x l).Perm (x :: l)
  | [] => List.Perm.refl _
  | y :: t => by
    unfold insV
    split
    · exact ((insV_perm x t).cons y).trans (List.Perm.swap x y t)
    · exact List.Perm.refl _
theorem insV_mem {x z : Nat} {l : List Nat} (h : z ∈ insV wt x l) : z = x ∨ z ∈ l := by
  have := (insV_perm wt x l).mem_iff.mp h
  exact List.mem_cons.mp this
theorem insV_pw {x : Nat} : ∀ {l : List Nat}, (∀ y ∈ l, y < x) → l.Pairwise (fun a b => ah wt b a) → (insV wt x l).Pairwise (fun a b => ah wt b a)
  | [], _, _ => List.pairwise_singleton _ _
  | y :: t, hx, hp => by
    obtain ⟨h1, h2⟩ := List.pairwise_cons.mp hp
    have hy := hx y List.mem_cons_self
    unfold insV
    split
    · rename_i hw
      refine List.pairwise_cons.mpr ⟨fun z hz => ?_, insV_pw (fun z hz => hx z (List.mem_cons_of_mem _ hz)) h2⟩
      rcases insV_mem wt hz with rfl | hz
      · exact Or.inl hw
      · exact h1 z hz
    · rename_i hw
      have hyx : ah wt y x := by
        unfold ah
        omega
      refine List.pairwise_cons.mpr ⟨fun z hz => ?_, hp⟩
      rcases List.mem_cons.mp hz with rfl | hz
      · exact hyx
      · have h3 := h1 z hz
        unfold ah at h3 hyx ⊢
        omega
theorem rsrt_perm : ∀ n, (rsrt wt n).Perm (List.range n)
  | 0 => List.Perm.refl _
  | n + 1 => by
    unfold rsrt
    rw [List.range_succ]
    exact ((insV_perm wt n (rsrt wt n)).trans ((rsrt_perm n).cons n)).trans (List.perm_append_comm (l₁ := [n]) (l₂ := List.range n))
theorem rsrt_lt {n z : Nat} (h : z ∈ rsrt wt n) : z < n := List.mem_range.mp ((rsrt_perm wt n).mem_iff.mp h)
theorem rsrt_pw : ∀ n, (rsrt wt n).Pairwise (fun a b => ah wt b a)
  | 0 => List.Pairwise.nil
  | n + 1 => insV_pw wt (fun _ hy => rsrt_lt wt hy) (rsrt_pw n)
/-- the places in the order by weight -/
def byw (n : Nat) : List Nat := (rsrt wt n).reverse
theorem byw_perm (n : Nat) : (byw wt n).Perm (List.range n) := (List.reverse_perm _).trans (rsrt_perm wt n)
theorem byw_len (n : Nat) : (byw wt n).length = n := by rw [(byw_perm wt n).length_eq, List.length_range]
theorem byw_pw (n : Nat) : (byw wt n).Pairwise (ah wt) := List.pairwise_reverse.mpr (rsrt_pw wt n)
def rk (n k : Nat) : Nat := (List.range n).countP (fun o => decide (o ≠ k) && ahB wt o k)
theorem ah_irr {a b : Nat} (h : ah wt a b) : ¬ ah wt b a := by unfold ah at h ⊢; omega
theorem ah_ne {a b : Nat} (h : ah wt a b) : a ≠ b := by rintro rfl; unfold ah at h; omega
theorem pw_cnt : ∀ {l : List Nat}, l.Pairwise (ah wt) → ∀ {j k : Nat}, l[j]? = some k → l.countP (fun o => decide (o ≠ k) && ahB wt o k) = j
  | [], _, j, k, h => by simp at h
  | a :: l, hp, j, k, h => by
    obtain ⟨h1, h2⟩ := List.pairwise_cons.mp hp
    cases j with
    | zero =>
      simp only [List.getElem?_cons_zero, Option.some.injEq] at h
      subst h
      rw [List.countP_eq_zero]
      intro o ho
      rcases List.mem_cons.mp ho with rfl | ho
      · simp
      · have := ah_irr wt (h1 o ho)
        rw [← ahB_iff] at this
        simp [this]
    | succ j =>
      rw [List.getElem?_cons_succ] at h
      have h3 := h1 k (List.mem_of_getElem? h)
      rw [List.countP_cons, pw_cnt h2 h]
      have h4 := ah_ne wt h3
      rw [← ahB_iff] at h3
      simp [h3, h4]
theorem rk_byw {n j k : Nat} (h : (byw wt n)[j]? = some k) : rk wt n k = j := by
  unfold rk
  rw [← (byw_perm wt n).countP_eq]
  exact pw_cnt wt (byw_pw wt n) h
/-- a row in which each k stands at its number of those ahead is the order by weight -/
theorem row_byw {n : Nat} {g : Nat → Nat} (h : ∀ k, k < n → g (rk wt n k) = k) {j : Nat} (hj : j < n) : (byw wt n)[j]? = some (g j) := by
  have hl : j < (byw wt n).length := by rw [byw_len]; exact hj
  have e : (byw wt n)[j]? = some (byw wt n)[j] := List.getElem?_eq_getElem hl
  have h2 : (byw wt n)[j] < n := List.mem_range.mp ((byw_perm wt n).mem_iff.mp (List.getElem_mem hl))
  have h3 := rk_byw wt e
  have h4 := h _ h2
  rw [h3] at h4
  rw [e, h4]
theorem rk_lt {n k : Nat} (hk : k < n) : rk wt n k < n := by
  have h1 : k ∈ byw wt n := (byw_perm wt n).mem_iff.mpr (List.mem_range.mpr hk)
  obtain ⟨j, hj⟩ := List.getElem?_of_mem h1
  rw [rk_byw wt hj]
  have := (List.getElem?_eq_some_iff.mp hj).1
  rw [byw_len] at this
  exact this
end Ord
