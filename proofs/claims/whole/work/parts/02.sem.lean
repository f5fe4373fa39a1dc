/-! AM's runs: more fuel changes nothing; the rows by which a run is read -/
section Mono
variable {cal cal2 : Nat → List AV → St → Rs} {jmp jmp2 : Nat → List AV → List AV → St → Rs} {hd : List (Nat × Nat × Nat)}
theorem call_mono (hc : ∀ m a s r, cal m a s = some r → cal2 m a s = some r) (hj : ∀ b lv st s r, jmp b lv st s = some r → jmp2 b lv st s = some r) {k k2 : List AV → List AV → St → Rs}
    (ih : ∀ lv st s r, k lv st s = some r → k2 lv st s = some r) {m n : Nat} {lv st : List AV} {s : St} {r : Ot × St}
    (h : cll cal jmp hd k m n lv st s = some r) : cll cal2 jmp2 hd k2 m n lv st s = some r := by
  unfold cll at h ⊢
  by_cases g : catS (st.drop n) ≤ 8 ∧ n ≤ st.length ∧ catS (st.take n) = n
  · rw [if_pos g] at h ⊢
    cases hm : cal m (st.take n).reverse s with
    | none => rw [hm] at h; cases h
    | some x =>
      obtain ⟨o, s2⟩ := x
      rw [hm] at h
      rw [hc _ _ _ _ hm]
      cases o with
      | inl v => exact ih _ _ _ _ h
      | inr E =>
        dsimp only at h ⊢
        cases hf : fh hd E with
        | none => rw [hf] at h; exact h
        | some q => rw [hf] at h; exact hj _ _ _ _ _ h
  · rw [if_neg g] at h; cases h
theorem next_mono {k k2 : List AV → List AV → St → Rs} (ih : ∀ lv st s r, k lv st s = some r → k2 lv st s = some r) {x : Option (List AV × List AV × St)} {r : Ot × St}
    (h : nxt x k = some r) : nxt x k2 = some r := by
  cases x with
  | none => cases h
  | some y => exact ih _ _ _ _ h
theorem exF_mono (hc : ∀ m a s r, cal m a s = some r → cal2 m a s = some r) (hj : ∀ b lv st s r, jmp b lv st s = some r → jmp2 b lv st s = some r) :
    ∀ (is : List AI) (lv st : List AV) (s : St) (r : Ot × St), exF cal jmp hd is lv st s = some r → exF cal2 jmp2 hd is lv st s = some r := by
  intro is
  induction is with
  | nil => intro lv st s r h; simp [exF] at h
  | cons a is ih =>
    intro lv st s r h
    obtain ⟨i, v, l⟩ := a
    cases i with
    | nop =>
      simp only [exF] at h ⊢
      split at h
      · rename_i g; rw [if_pos g]; exact hj _ _ _ _ _ h
      · cases h
    | goto o =>
      simp only [exF] at h ⊢
      exact hj _ _ _ _ _ h
    | ifCond c o =>
      simp only [exF, pI] at h ⊢
      split at h
      · split at h
        · rename_i g; rw [if_pos g]; exact hj _ _ _ _ _ h
        · rename_i g; rw [if_neg g]; exact ih _ _ _ _ h
      · cases h
    | if_icmp c o =>
      simp only [exF, pII] at h ⊢
      split at h
      · split at h
        · rename_i g; rw [if_pos g]; exact hj _ _ _ _ _ h
        · rename_i g; rw [if_neg g]; exact ih _ _ _ _ h
      · cases h
    | tableswitch d lo hi o =>
      simp only [exF, pI] at h ⊢
      split at h
      · split at h
        · rename_i g; rw [if_pos g]; exact hj _ _ _ _ _ h
        · rename_i g; rw [if_neg g]; exact hj _ _ _ _ _ h
      · cases h
    | new k =>
      simp only [exF] at h ⊢
      split at h
      · rename_i g; rw [if_pos g]; exact next_mono ih h
      · rename_i g; rw [if_neg g]; exact h
    | invokestatic k =>
      simp only [exF] at h ⊢
      split at h
      · rename_i g; rw [if_pos g]; exact next_mono ih h
      · rename_i g; rw [if_neg g]; exact call_mono hc hj ih h
    | invokespecial k =>
      simp only [exF] at h ⊢
      split at h
      · rename_i g; rw [if_pos g]; exact next_mono ih h
      · rename_i g; rw [if_neg g]
        split at h
        · rename_i g2; rw [if_pos g2]; exact call_mono hc hj ih h
        · cases h
    | invokevirtual k =>
      simp only [exF] at h ⊢
      split at h
      · rename_i g2; rw [if_pos g2]; exact call_mono hc hj ih h
      · cases h
    | ireturn =>
      simp only [exF] at h ⊢
      exact h
    | areturn =>
      simp only [exF] at h ⊢
      exact h
    | freturn =>
      simp only [exF] at h ⊢
      exact h
    | dreturn =>
      simp only [exF] at h ⊢
      exact h
    | return_ =>
      simp only [exF] at h ⊢
      exact h
    | _ =>
      simp only [exF] at h ⊢
      exact next_mono ih h
end Mono
section Sem2
variable {mc : Nat → Nat → List AI} {ml : Nat → Nat} {hd : Nat → List (Nat × Nat × Nat)}
theorem jmF_mono {cal cal2 : Nat → List AV → St → Rs} (hc : ∀ m a s r, cal m a s = some r → cal2 m a s = some r) {m : Nat} : ∀ {n n2 : Nat}, n ≤ n2 → ∀ b lv st s r, jmF mc hd cal m n b lv st s = some r → jmF mc hd cal2 m n2 b lv st s = some r := by
  intro n
  induction n with
  | zero => intro n2 _ b lv st s r h; cases h
  | succ n ih =>
    intro n2 hn b lv st s r h
    obtain ⟨k, rfl⟩ : ∃ k, n2 = k + 1 := ⟨n2 - 1, by omega⟩
    exact exF_mono hc (ih (by omega)) _ _ _ _ _ h
theorem calF_mono : ∀ {d n n2 : Nat}, n ≤ n2 → ∀ m a s r, calF mc ml hd d n m a s = some r → calF mc ml hd d n2 m a s = some r := by
  intro d
  induction d with
  | zero => intro n n2 _ m a s r h; cases h
  | succ d ih =>
    intro n n2 hn m a s r h
    exact jmF_mono (fun m a s r => ih hn m a s r) hn _ _ _ _ _ h
end Sem2
section Wp
variable (mc : Nat → Nat → List AI) (ml : Nat → Nat) (hd : Nat → List (Nat × Nat × Nat))
/-- with enough fuel the run ends, and its end has Q -/
def GEx (d m : Nat) (is : List AI) (lv st : List AV) (s : St) (Q : Ot → St → Prop) : Prop := ∃ (n : Nat) (r : Ot × St), exF (calF mc ml hd d n) (jmF mc hd (calF mc ml hd d n) m n) (hd m) is lv st s = some r ∧ Q r.1 r.2
def GJx (d m b : Nat) (lv st : List AV) (s : St) (Q : Ot → St → Prop) : Prop := ∃ (n : Nat) (r : Ot × St), jmF mc hd (calF mc ml hd d n) m n b lv st s = some r ∧ Q r.1 r.2
def GCl (d m : Nat) (a : List AV) (s : St) (Q : Ot → St → Prop) : Prop := ∃ (n : Nat) (r : Ot × St), calF mc ml hd d n m a s = some r ∧ Q r.1 r.2
/-- how a method goes on behind a call -/
def GKo (d m : Nat) (is : List AI) (lv st : List AV) (Q : Ot → St → Prop) : Ot → St → Prop := fun o s => match o with
  | .inl r => GEx mc ml hd d m is lv (r.toList ++ st) s Q
  | .inr E => match fh (hd m) E with
    | none => Q (.inr E) s
    | some q => GJx mc ml hd d m q.1 (lv.set q.2 unk) [] s Q
end Wp
section Rows
variable {mc : Nat → Nat → List AI} {ml : Nat → Nat} {hd : Nat → List (Nat × Nat × Nat)} {d m : Nat} {is : List AI} {lv st : List AV} {s : St} {Q : Ot → St → Prop} {v : Int32} {k : Nat}
theorem gjx_iff {b : Nat} : GJx mc ml hd d m b lv st s Q ↔ GEx mc ml hd d m (mc m b) lv st s Q := by
  constructor
  · rintro ⟨n, r, h, hq⟩
    cases n with
    | zero => cases h
    | succ n => exact ⟨n + 1, r, exF_mono (fun _ _ _ _ h => h) (jmF_mono (fun _ _ _ _ h => h) (Nat.le_succ n)) _ _ _ _ _ h, hq⟩
  · rintro ⟨n, r, h, hq⟩
    exact ⟨n + 1, r, exF_mono (calF_mono (Nat.le_succ n)) (jmF_mono (calF_mono (Nat.le_succ n)) (Nat.le_refl n)) _ _ _ _ _ h, hq⟩
theorem gcl_iff {a : List AV} : GCl mc ml hd (d + 1) m a s Q ↔ GJx mc ml hd d m 0 (a ++ List.replicate (ml m - a.length) unk) [] s Q := Iff.rfl
theorem gst {a : AI} {x : List AV × List AV × St} (h : ∀ cal jmp hd, exF cal jmp hd (a :: is) lv st s = exF cal jmp hd is x.1 x.2.1 x.2.2) : GEx mc ml hd d m (a :: is) lv st s Q ↔ GEx mc ml hd d m is x.1 x.2.1 x.2.2 Q := by
  unfold GEx
  simp only [h]
theorem gcall {a : AI} {m2 n2 : Nat} (hg : catS (st.drop n2) ≤ 8 ∧ n2 ≤ st.length ∧ catS (st.take n2) = n2)
    (h : ∀ cal jmp hd, exF cal jmp hd (a :: is) lv st s = cll cal jmp hd (exF cal jmp hd is) m2 n2 lv st s) :
    GEx mc ml hd d m (a :: is) lv st s Q ↔ GCl mc ml hd d m2 (st.take n2).reverse s (GKo mc ml hd d m is lv (st.drop n2) Q) := by
  constructor
  · rintro ⟨n, r, e, hq⟩
    rw [h, cll, if_pos hg] at e
    cases hm : calF mc ml hd d n m2 (st.take n2).reverse s with
    | none => rw [hm] at e; cases e
    | some x =>
      obtain ⟨o, s2⟩ := x
      refine ⟨n, (o, s2), hm, ?_⟩
      rw [hm] at e
      cases o with
      | inl w => exact ⟨n, r, e, hq⟩
      | inr E =>
        dsimp only [GKo] at e ⊢
        cases hf : fh (hd m) E with
        | none => rw [hf] at e; cases e; exact hq
        | some q => rw [hf] at e; exact ⟨n, r, e, hq⟩
  · rintro ⟨n, ⟨o, s2⟩, hm, hk⟩
    cases o with
    | inl w =>
      obtain ⟨n3, r, e, hq⟩ := hk
      refine ⟨max n n3, r, ?_, hq⟩
      rw [h, cll, if_pos hg, calF_mono (Nat.le_max_left n n3) _ _ _ _ hm]
      exact exF_mono (calF_mono (Nat.le_max_right n n3)) (jmF_mono (calF_mono (Nat.le_max_right n n3)) (Nat.le_max_right n n3)) _ _ _ _ _ e
    | inr E =>
      dsimp only [GKo] at hk
      cases hf : fh (hd m) E with
      | none =>
        rw [hf] at hk
        refine ⟨n, (.inr E, s2), ?_, hk⟩
        rw [h, cll, if_pos hg, hm]
        dsimp only
        rw [hf]
      | some q =>
        rw [hf] at hk
        obtain ⟨n3, r, e, hq⟩ := hk
        refine ⟨max n n3, r, ?_, hq⟩
        rw [h, cll, if_pos hg, calF_mono (Nat.le_max_left n n3) _ _ _ _ hm]
        dsimp only
        rw [hf]
        exact jmF_mono (calF_mono (Nat.le_max_right n n3)) (Nat.le_max_right n n3) _ _ _ _ _ e
theorem gend {a : AI} {o : Ot} {s2 : St} (h : ∀ cal jmp hd, exF cal jmp hd (a :: is) lv st s = some (o, s2)) : GEx mc ml hd d m (a :: is) lv st s Q ↔ Q o s2 := by
  constructor
  · rintro ⟨n, r, e, hq⟩
    rw [h] at e
    cases e
    exact hq
  · intro hq
    exact ⟨0, _, h _ _ _, hq⟩
theorem gjmp {a : AI} {b : Nat} {lv2 st2 : List AV} (h : ∀ cal jmp hd, exF cal jmp hd (a :: is) lv st s = jmp b lv2 st2 s) : GEx mc ml hd d m (a :: is) lv st s Q ↔ GJx mc ml hd d m b lv2 st2 s Q := by
  unfold GEx GJx
  simp only [h]
theorem gif {a : AI} {b : Nat} {c : Bool} {lv2 st2 : List AV} (h : ∀ cal jmp hd, exF cal jmp hd (a :: is) lv st s = if c then jmp b lv2 st2 s else exF cal jmp hd is lv2 st2 s) : GEx mc ml hd d m (a :: is) lv st s Q ↔ if c then GJx mc ml hd d m b lv2 st2 s Q else GEx mc ml hd d m is lv2 st2 s Q := by
  unfold GEx GJx
  simp only [h]
  cases c <;> simp
end Rows
