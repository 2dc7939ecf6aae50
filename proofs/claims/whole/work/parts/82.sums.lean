/-! sums over the children of a branch -/
def SU (h : Nat → Nat) (sy : Nat → Nat → Int32) (op : Nat → List Nat) (s : Nat) (g : List Nat) : Nat → Nat
  | 0 => 0
  | c + 1 => SU h sy op s g c + ((subG sy op s (nI c) g).map h).sum
theorem SU_nil (h : Nat → Nat) (sy : Nat → Nat → Int32) (op : Nat → List Nat) (s : Nat) : ∀ n, SU h sy op s [] n = 0 := by
  intro n
  induction n with
  | zero => rfl
  | succ n ih =>
    rw [SU, ih]
    rfl
theorem SU_cons (h : Nat → Nat) (sy : Nat → Nat → Int32) (op : Nat → List Nat) (s x : Nat) (l : List Nat) : ∀ n, n ≤ 60 → (SU h sy op s (x :: l) n = SU h sy op s l n ∧ ∀ c, c < n → ¬ sy x (nth (op x) s) = nI c) ∨ (SU h sy op s (x :: l) n = h x + SU h sy op s l n ∧ ∃ c, c < n ∧ sy x (nth (op x) s) = nI c) := by
  intro n
  induction n with
  | zero =>
    intro _
    exact Or.inl ⟨rfl, fun c hc => absurd hc (Nat.not_lt_zero c)⟩
  | succ n ih =>
    intro hn
    have e : ((subG sy op s (nI n) (x :: l)).map h).sum = (if sy x (nth (op x) s) = nI n then h x else 0) + ((subG sy op s (nI n) l).map h).sum := by
      unfold subG
      by_cases q : sy x (nth (op x) s) = nI n
      · rw [List.filter_cons_of_pos (by simpa using q), if_pos q]
        simp
      · rw [List.filter_cons_of_neg (by simpa using q), if_neg q]
        simp
    rw [SU, SU, e]
    rcases ih (by omega) with ⟨h1, h2⟩ | ⟨h1, c, h2, h3⟩
    · by_cases q : sy x (nth (op x) s) = nI n
      · refine Or.inr ⟨?_, n, by omega, q⟩
        rw [if_pos q, h1]
        omega
      · refine Or.inl ⟨?_, fun c hc => ?_⟩
        · rw [if_neg q, h1]
          omega
        · by_cases hcn : c = n
          · rw [hcn]; exact q
          · exact h2 c (by omega)
    · refine Or.inr ⟨?_, c, by omega, h3⟩
      have q : ¬ sy x (nth (op x) s) = nI n := by
        intro q
        have := nI_inj (by omega) (by omega) (h3.symm.trans q)
        omega
      rw [if_neg q, h1]
      omega
theorem SU_le (h : Nat → Nat) (sy : Nat → Nat → Int32) (op : Nat → List Nat) (s n : Nat) (hn : n ≤ 60) : ∀ g, SU h sy op s g n ≤ (g.map h).sum := by
  intro g
  induction g with
  | nil => rw [SU_nil]; exact Nat.zero_le _
  | cons x l ih =>
    rw [List.map_cons, List.sum_cons]
    rcases SU_cons h sy op s x l n hn with ⟨h1, -⟩ | ⟨h1, -⟩ <;> omega
theorem SU_mono (h : Nat → Nat) (sy : Nat → Nat → Int32) (op : Nat → List Nat) (s : Nat) (g : List Nat) {a b : Nat} (hab : a ≤ b) : SU h sy op s g a ≤ SU h sy op s g b := by
  induction hab with
  | refl => exact Nat.le_refl _
  | step _ ih =>
    rw [SU]
    omega
theorem sum_1 (f : Nat → Nat) : ∀ l : List Nat, (l.map fun r => f r + 1).sum = (l.map f).sum + l.length := by
  intro l
  induction l with
  | nil => rfl
  | cons x l ih =>
    rw [List.map_cons, List.sum_cons, ih, List.map_cons, List.sum_cons, List.length_cons]
    omega
/-- the children of a branch that come before c -/
theorem kidsC_succ (sy : Nat → Nat → Int32) (op : Nat → List Nat) (s c : Nat) (g : List Nat) : kidsC sy op s (c + 1) g = kidsC sy op s c g ++ (if (subG sy op s (nI c) g).isEmpty = true then [] else [c]) := by
  unfold kidsC
  rw [List.range_succ, List.filter_append]
  congr 1
  cases h : (subG sy op s (nI c) g).isEmpty <;> simp [h]
