/-! longest rows of rules that follow one another -/
theorem filt_len (f : Nat → Bool) : ∀ l : List Nat, (l.filter fun x => f x).length + (l.filter fun x => !f x).length = l.length := by
  intro l
  induction l with
  | nil => rfl
  | cons x l ih =>
    cases h : f x
    · simp only [List.filter_cons, h, Bool.not_false, if_true, List.length_cons]
      simp only [Bool.false_eq_true, if_false]
      omega
    · simp only [List.filter_cons, h, Bool.not_true, if_true, List.length_cons]
      simp only [Bool.false_eq_true, if_false]
      omega
theorem preR_pos {f : Nat → Bool} {g : List Nat} (h : 0 < g.length) : 0 < (preR f g).length := by
  cases g with
  | nil => simp at h
  | cons x l =>
    unfold preR
    rw [List.takeWhile_cons_of_pos (by simp [nth])]
    simp
theorem preR_pre (f : Nat → Bool) (g : List Nat) : preR f g = g.take (preR f g).length := by
  unfold preR
  exact List.prefix_iff_eq_take.mp (List.takeWhile_prefix _)
theorem preR_le (f : Nat → Bool) (g : List Nat) : (preR f g).length ≤ g.length := by
  unfold preR
  exact (List.takeWhile_prefix _).length_le
theorem preR_same {f : Nat → Bool} {g : List Nat} {x : Nat} (h : x ∈ preR f g) : f x = f (nth g 0) := by
  unfold preR at h
  have := List.all_eq_true.mp (List.all_takeWhile (p := fun r => f r == f (nth g 0)) (l := g)) x h
  simpa using this
theorem runs_spec (f : Nat → Bool) : ∀ (n : Nat) (g : List Nat), g.length ≤ n → (runs f n g).flatten = g ∧ ∀ l, l ∈ runs f n g → 0 < l.length ∧ l.Sublist g ∧ ∃ v, ∀ x, x ∈ l → f x = v := by
  intro n
  induction n with
  | zero =>
    intro g h
    have : g = [] := List.length_eq_zero_iff.mp (by omega)
    subst this
    exact ⟨rfl, fun l hl => by cases hl⟩
  | succ n ih =>
    intro g h
    rw [runs]
    by_cases hg : g.isEmpty = true
    · rw [if_pos hg]
      have : g = [] := by simpa using hg
      subst this
      exact ⟨rfl, fun l hl => by cases hl⟩
    · rw [if_neg hg]
      have h0 : 0 < g.length := by
        cases g with
        | nil => simp at hg
        | cons x l => simp
      have h1 := preR_pos (f := f) h0
      obtain ⟨h2, h3⟩ := ih (g.drop (preR f g).length) (by rw [List.length_drop]; omega)
      refine ⟨?_, fun l hl => ?_⟩
      · rw [List.flatten_cons, h2]
        conv => lhs; lhs; rw [preR_pre f g]
        rw [List.take_append_drop]
      · rcases List.mem_cons.mp hl with rfl | hl
        · refine ⟨h1, ?_, f (nth g 0), fun x hx => preR_same hx⟩
          unfold preR
          exact List.takeWhile_sublist _
        · obtain ⟨a, b, c⟩ := h3 l hl
          exact ⟨a, b.trans (List.drop_sublist _ _), c⟩
theorem run_short {sy : Nat → Nat → Int32} {op : Nat → List Nat} {g l : List Nat} {s : Nat} (h0 : 0 < ndC sy op g s) (h1 : ndC sy op g s ≠ g.length) (hl : l.Sublist g) {v : Bool} (hv : ∀ x, x ∈ l → ndB sy op s x = v) : l.length < g.length := by
  have hle := ndC_le sy op g s
  have e : l = l.filter fun x => ndB sy op s x == v := by
    rw [List.filter_eq_self.mpr]
    intro x hx
    simp [hv x hx]
  have h2 : l.length ≤ (g.filter fun x => ndB sy op s x == v).length := by
    rw [e]
    exact (hl.filter _).length_le
  have h3 : (g.filter fun x => ndB sy op s x).length = ndC sy op g s := rfl
  have h4 : (g.filter fun x => ndB sy op s x).length + (g.filter fun x => !ndB sy op s x).length = g.length := by
    exact filt_len (ndB sy op s) g
  cases v with
  | true =>
    have h5 : (g.filter fun x => ndB sy op s x == true) = g.filter fun x => ndB sy op s x := by
      congr 1
      funext x
      simp
    rw [h5] at h2
    omega
  | false =>
    have h5 : (g.filter fun x => ndB sy op s x == false) = g.filter fun x => !ndB sy op s x := by
      congr 1
      funext x
      cases ndB sy op s x <;> rfl
    rw [h5] at h2
    omega
theorem GW.run {R : Nat} {ln : Nat → Nat} {wt : Nat → Nat → Nat} {g l : List Nat} {op : Nat → List Nat} {K : Nat} (h : GW R ln wt g op K) (hl : l.Sublist g) (h0 : 0 < l.length) : GW R ln wt l op K := by
  obtain ⟨h1, h2, h3, h4⟩ := h
  exact ⟨h0, List.Nodup.sublist hl h2, fun r hr => h3 r (hl.subset hr), fun r r' hr hr' => h4 r r' (hl.subset hr) (hl.subset hr')⟩
