/-! the groups that wait, the next one last: group, label, depth -/
abbrev Wt : Type := List (List Nat × Int32 × Nat)
def WtC (W : Wt) (c : St) : Prop := gF c 10 = nI W.length ∧ ∀ i e, W[i]? = some e → gA c 29 i = mk e.1 ∧ gA c 30 i = e.2.1 ∧ gA c 31 i = nI e.2.2
theorem WtC.kept {W : Wt} {c c' : St} (h : WtC W c) (h1 : gF c' 10 = gF c 10) (h2 : ∀ j, 29 ≤ j → j ≤ 31 → gA c' j = gA c j) : WtC W c' := by
  unfold WtC
  rw [h1, h2 29 (by omega) (by omega), h2 30 (by omega) (by omega), h2 31 (by omega) (by omega)]
  exact h
/-- beside the rows of waiting groups all stays -/
def FrW (c c' : St) : Prop := (∀ j, j ≠ 10 → gF c' j = gF c j) ∧ ∀ j, j < 29 ∨ 31 < j → gA c' j = gA c j
theorem FrW.refl (c : St) : FrW c c := ⟨fun _ _ => rfl, fun _ _ => rfl⟩
theorem FrW.trans {a b c : St} (h : FrW a b) (h2 : FrW b c) : FrW a c := ⟨fun j j1 => by rw [h2.1 j j1, h.1 j j1], fun j j1 => by rw [h2.2 j j1, h.2 j j1]⟩
theorem await_eq {W : Wt} {c : St} (h : WtC W c) (hW : W.length < 24) (g : List Nat) (lab : Int32) (dep : Nat) : ∃ c', F_X1_await (mk g) lab (nI dep) c = some (0, c') ∧ WtC (W ++ [(g, lab, dep)]) c' ∧ FrW c c' := by
  unfold F_X1_await
  obtain ⟨w, hw⟩ : ∃ w, W.length = w := ⟨_, rfl⟩
  have h10 := h.1
  rw [hw] at h10 hW
  rw [h10, if_neg (show ¬ (24 : Int32) ≤ nI w from nI_ge (b := 24) hW (by omega)), wr_in _ _ hW (by omega), bd_r]
  obtain ⟨c1, hc1⟩ : ∃ c1, sA c 29 (upd (gA c 29) w (mk g)) = c1 := ⟨_, rfl⟩
  have g1 : gF c1 10 = nI w := by rw [← hc1]; exact h10
  rw [hc1, g1, wr_in _ _ hW (by omega), bd_r]
  obtain ⟨c2, hc2⟩ : ∃ c2, sA c1 30 (upd (gA c1 30) w lab) = c2 := ⟨_, rfl⟩
  have g2 : gF c2 10 = nI w := by rw [← hc2]; exact g1
  rw [hc2, g2, wr_in _ _ hW (by omega), bd_r]
  obtain ⟨c3, hc3⟩ : ∃ c3, sA c2 31 (upd (gA c2 31) w (nI dep)) = c3 := ⟨_, rfl⟩
  have g3 : gF c3 10 = nI w := by rw [← hc3]; exact g2
  rw [hc3, g3, nI_1, bd_r]
  refine ⟨_, rfl, ⟨?_, fun i e he => ?_⟩, fun j j1 => ?_, fun j j1 => ?_⟩
  · rw [List.length_append, hw]; rfl
  · have b1 : gA (sF c3 10 (nI (w + 1))) 29 = upd (gA c 29) w (mk g) := by rw [← hc3, ← hc2, ← hc1]; rfl
    have b2 : gA (sF c3 10 (nI (w + 1))) 30 = upd (gA c 30) w lab := by rw [← hc3, ← hc2, ← hc1]; rfl
    have b3 : gA (sF c3 10 (nI (w + 1))) 31 = upd (gA c 31) w (nI dep) := by rw [← hc3, ← hc2, ← hc1]; rfl
    rw [b1, b2, b3]
    by_cases hi : i < W.length
    · rw [List.getElem?_append_left hi] at he
      rw [upd_n _ _ (by omega), upd_n _ _ (by omega), upd_n _ _ (by omega)]
      exact h.2 i e he
    · rw [List.getElem?_append_right (by omega)] at he
      have hz : i - W.length < 1 := (List.getElem?_eq_some_iff.mp he).1
      have hi2 : i = w := by omega
      subst hi2
      rw [hw, Nat.sub_self] at he
      cases he
      rw [upd_s, upd_s, upd_s]
      exact ⟨rfl, rfl, rfl⟩
  · rw [gF_sF, if_neg j1, ← hc3, ← hc2, ← hc1]; rfl
  · rw [gA_sF, ← hc3, gA_sA, if_neg (by omega), ← hc2, gA_sA, if_neg (by omega), ← hc1, gA_sA, if_neg (by omega)]
/-- those from i on -/
def hiL (g : List Nat) (i : Nat) : List Nat := g.filter fun r => decide (i ≤ r)
theorem hiL_0 (g : List Nat) : hiL g 0 = g := by
  unfold hiL
  rw [List.filter_eq_self]
  simp
theorem hiL_all {R : Nat} {g : List Nat} (h : ∀ r, r ∈ g → r < R) : hiL g R = [] := by
  unfold hiL
  rw [List.filter_eq_nil_iff]
  intro r hr
  have := h r hr
  simp
  omega
theorem hiL_out {g : List Nat} {i : Nat} (h : i ∉ g) : hiL g i = hiL g (i + 1) := by
  unfold hiL
  apply List.filter_congr
  intro r hr
  have : r ≠ i := fun z => h (z ▸ hr)
  exact decide_eq_decide.mpr (by omega)
theorem hiL_in {i : Nat} : ∀ {g : List Nat}, g.Pairwise (fun a b => a < b) → i ∈ g → hiL g i = i :: hiL g (i + 1) := by
  intro g
  induction g with
  | nil => intro _ h; cases h
  | cons x l ih =>
    intro hp hi
    have hx : ∀ {b : Nat}, b ∈ l → x < b := fun hb => List.rel_of_pairwise_cons hp hb
    rcases List.mem_cons.mp hi with e | e
    · subst e
      have h1 : hiL l i = hiL l (i + 1) := hiL_out (fun z => by have := hx z; omega)
      unfold hiL at h1 ⊢
      rw [List.filter_cons_of_pos (by simp), List.filter_cons_of_neg (by simp), h1]
    · have h3 := hx e
      have h4 := ih (List.Pairwise.of_cons hp) e
      unfold hiL at h4 ⊢
      rw [List.filter_cons_of_neg (by simp; omega), List.filter_cons_of_neg (by simp; omega), h4]
theorem hiL_len (g : List Nat) (i : Nat) : (hiL g i).length ≤ g.length := List.length_filter_le _ _
theorem hiL_mem {g : List Nat} {i r : Nat} (h : r ∈ hiL g i) : r ∈ g := (List.mem_filter.mp h).1
theorem mk_one (r : Nat) : mk [r] = 1 <<< (nI r &&& 31) := by
  show (0 : Int32) ||| _ = _
  exact Int32.zero_or
theorem each_loop {R : Nat} {g : List Nat} (hG : GS R g) {W : Wt} {dep : Nat} (hW : W.length + g.length ≤ 24) :
    ∀ (k w : Nat) (c : St), k ≤ R → k < w → WtC (W ++ (hiL g k).reverse.map fun r => ([r], -1, dep + 1)) c → ∃ c', F_X1_partEach_10 w (mk g) (nI dep) (hI k) c = some (0, c') ∧ WtC (W ++ g.reverse.map fun r => ([r], -1, dep + 1)) c' ∧ FrW c c' := by
  have hR := hG.1
  intro k
  induction k with
  | zero =>
    intro w c hk hw h
    obtain ⟨w, rfl⟩ : ∃ z, w = z + 1 := ⟨w - 1, by omega⟩
    rw [hiL_0] at h
    rw [F_X1_partEach_10, if_pos hI_neg0]
    exact ⟨c, rfl, h, FrW.refl c⟩
  | succ k ih =>
    intro w c hk hw h
    obtain ⟨w, rfl⟩ : ∃ z, w = z + 1 := ⟨w - 1, by omega⟩
    rw [F_X1_partEach_10, hI_s, if_neg (nI_pos (by omega)), has_mk hG.lt (by omega), bo_s]
    by_cases hm : k ∈ g
    · have hin := hiL_in hG.2.1 hm
      have hl := hiL_len g k
      rw [hin] at hl
      rw [decide_eq_true hm, if_neg (show ¬ bI true = 0 by decide), ← mk_one, nI_1]
      obtain ⟨c1, e1, e2, e3⟩ := await_eq h (by
        rw [List.length_append, List.length_map, List.length_reverse]
        rw [List.length_cons] at hl
        omega) [k] (-1) (dep + 1)
      rw [e1, bo_s, F_X1_partEach_33, ← hI_s k, hI_m1]
      obtain ⟨c', r1, r2, r3⟩ := ih w c1 (by omega) (by omega) (by
        rw [hin, List.reverse_cons, List.map_append, ← List.append_assoc]
        exact e2)
      exact ⟨c', r1, r2, e3.trans r3⟩
    · rw [decide_eq_false hm, if_pos (show bI false = 0 by decide), F_X1_partEach_33, ← hI_s k, hI_m1]
      exact ih w c (by omega) (by omega) (by rw [hiL_out hm]; exact h)
/-! runs, from the last rule on -/
theorem runs_fuel (f : Nat → Bool) : ∀ (n m : Nat) (g : List Nat), g.length ≤ n → g.length ≤ m → runs f n g = runs f m g := by
  intro n
  induction n with
  | zero =>
    intro m g h1 h2
    have : g = [] := List.eq_nil_of_length_eq_zero (by omega)
    subst this
    cases m <;> rfl
  | succ n ih =>
    intro m g h1 h2
    cases m with
    | zero =>
      have : g = [] := List.eq_nil_of_length_eq_zero (by omega)
      subst this
      rfl
    | succ m =>
      rw [runs, runs]
      by_cases hg : g.isEmpty = true
      · rw [if_pos hg, if_pos hg]
      · rw [if_neg hg, if_neg hg]
        have hg0 : 0 < g.length := by
          cases g with
          | nil => exact absurd rfl hg
          | cons x l => simp
        have hp := preR_pos (f := f) hg0
        have hd : (g.drop (preR f g).length).length = g.length - (preR f g).length := List.length_drop
        rw [ih m (g.drop (preR f g).length) (by omega) (by omega)]
theorem runs_one (f : Nat → Bool) (x : Nat) : runs f 1 [x] = [[x]] := by
  rw [runs, if_neg (by simp)]
  have : preR f [x] = [x] := by
    unfold preR
    rw [show nth [x] 0 = x from rfl, List.takeWhile_cons_of_pos (by simp), List.takeWhile_nil]
  rw [this]
  rfl
theorem runs_same {f : Nat → Bool} {x : Nat} {l r1 : List Nat} {rest : List (List Nat)} (hl : 0 < l.length) (hx : f x = f (nth l 0)) (h : runs f l.length l = r1 :: rest) : runs f (x :: l).length (x :: l) = (x :: r1) :: rest := by
  obtain ⟨n, hn⟩ : ∃ n, l.length = n + 1 := ⟨l.length - 1, by omega⟩
  have hne : ¬ l.isEmpty = true := by
    intro z
    rw [List.isEmpty_iff.mp z] at hl
    exact absurd hl (by simp)
  rw [hn, runs, if_neg hne] at h
  have e1 : preR f (x :: l) = x :: preR f l := by
    unfold preR
    rw [show nth (x :: l) 0 = x from rfl, List.takeWhile_cons_of_pos (by simp), hx]
  rw [List.length_cons, runs, if_neg (by simp), e1, List.length_cons, List.drop_succ_cons]
  have e2 : runs f l.length (l.drop (preR f l).length) = runs f n (l.drop (preR f l).length) := by
    have hp := preR_pos (f := f) hl
    have hd : (l.drop (preR f l).length).length = l.length - (preR f l).length := List.length_drop
    exact runs_fuel f _ _ _ (by omega) (by omega)
  rw [e2]
  injection h with h1 h2
  rw [h2, h1]
theorem runs_diff {f : Nat → Bool} {x : Nat} {l : List Nat} (hl : 0 < l.length) (hx : f x ≠ f (nth l 0)) : runs f (x :: l).length (x :: l) = [x] :: runs f l.length l := by
  have e1 : preR f (x :: l) = [x] := by
    unfold preR
    rw [show nth (x :: l) 0 = x from rfl, List.takeWhile_cons_of_pos (by simp)]
    cases l with
    | nil => simp at hl
    | cons y l =>
      have hy : f x ≠ f y := hx
      rw [List.takeWhile_cons_of_neg (by simpa using fun z => hy z.symm)]
  rw [List.length_cons, runs, if_neg (by simp), e1]
  rfl
theorem need_part {R : Nat} {g ng : List Nat} (hG : GS R g) (hng : ∀ r, r ∈ ng → r < 24) {f : Nat → Bool} (hf : ∀ r, r ∈ g → f r = decide (r ∈ ng)) {W : Wt} {dep : Nat} (hg0 : 0 < g.length) (hW : W.length + g.length ≤ 24) :
    ∀ (k w : Nat) (x4 x5 : Int32) (c : St), k ≤ R → k < w → ((hiL g k = [] ∧ x4 = 0 ∧ WtC W c) ∨ (∃ r1 rest, runs f (hiL g k).length (hiL g k) = r1 :: rest ∧ 0 < r1.length ∧ r1.length + rest.length ≤ (hiL g k).length ∧ (∀ r, r ∈ r1 → r ∈ g) ∧ x4 = mk r1 ∧ x5 = bI (f (nth (hiL g k) 0)) ∧ WtC (W ++ rest.reverse.map fun l => (l, -1, dep + 1)) c)) →
      ∃ c', F_X1_partByNeed_17 w (mk g) (mk ng) (nI dep) x4 x5 (hI k) c = some (0, c') ∧ WtC (W ++ (runs f g.length g).reverse.map fun l => (l, -1, dep + 1)) c' ∧ FrW c c' := by
  have hR := hG.1
  intro k
  induction k with
  | zero =>
    intro w x4 x5 c hk hw h
    obtain ⟨w, rfl⟩ : ∃ z, w = z + 1 := ⟨w - 1, by omega⟩
    rw [hiL_0] at h
    rw [F_X1_partByNeed_17, if_pos hI_neg0, F_X1_partByNeed_86, nI_1]
    rcases h with ⟨h, -⟩ | ⟨r1, rest, h1, h2, h3, h4, h5, h6, h7⟩
    · rw [h] at hg0; exact absurd hg0 (by simp)
    · rw [h5]
      obtain ⟨c1, e1, e2, e3⟩ := await_eq h7 (by
        rw [List.length_append, List.length_map, List.length_reverse]
        omega) r1 (-1) (dep + 1)
      rw [e1, bo_s]
      refine ⟨c1, rfl, ?_, e3⟩
      rw [h1, List.reverse_cons, List.map_append, ← List.append_assoc]
      exact e2
  | succ k ih =>
    intro w x4 x5 c hk hw h
    obtain ⟨w, rfl⟩ : ∃ z, w = z + 1 := ⟨w - 1, by omega⟩
    rw [F_X1_partByNeed_17, hI_s, if_neg (nI_pos (by omega)), has_mk hG.lt (by omega), bo_s]
    by_cases hm : k ∈ g
    · have hin := hiL_in hG.2.1 hm
      have hl := hiL_len g k
      rw [hin, List.length_cons] at hl
      rw [decide_eq_true hm, if_neg (show ¬ bI true = 0 by decide)]
      -- the step of 63
      have h63 : ∀ (x c1), (∃ r1 rest, runs f (hiL g k).length (hiL g k) = r1 :: rest ∧ 0 < r1.length ∧ r1.length + rest.length ≤ (hiL g k).length ∧ (∀ r, r ∈ r1 → r ∈ g) ∧ x ||| (1 <<< (nI k &&& 31)) = mk r1 ∧ WtC (W ++ rest.reverse.map fun l => (l, -1, dep + 1)) c1) → FrW c c1 → ∃ c', F_X1_partByNeed_63 (F_X1_partByNeed_17 w) (mk g) (mk ng) (nI dep) x (nI k) c1 = some (0, c') ∧ WtC (W ++ (runs f g.length g).reverse.map fun l => (l, -1, dep + 1)) c' ∧ FrW c c' := by
        intro x c1 h1 hF
        obtain ⟨r1, rest, k1, k2, k3, k4, k5, k6⟩ := h1
        rw [F_X1_partByNeed_63, bd_r, has_mk hng (by omega), bo_s, F_X1_partByNeed_80, k5, ← hI_s k, hI_m1]
        obtain ⟨c', q1, q2, q3⟩ := ih w (mk r1) (bI (decide (k ∈ ng))) c1 (by omega) (by omega) (Or.inr ⟨r1, rest, k1, k2, k3, k4, rfl, by rw [hin, show nth (k :: hiL g (k + 1)) 0 = k from rfl, hf k hm], k6⟩)
        exact ⟨c', q1, q2, hF.trans q3⟩
      rcases h with ⟨h1, h2, h3⟩ | ⟨r1, rest, h1, h2, h3, h4, h5, h6, h7⟩
      · rw [h2, if_pos rfl]
        refine h63 0 c ⟨[k], [], ?_, by simp, by rw [hin]; simp, fun r hr => by rw [List.mem_singleton.mp hr]; exact hm, (by rfl), by simpa using h3⟩ (FrW.refl c)
        rw [hin, h1]
        exact runs_one f k
      · have hl1 : 0 < (hiL g (k + 1)).length := by omega
        have hx40 : ¬ x4 = 0 := by
          intro z
          obtain ⟨r, hr⟩ := List.exists_mem_of_length_pos h2
          have hb := bt_mk r1 (fun r hr => hG.lt r (h4 r hr)) r (by have := hG.lt r (h4 r hr); omega)
          rw [← h5, z, bt_0, decide_eq_true hr] at hb
          cases hb
        rw [if_neg hx40, has_mk hng (by omega), bo_s, h6, ← hf k hm]
        by_cases hq : f k = f (nth (hiL g (k + 1)) 0)
        · rw [if_pos (by rw [hq])]
          refine h63 x4 c ⟨k :: r1, rest, ?_, by simp, by rw [hin, List.length_cons, List.length_cons]; omega, fun r hr => ?_, by rw [h5]; rfl, h7⟩ (FrW.refl c)
          · rw [hin]; exact runs_same hl1 hq h1
          · rcases List.mem_cons.mp hr with z | z
            · rw [z]; exact hm
            · exact h4 r z
        · rw [if_neg (fun z => hq ((bI_eq _ _).mp z)), h5, nI_1]
          obtain ⟨c1, e1, e2, e3⟩ := await_eq h7 (by
            rw [List.length_append, List.length_map, List.length_reverse]
            omega) r1 (-1) (dep + 1)
          rw [e1, bo_s]
          refine h63 0 c1 ⟨[k], r1 :: rest, ?_, by simp, by rw [hin]; simp; omega, fun r hr => by rw [List.mem_singleton.mp hr]; exact hm, (by rfl), ?_⟩ e3
          · rw [hin, runs_diff hl1 hq, h1]
          · rw [List.reverse_cons, List.map_append, ← List.append_assoc]
            exact e2
    · rw [decide_eq_false hm, if_pos (show bI false = 0 by decide), F_X1_partByNeed_80, ← hI_s k, hI_m1]
      exact ih w x4 x5 c (by omega) (by omega) (by rw [hiL_out hm]; exact h)
