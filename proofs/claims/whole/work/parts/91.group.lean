/-! groups in the class: loops over the rules that a mask has -/
def GS (R : Nat) (g : List Nat) : Prop := R ≤ 24 ∧ g.Pairwise (fun a b => a < b) ∧ ∀ r, r ∈ g → r < R
theorem GS.lt {R : Nat} {g : List Nat} (h : GS R g) : ∀ r, r ∈ g → r < 24 := fun r hr => by have := h.2.2 r hr; have := h.1; omega
theorem GS.sub {R : Nat} {g l : List Nat} (h : GS R g) (hl : l.Sublist g) : GS R l := ⟨h.1, h.2.1.sublist hl, fun r hr => h.2.2 r (hl.subset hr)⟩
/-- those below i -/
def lo (g : List Nat) (i : Nat) : List Nat := g.filter fun r => decide (r < i)
theorem lo_0 (g : List Nat) : lo g 0 = [] := by
  unfold lo
  rw [List.filter_eq_nil_iff]
  simp
theorem lo_all {R : Nat} {g : List Nat} (h : ∀ r, r ∈ g → r < R) : lo g R = g := by
  unfold lo
  rw [List.filter_eq_self]
  intro r hr
  exact decide_eq_true (h r hr)
theorem lo_out {g : List Nat} {i : Nat} (h : i ∉ g) : lo g (i + 1) = lo g i := by
  unfold lo
  apply List.filter_congr
  intro r hr
  have : r ≠ i := fun z => h (z ▸ hr)
  exact decide_eq_decide.mpr (by omega)
theorem lo_in {i : Nat} : ∀ {g : List Nat}, g.Pairwise (fun a b => a < b) → i ∈ g → lo g (i + 1) = lo g i ++ [i] := by
  intro g
  induction g with
  | nil => intro _ h; cases h
  | cons x l ih =>
    intro hp hi
    have hx : ∀ {b : Nat}, b ∈ l → x < b := fun hb => List.rel_of_pairwise_cons hp hb
    rcases List.mem_cons.mp hi with e | e
    · subst e
      have h1 : lo l (i + 1) = [] := by
        unfold lo
        rw [List.filter_eq_nil_iff]
        intro r hr
        have := hx hr
        simp
        omega
      have h2 : lo l i = [] := by
        unfold lo
        rw [List.filter_eq_nil_iff]
        intro r hr
        have := hx hr
        simp
        omega
      unfold lo at h1 h2 ⊢
      rw [List.filter_cons_of_pos (by simp), List.filter_cons_of_neg (by simp), h1, h2]
      rfl
    · have h3 := hx e
      have h4 := ih (List.Pairwise.of_cons hp) e
      unfold lo at h4 ⊢
      rw [List.filter_cons_of_pos (by simp; omega), List.filter_cons_of_pos (by simp; omega), h4]
      rfl
theorem lo_mem {g : List Nat} {i r : Nat} : r ∈ lo g i ↔ r ∈ g ∧ r < i := by
  unfold lo
  rw [List.mem_filter, decide_eq_true_eq]
/-- a row in which the places of a group have new values, those below i -/
def cu (f : Nat → Int32) (g : List Nat) (v : Nat → Int32) (i : Nat) : Nat → Int32 := fun r => if r ∈ g ∧ r < i then v r else f r
theorem cu_0 (f : Nat → Int32) (g : List Nat) (v : Nat → Int32) : cu f g v 0 = f := by
  funext r
  exact if_neg (fun z => absurd z.2 (Nat.not_lt_zero r))
theorem cu_in {f : Nat → Int32} {g : List Nat} {v : Nat → Int32} {i : Nat} (h : i ∈ g) : upd (cu f g v i) i (v i) = cu f g v (i + 1) := by
  funext r
  unfold upd cu
  by_cases hr : r = i
  · rw [if_pos hr, if_pos ⟨hr ▸ h, by omega⟩, hr]
  · rw [if_neg hr]
    by_cases h2 : r ∈ g ∧ r < i
    · rw [if_pos h2, if_pos ⟨h2.1, by omega⟩]
    · rw [if_neg h2, if_neg (fun z => h2 ⟨z.1, by omega⟩)]
theorem cu_out {f : Nat → Int32} {g : List Nat} {v : Nat → Int32} {i : Nat} (h : i ∉ g) : cu f g v (i + 1) = cu f g v i := by
  funext r
  unfold cu
  by_cases h2 : r ∈ g ∧ r < i
  · rw [if_pos h2, if_pos ⟨h2.1, by omega⟩]
  · rw [if_neg h2, if_neg (fun z => h2 ⟨z.1, by
      by_cases hri : r = i
      · exact absurd (hri ▸ z.1) h
      · omega⟩)]
theorem cu_at {f : Nat → Int32} {g : List Nat} {v : Nat → Int32} {i : Nat} : cu f g v i i = f i := if_neg (fun z => absurd z.2 (Nat.lt_irrefl i))
theorem cu_g {f : Nat → Int32} {g : List Nat} {v : Nat → Int32} {R r : Nat} (h : r ∈ g) (hr : r < R) : cu f g v R r = v r := if_pos ⟨h, hr⟩
theorem cu_n {f : Nat → Int32} {g : List Nat} {v : Nat → Int32} {R r : Nat} (h : r ∉ g) : cu f g v R r = f r := if_neg (fun z => h z.1)
theorem start_loop {R : Nat} {g : List Nat} (hG : GS R g) {bs : Nat → Nat} {c : St} (h8 : gF c 8 = nI R) (h17 : ∀ r, r ≤ R → gA c 17 r = nI (bs r)) :
    ∀ (d w i : Nat), i + d = R → d < w → F_X1_startCursors_2 w (mk g) (nI i) (sA c 32 (cu (gA c 32) g (fun r => nI (bs r)) i)) = some (0, sA c 32 (cu (gA c 32) g (fun r => nI (bs r)) R)) := by
  have hR := hG.1
  intro d
  induction d with
  | zero =>
    intro w i hi hw
    obtain ⟨w, rfl⟩ : ∃ z, w = z + 1 := ⟨w - 1, by omega⟩
    rw [F_X1_startCursors_2, gF_sA, h8, if_pos (nI_le (by omega) (by omega)), show i = R by omega]
  | succ d ih =>
    intro w i hi hw
    obtain ⟨w, rfl⟩ : ∃ z, w = z + 1 := ⟨w - 1, by omega⟩
    rw [F_X1_startCursors_2, gF_sA, h8, if_neg (nI_ge (by omega) (by omega)), has_mk hG.lt (by omega), bo_s]
    by_cases h : i ∈ g
    · rw [decide_eq_true h, if_neg (show ¬ bI true = 0 by decide), F_X3_start, gA_sA, if_neg (by omega), rd_in _ (by omega) (by omega), h17 i (by omega), bd_r, bo_s, gA_sA_s, wr_in _ _ (by omega) (by omega), cu_in (v := fun r => nI (bs r)) h, sA_sA, bd_r, F_X1_startCursors_37, nI_1]
      exact ih w (i + 1) (by omega) (by omega)
    · rw [decide_eq_false h, if_pos (show bI false = 0 by decide), F_X1_startCursors_37, nI_1, ← cu_out (v := fun r => nI (bs r)) h]
      exact ih w (i + 1) (by omega) (by omega)
theorem enter_loop {R : Nat} {g : List Nat} (hG : GS R g) {c : St} (h8 : gF c 8 = nI R) :
    ∀ (d w i : Nat), i + d = R → d < w → F_X1_enter_2 w (mk g) (nI i) (sA c 32 (cu (gA c 32) g (fun r => gA c 32 r + 1) i)) = some (0, sA c 32 (cu (gA c 32) g (fun r => gA c 32 r + 1) R)) := by
  have hR := hG.1
  intro d
  induction d with
  | zero =>
    intro w i hi hw
    obtain ⟨w, rfl⟩ : ∃ z, w = z + 1 := ⟨w - 1, by omega⟩
    rw [F_X1_enter_2, gF_sA, h8, if_pos (nI_le (by omega) (by omega)), show i = R by omega]
  | succ d ih =>
    intro w i hi hw
    obtain ⟨w, rfl⟩ : ∃ z, w = z + 1 := ⟨w - 1, by omega⟩
    rw [F_X1_enter_2, gF_sA, h8, if_neg (nI_ge (by omega) (by omega)), has_mk hG.lt (by omega), bo_s]
    by_cases h : i ∈ g
    · rw [decide_eq_true h, if_neg (show ¬ bI true = 0 by decide), gA_sA_s, rd_in _ (by omega) (by omega), cu_at, bd_r, wr_in _ _ (by omega) (by omega), cu_in (v := fun r => gA c 32 r + 1) h, sA_sA, bd_r, F_X1_enter_39, nI_1]
      exact ih w (i + 1) (by omega) (by omega)
    · rw [decide_eq_false h, if_pos (show bI false = 0 by decide), F_X1_enter_39, nI_1, ← cu_out (v := fun r => gA c 32 r + 1) h]
      exact ih w (i + 1) (by omega) (by omega)
theorem pass_loop {R : Nat} {g : List Nat} (hG : GS R g) {c : St} (h8 : gF c 8 = nI R) :
    ∀ (d w i : Nat), i + d = R → d < w → F_X1_pass_2 w (mk g) (nI i) (sA c 32 (cu (gA c 32) g (fun r => rd 512 (gA c 21) (gA c 32 r)) i)) = some (0, sA c 32 (cu (gA c 32) g (fun r => rd 512 (gA c 21) (gA c 32 r)) R)) := by
  have hR := hG.1
  intro d
  induction d with
  | zero =>
    intro w i hi hw
    obtain ⟨w, rfl⟩ : ∃ z, w = z + 1 := ⟨w - 1, by omega⟩
    rw [F_X1_pass_2, gF_sA, h8, if_pos (nI_le (by omega) (by omega)), show i = R by omega]
  | succ d ih =>
    intro w i hi hw
    obtain ⟨w, rfl⟩ : ∃ z, w = z + 1 := ⟨w - 1, by omega⟩
    rw [F_X1_pass_2, gF_sA, h8, if_neg (nI_ge (by omega) (by omega)), has_mk hG.lt (by omega), bo_s]
    by_cases h : i ∈ g
    · rw [decide_eq_true h, if_neg (show ¬ bI true = 0 by decide), gA_sA_s, rd_in _ (by omega) (by omega), cu_at, bd_r, gA_sA, if_neg (by omega), bd_r, wr_in _ _ (by omega) (by omega), cu_in (v := fun r => rd 512 (gA c 21) (gA c 32 r)) h, sA_sA, bd_r, F_X1_pass_47, nI_1]
      exact ih w (i + 1) (by omega) (by omega)
    · rw [decide_eq_false h, if_pos (show bI false = 0 by decide), F_X1_pass_47, nI_1, ← cu_out (v := fun r => rd 512 (gA c 21) (gA c 32 r)) h]
      exact ih w (i + 1) (by omega) (by omega)
/-- where the cursors of a group stand -/
def CrC (bs : Nat → Nat) (g : List Nat) (p : Nat → Nat) (c : St) : Prop := ∀ r, r ∈ g → gA c 32 r = nI (bs r + p r)
theorem lo_filter (g : List Nat) (f : Nat → Bool) (i : Nat) : lo (g.filter f) i = (lo g i).filter f := by
  unfold lo
  rw [List.filter_filter, List.filter_filter]
  apply List.filter_congr
  intro r _
  rw [Bool.and_comm]
theorem need_loop {R : Nat} {g : List Nat} (hG : GS R g) {ln bs : Nat → Nat} {sy : Nat → Nat → Int32} {en uc pc : Nat → Nat → Nat} {p : Nat → Nat} {c : St} (hB : BsW R ln bs) (hR : RlC R ln bs sy en uc pc c) (hC : CrC bs g p c) (hp : ∀ r, r ∈ g → p r < ln r) :
    ∀ (d w i : Nat), i + d = R → d < w → F_X1_needing_4 w (mk g) (mk (lo (g.filter fun r => decide (0 ≤ sy r (p r))) i)) (nI i) c = some (mk (g.filter fun r => decide (0 ≤ sy r (p r))), c) := by
  have hR24 := hG.1
  have hb512 := hB.2.2.2
  intro d
  induction d with
  | zero =>
    intro w i hi hw
    obtain ⟨w, rfl⟩ : ∃ z, w = z + 1 := ⟨w - 1, by omega⟩
    rw [F_X1_needing_4, hR.1, if_pos (nI_le (by omega) (by omega)), show i = R by omega, lo_all (fun r hr => hG.2.2 r (List.mem_filter.mp hr).1)]
  | succ d ih =>
    intro w i hi hw
    obtain ⟨w, rfl⟩ : ∃ z, w = z + 1 := ⟨w - 1, by omega⟩
    rw [F_X1_needing_4, hR.1, if_neg (nI_ge (by omega) (by omega)), has_mk hG.lt (by omega), bo_s]
    by_cases h : i ∈ g
    · have hlt := hB.lt (show i < R by omega) (hp i h)
      rw [decide_eq_true h, if_neg (show ¬ bI true = 0 by decide), rd_in _ (by omega) (by omega), hC i h, bd_r, F_X3_isVariable, rd_in _ (by omega) (by omega), (hR.2.2 i (by omega) (p i) (hp i h)).1, bd_r]
      by_cases hs : 0 ≤ sy i (p i)
      · have hm : i ∈ g.filter fun r => decide (0 ≤ sy r (p r)) := List.mem_filter.mpr ⟨h, decide_eq_true hs⟩
        rw [if_pos hs, ck_0, bo_s, if_pos rfl, mk_or (fun r hr => hG.lt r (List.mem_filter.mp (lo_mem.mp hr).1).1) (by omega), bd_r, F_X1_needing_47, nI_1, ← lo_in (hG.2.1.sublist List.filter_sublist) hm]
        exact ih w (i + 1) (by omega) (by omega)
      · have hm : i ∉ g.filter fun r => decide (0 ≤ sy r (p r)) := fun z => hs (of_decide_eq_true (List.mem_filter.mp z).2)
        rw [if_neg hs, ck_1, bo_s, if_neg (by decide), F_X1_needing_47, nI_1, ← lo_out hm]
        exact ih w (i + 1) (by omega) (by omega)
    · have hm : i ∉ g.filter fun r => decide (0 ≤ sy r (p r)) := fun z => h (List.mem_filter.mp z).1
      rw [decide_eq_false h, if_pos (show bI false = 0 by decide), F_X1_needing_47, nI_1, ← lo_out hm]
      exact ih w (i + 1) (by omega) (by omega)
theorem having_loop {R : Nat} {g : List Nat} (hG : GS R g) {ln bs : Nat → Nat} {sy : Nat → Nat → Int32} {en uc pc : Nat → Nat → Nat} {p : Nat → Nat} {c : St} (hB : BsW R ln bs) (hR : RlC R ln bs sy en uc pc c) (hC : CrC bs g p c) (hp : ∀ r, r ∈ g → p r < ln r) (k : Int32) :
    ∀ (d w i : Nat), i + d = R → d < w → F_X1_having_5 w (mk g) k (mk (lo (g.filter fun r => decide (sy r (p r) = k)) i)) (nI i) c = some (mk (g.filter fun r => decide (sy r (p r) = k)), c) := by
  have hR24 := hG.1
  have hb512 := hB.2.2.2
  intro d
  induction d with
  | zero =>
    intro w i hi hw
    obtain ⟨w, rfl⟩ : ∃ z, w = z + 1 := ⟨w - 1, by omega⟩
    rw [F_X1_having_5, hR.1, if_pos (nI_le (by omega) (by omega)), show i = R by omega, lo_all (fun r hr => hG.2.2 r (List.mem_filter.mp hr).1)]
  | succ d ih =>
    intro w i hi hw
    obtain ⟨w, rfl⟩ : ∃ z, w = z + 1 := ⟨w - 1, by omega⟩
    rw [F_X1_having_5, hR.1, if_neg (nI_ge (by omega) (by omega)), has_mk hG.lt (by omega), bo_s]
    by_cases h : i ∈ g
    · have hlt := hB.lt (show i < R by omega) (hp i h)
      rw [decide_eq_true h, if_neg (show ¬ bI true = 0 by decide), rd_in _ (by omega) (by omega), hC i h, bd_r, rd_in _ (by omega) (by omega), (hR.2.2 i (by omega) (p i) (hp i h)).1, bd_r]
      by_cases hs : sy i (p i) = k
      · have hm : i ∈ g.filter fun r => decide (sy r (p r) = k) := List.mem_filter.mpr ⟨h, decide_eq_true hs⟩
        rw [if_pos hs, mk_or (fun r hr => hG.lt r (List.mem_filter.mp (lo_mem.mp hr).1).1) (by omega), bd_r, F_X1_having_56, nI_1, ← lo_in (hG.2.1.sublist List.filter_sublist) hm]
        exact ih w (i + 1) (by omega) (by omega)
      · have hm : i ∉ g.filter fun r => decide (sy r (p r) = k) := fun z => hs (of_decide_eq_true (List.mem_filter.mp z).2)
        rw [if_neg hs, F_X1_having_56, nI_1, ← lo_out hm]
        exact ih w (i + 1) (by omega) (by omega)
    · have hm : i ∉ g.filter fun r => decide (sy r (p r) = k) := fun z => h (List.mem_filter.mp z).1
      rw [decide_eq_false h, if_pos (show bI false = 0 by decide), F_X1_having_56, nI_1, ← lo_out hm]
      exact ih w (i + 1) (by omega) (by omega)
/-- the largest of some numbers, and one more -/
def mx1 (k : Nat → Nat) (l : List Nat) : Nat := l.foldr (fun r a => max (k r + 1) a) 0
theorem mx1_app (k : Nat → Nat) (l : List Nat) (r : Nat) : mx1 k (l ++ [r]) = max (mx1 k l) (k r + 1) := by
  induction l with
  | nil => simp [mx1]
  | cons x l ih =>
    unfold mx1 at ih ⊢
    rw [List.cons_append, List.foldr_cons, List.foldr_cons, ih]
    omega
theorem mx1_mem {k : Nat → Nat} {l : List Nat} : (∀ r, r ∈ l → k r + 1 ≤ mx1 k l) ∧ (l ≠ [] → ∃ r, r ∈ l ∧ mx1 k l = k r + 1) := by
  induction l with
  | nil => exact ⟨fun r h => by simp at h, fun h => absurd rfl h⟩
  | cons x l ih =>
    have e : mx1 k (x :: l) = max (k x + 1) (mx1 k l) := rfl
    rw [e]
    refine ⟨fun r h => ?_, fun _ => ?_⟩
    · rcases List.mem_cons.mp h with q | q
      · rw [q]; omega
      · have := ih.1 r q; omega
    · by_cases hl : l = []
      · subst hl
        exact ⟨x, List.mem_cons_self, by simp [mx1]⟩
      · obtain ⟨r, h1, h2⟩ := ih.2 hl
        by_cases hx : mx1 k l ≤ k x + 1
        · exact ⟨x, List.mem_cons_self, by omega⟩
        · exact ⟨r, List.mem_cons_of_mem _ h1, by omega⟩
theorem hI_max {a b : Nat} (ha : a < 100) (hb : b < 100) : (if hI a < nI b then nI b else hI a) = hI (max a (b + 1)) := by
  cases a with
  | zero =>
    rw [if_pos (show hI 0 < nI b from Int32.lt_of_lt_of_le hI_neg0 (nI_pos' (by omega))), show max 0 (b + 1) = b + 1 by omega, hI_s]
  | succ a =>
    rw [hI_s]
    by_cases h : a < b
    · rw [if_pos (nI_lt h (by omega)), show max (a + 1) (b + 1) = b + 1 by omega, hI_s]
    · rw [if_neg (nI_nlt (by omega) (by omega)), show max (a + 1) (b + 1) = a + 1 by omega, hI_s]
theorem last_loop {R : Nat} {g : List Nat} (hG : GS R g) {ln bs : Nat → Nat} {sy : Nat → Nat → Int32} {en uc pc : Nat → Nat → Nat} {p k : Nat → Nat} {c : St} (hB : BsW R ln bs) (hR : RlC R ln bs sy en uc pc c) (hC : CrC bs g p c) (hp : ∀ r, r ∈ g → p r < ln r ∧ sy r (p r) = nI (k r) ∧ k r < 60) :
    ∀ (d w i : Nat), i + d = R → d < w → F_X1_lastConstructor_4 w (mk g) (hI (mx1 k (lo g i))) (nI i) c = some (hI (mx1 k g), c) := by
  have hR24 := hG.1
  have hb512 := hB.2.2.2
  intro d
  induction d with
  | zero =>
    intro w i hi hw
    obtain ⟨w, rfl⟩ : ∃ z, w = z + 1 := ⟨w - 1, by omega⟩
    rw [F_X1_lastConstructor_4, hR.1, if_pos (nI_le (by omega) (by omega)), show i = R by omega, lo_all hG.2.2]
  | succ d ih =>
    intro w i hi hw
    obtain ⟨w, rfl⟩ : ∃ z, w = z + 1 := ⟨w - 1, by omega⟩
    rw [F_X1_lastConstructor_4, hR.1, if_neg (nI_ge (by omega) (by omega)), has_mk hG.lt (by omega), bo_s]
    by_cases h : i ∈ g
    · obtain ⟨hp1, hp2, hp3⟩ := hp i h
      have hlt := hB.lt (show i < R by omega) hp1
      have hmx : mx1 k (lo g i) < 100 := by
        by_cases hl : lo g i = []
        · rw [hl]; show (0 : Nat) < 100; omega
        · obtain ⟨r, h1, h2⟩ := (mx1_mem (k := k)).2 hl
          have := (hp r (lo_mem.mp h1).1).2.2
          omega
      rw [decide_eq_true h, if_neg (show ¬ bI true = 0 by decide), rd_in _ (by omega) (by omega), hC i h, bd_r, rd_in _ (by omega) (by omega), (hR.2.2 i (by omega) (p i) hp1).1, bd_r, hp2, hI_max hmx (by omega), bd_r, ← mx1_app, ← lo_in hG.2.1 h, F_X1_lastConstructor_46, nI_1]
      exact ih w (i + 1) (by omega) (by omega)
    · rw [decide_eq_false h, if_pos (show bI false = 0 by decide), F_X1_lastConstructor_46, nI_1, ← lo_out h]
      exact ih w (i + 1) (by omega) (by omega)
theorem mark_loop {R : Nat} {g : List Nat} (hG : GS R g) {ln bs : Nat → Nat} {p : Nat → Nat} {dep : Nat} (hB : BsW R ln bs) (hp : ∀ r, r ∈ g → p r < ln r) :
    ∀ (d w i : Nat) (c : St), i + d = R → d < w → gF c 8 = nI R → CrC bs g p c → ∃ c', F_X1_ask_59 w (mk g) (nI dep) (nI i) c = some (0, c') ∧ (∀ j, gF c' j = gF c j) ∧ (∀ j, j ≠ 22 → gA c' j = gA c j) ∧ (∀ r, r ∈ g → i ≤ r → gA c' 22 (bs r + p r) = nI dep) ∧ ∀ x, (∀ r, r ∈ g → i ≤ r → x ≠ bs r + p r) → gA c' 22 x = gA c 22 x := by
  have hR24 := hG.1
  have hb512 := hB.2.2.2
  intro d
  induction d with
  | zero =>
    intro w i c hi hw h8 hC
    obtain ⟨w, rfl⟩ : ∃ z, w = z + 1 := ⟨w - 1, by omega⟩
    rw [F_X1_ask_59, h8, if_pos (nI_le (by omega) (by omega))]
    exact ⟨c, rfl, fun _ => rfl, fun _ _ => rfl, fun r hr h => by have := hG.2.2 r hr; omega, fun _ _ => rfl⟩
  | succ d ih =>
    intro w i c hi hw h8 hC
    obtain ⟨w, rfl⟩ : ∃ z, w = z + 1 := ⟨w - 1, by omega⟩
    rw [F_X1_ask_59, h8, if_neg (nI_ge (by omega) (by omega)), has_mk hG.lt (by omega), bo_s]
    by_cases h : i ∈ g
    · have hlt := hB.lt (show i < R by omega) (hp i h)
      rw [decide_eq_true h, if_neg (show ¬ bI true = 0 by decide), rd_in _ (by omega) (by omega), hC i h, bd_r, wr_in _ _ (by omega) (by omega), bd_r, F_X1_ask_100, nI_1]
      obtain ⟨c1, hc1⟩ : ∃ c1, sA c 22 (upd (gA c 22) (bs i + p i) (nI dep)) = c1 := ⟨_, rfl⟩
      have a1 : ∀ j, j ≠ 22 → gA c1 j = gA c j := fun j j1 => by rw [← hc1, gA_sA, if_neg j1]
      have a22 : gA c1 22 = upd (gA c 22) (bs i + p i) (nI dep) := by rw [← hc1]; exact gA_sA_s _ _ _
      rw [hc1]
      obtain ⟨c', r1, r2, r3, r4, r5⟩ := ih w (i + 1) c1 (by omega) (by omega) (by rw [← hc1]; exact h8) (fun r hr => by rw [a1 32 (by omega)]; exact hC r hr)
      refine ⟨c', r1, fun j => by rw [r2, ← hc1]; rfl, fun j j1 => by rw [r3 j j1, a1 j j1], fun r hr hir => ?_, fun x hx => ?_⟩
      · by_cases hri : r = i
        · by_cases hall : ∀ r', r' ∈ g → i + 1 ≤ r' → bs r + p r ≠ bs r' + p r'
          · rw [r5 _ hall, a22, hri, upd_s]
          · rw [Classical.not_forall] at hall
            obtain ⟨r', hr'⟩ := hall
            rw [Classical.not_imp, Classical.not_imp] at hr'
            obtain ⟨k1, k2, k3⟩ := hr'
            have k4 : bs r + p r = bs r' + p r' := Classical.not_not.mp k3
            rw [k4]
            exact r4 r' k1 k2
        · exact r4 r hr (by omega)
      · rw [r5 x (fun r hr hir => hx r hr (by omega)), a22, upd_n _ _ (hx i h (Nat.le_refl _))]
    · rw [decide_eq_false h, if_pos (show bI false = 0 by decide), F_X1_ask_100, nI_1]
      obtain ⟨c', r1, r2, r3, r4, r5⟩ := ih w (i + 1) c (by omega) (by omega) h8 hC
      refine ⟨c', r1, r2, r3, fun r hr hir => r4 r hr ?_, fun x hx => r5 x (fun r hr hir => hx r hr (by omega))⟩
      by_cases hri : r = i
      · exact absurd (hri ▸ hr) h
      · omega
