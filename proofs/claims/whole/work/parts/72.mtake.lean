/-! runs of rules that need a spot, or don't -/
def ndB (sy : Nat → Nat → Int32) (op : Nat → List Nat) (s : Nat) (r : Nat) : Bool := decide (0 ≤ sy r (nth (op r) s))
/-- the longest row of rules from the first on that are like it -/
def preR (f : Nat → Bool) (g : List Nat) : List Nat := g.takeWhile fun r => f r == f (nth g 0)
def bI (b : Bool) : Int32 := if b = true then 1 else 0
theorem bI_eq (a b : Bool) : (bI a = bI b) ↔ a = b := by
  cases a <;> cases b <;> decide
theorem preR_take (f : Nat → Bool) : ∀ (g : List Nat) (v : Bool) (i : Nat), (∀ j, j < i → j < g.length → f (nth g j) = v) → i ≤ g.length → (i = g.length ∨ f (nth g i) ≠ v) → g.takeWhile (fun r => f r == v) = g.take i := by
  intro g
  induction g with
  | nil =>
    intro v i h1 h2 h3
    simp
  | cons x l ih =>
    intro v i h1 h2 h3
    cases i with
    | zero =>
      rcases h3 with h3 | h3
      · simp at h3
      · have h4 : f x ≠ v := h3
        rw [List.takeWhile_cons_of_neg (by simpa using h4), List.take_zero]
    | succ i =>
      have h4 : f x = v := h1 0 (by omega) (by simp)
      rw [List.takeWhile_cons_of_pos (by simpa using h4), List.take_succ_cons]
      congr 1
      refine ih v i (fun j h5 h6 => ?_) (by simpa using h2) ?_
      · exact h1 (j + 1) (by omega) (by simpa using h6)
      · rcases h3 with h3 | h3
        · exact Or.inl (by simpa using h3)
        · exact Or.inr h3
theorem run_loop {R : Nat} {ln : Nat → Nat} {sy : Nat → Nat → Int32} {en : Nat → Nat → Nat} {op : Nat → List Nat} {K s a E : Nat} {g : List Nat} {m : St} (h : RuM R ln sy en m) (ho : OpM R ln op K g m) (hs : s < K) (hg : seg (gA m 17) a g) (hE : a + g.length ≤ E) (hE2 : E + g.length ≤ 4800) (v : Bool) :
    ∀ (d n i : Nat), i + d = g.length → d < n → (∀ j, j < i → j < g.length → ndB sy op s (nth g j) = v) → F_X9_run_24 n (nI a) (nI g.length) (nI s) (bI v) (nI i) (sF (sA m 17 (put (gA m 17) E (g.take i))) 8 (nI (E + i))) = some (nI (g.takeWhile fun r => ndB sy op s r == v).length, sF (sA m 17 (put (gA m 17) E (g.takeWhile fun r => ndB sy op s r == v))) 8 (nI (E + (g.takeWhile fun r => ndB sy op s r == v).length))) := by
  intro d
  induction d with
  | zero =>
    intro n i hi hn hv
    obtain ⟨n, rfl⟩ : ∃ z, n = z + 1 := ⟨n - 1, by omega⟩
    have hp := preR_take (ndB sy op s) g v i hv (by omega) (Or.inl (by omega))
    rw [F_X9_run_24, if_pos (nI_le (by omega) (by omega)), hp, List.length_take, Nat.min_eq_left (by omega)]
  | succ d ih =>
    intro n i hi hn hv
    obtain ⟨n, rfl⟩ : ∃ z, n = z + 1 := ⟨n - 1, by omega⟩
    have hil : i < g.length := by omega
    obtain ⟨r, hr⟩ : ∃ r, nth g i = r := ⟨_, rfl⟩
    have hrm : r ∈ g := by
      rw [← hr, gD hil]
      exact List.getElem_mem hil
    have htl : (g.take i).length = i := by rw [List.length_take, Nat.min_eq_left (by omega)]
    have hrd : put (gA m 17) E (g.take i) (a + i) = nI r := by
      rw [put_out (by omega), hg i hil, hr]
    have htk : g.take (i + 1) = g.take i ++ [r] := by
      rw [List.take_succ_eq_append_getElem hil, ← hr, gD hil]
    have h' : RuM R ln sy en (sF (sA m 17 (put (gA m 17) E (g.take i))) 8 (nI (E + i))) := h
    have ho' : OpM R ln op K g (sF (sA m 17 (put (gA m 17) E (g.take i))) 8 (nI (E + i))) := ho
    have hz : F_X9_run_24 (n + 1) (nI a) (nI g.length) (nI s) (bI v) (nI i) (sF (sA m 17 (put (gA m 17) E (g.take i))) 8 (nI (E + i))) = F_X9_run_52 (F_X9_run_24 n) (nI a) (nI g.length) (nI s) (bI v) (nI i) (bI (ndB sy op s r)) (sF (sA m 17 (put (gA m 17) E (g.take i))) 8 (nI (E + i))) := by
      rw [F_X9_run_24, if_neg (nI_ge (by omega) (by omega)), nI_add, ck_in (by omega) (by omega), bd_r, nI_clamp (by omega), gA_sF, gA_sA_s, hrd, ho'.there h' hrm hs, bo_s]
      by_cases q : sy r (nth (op r) s) < 0
      · rw [if_pos q, show ndB sy op s r = false from decide_eq_false (Int32.not_le.mpr q)]
        rfl
      · rw [if_neg q, show ndB sy op s r = true from decide_eq_true (Int32.not_lt.mp q)]
        rfl
    rw [hz, F_X9_run_52]
    by_cases hc : ndB sy op s r = v
    · rw [if_pos ((bI_eq _ _).mpr hc), nI_add, ck_in (by omega) (by omega), bd_r, nI_clamp (by omega), gA_sF, gA_sA_s, hrd, gF_sF, if_pos rfl, ck_in (by omega) (by omega), bd_r, nI_clamp (by omega), bd_r]
      have h1 := put_snoc (gA m 17) E (g.take i) r
      rw [htl, ← htk] at h1
      rw [h1, sA_sF, sA_sA, gF_sF, if_pos rfl, sF_sF, nI_1, nI_1]
      exact ih n (i + 1) (by omega) (by omega) (fun j h5 h6 => by
        by_cases hj : j = i
        · rw [hj, hr]; exact hc
        · exact hv j (by omega) h6)
    · rw [if_neg (fun q => hc ((bI_eq _ _).mp q))]
      have hp := preR_take (ndB sy op s) g v i hv (by omega) (Or.inr (by rw [hr]; exact hc))
      rw [hp, htl]
theorem run_eq {R : Nat} {ln : Nat → Nat} {sy : Nat → Nat → Int32} {en : Nat → Nat → Nat} {op : Nat → List Nat} {K s a E : Nat} {g : List Nat} {m : St} (h : RuM R ln sy en m) (ho : OpM R ln op K g m) (hs : s < K) (hg : seg (gA m 17) a g) (hE : a + g.length ≤ E) (hE2 : E + g.length ≤ 4800) (he : gF m 8 = nI E) (h0 : 0 < g.length) :
    F_X9_run (nI a) (nI g.length) (nI s) m = some (nI (preR (ndB sy op s) g).length, sF (sA m 17 (put (gA m 17) E (preR (ndB sy op s) g))) 8 (nI (E + (preR (ndB sy op s) g).length))) := by
  obtain ⟨r, hr⟩ : ∃ r, nth g 0 = r := ⟨_, rfl⟩
  have hrm : r ∈ g := by
    rw [← hr, gD h0]
    exact List.getElem_mem h0
  have hg0 : gA m 17 a = nI r := by
    have := hg 0 h0
    rwa [Nat.add_zero, hr] at this
  have hz : F_X9_run (nI a) (nI g.length) (nI s) m = F_X9_run_24 5000 (nI a) (nI g.length) (nI s) (bI (ndB sy op s r)) (nI 0) m := by
    unfold F_X9_run
    rw [ck_in (by omega) (by omega), bd_r, nI_clamp (by omega), hg0, ho.there h hrm hs, bo_s]
    by_cases q : sy r (nth (op r) s) < 0
    · rw [if_pos q, show ndB sy op s r = false from decide_eq_false (Int32.not_le.mpr q)]
      rfl
    · rw [if_neg q, show ndB sy op s r = true from decide_eq_true (Int32.not_lt.mp q)]
      rfl
  have h2 := run_loop h ho hs hg hE hE2 (ndB sy op s r) g.length 5000 0 (by omega) (by omega) (fun j h5 => absurd h5 (Nat.not_lt_zero j))
  rw [List.take_zero, put_nil, sA_gA, show nI (E + 0) = gF m 8 from he.symm, sF_gF] at h2
  rw [hz, h2]
  unfold preR
  rw [hr]
/-! a position is taken: its place goes to those of its arguments -/
def ch (e : Nat → Nat) (s : Nat) : Nat → Nat
  | 0 => s
  | k + 1 => e (ch e s k)
def chl (e : Nat → Nat) (s n : Nat) : List Nat := (List.range n).map (ch e s)
theorem chl_len (e : Nat → Nat) (s n : Nat) : (chl e s n).length = n := by simp [chl]
theorem chl_get (e : Nat → Nat) (s : Nat) {n k : Nat} (h : k < n) : nth (chl e s n) k = ch e s k := by
  rw [gD (by rw [chl_len]; exact h)]
  simp [chl]
/-- an open row, its spot s taken by n new ones -/
def opL (l c : List Nat) (s : Nat) : List Nat := l.take s ++ (c ++ l.drop (s + 1))
theorem opL_len {l c : List Nat} {s : Nat} (h : s < l.length) : (opL l c s).length = l.length - 1 + c.length := by
  simp [opL]
  omega
theorem opL_lo {l c : List Nat} {s i : Nat} (h : s < l.length) (hi : i < s) : nth (opL l c s) i = nth l i := by
  unfold opL
  rw [gD_app (by simp; omega), nth_eq, nth_eq, List.getElem?_take_of_lt hi]
theorem opL_mid {l c : List Nat} {s i : Nat} (h : s < l.length) (hi : i < c.length) : nth (opL l c s) (s + i) = nth c i := by
  unfold opL
  have hl : (l.take s).length = s := by simp; omega
  rw [gD_app2 (by omega), hl, show s + i - s = i by omega, gD_app hi]
theorem opL_hi {l c : List Nat} {s i : Nat} (h : s < l.length) : nth (opL l c s) (s + c.length + i) = nth l (s + 1 + i) := by
  unfold opL
  have hl : (l.take s).length = s := by simp; omega
  rw [gD_app2 (by omega), hl, show s + c.length + i - s = c.length + i by omega, gD_app2 (by omega), show c.length + i - c.length = i by omega, nth_eq, List.getElem?_drop, nth_eq]
