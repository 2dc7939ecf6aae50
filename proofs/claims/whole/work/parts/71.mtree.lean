/-! lists in rows -/
/-- what stands at a place of a list -/
def nth (l : List Nat) (i : Nat) : Nat := l.getD i 0
theorem nth_eq (l : List Nat) (i : Nat) : nth l i = l[i]?.getD 0 := by
  unfold nth
  rw [List.getD_eq_getElem?_getD]
theorem gD {l : List Nat} {i : Nat} (h : i < l.length) : nth l i = l[i] := by
  rw [nth_eq, List.getElem?_eq_getElem h]
  rfl
theorem gD_app {l r : List Nat} {i : Nat} (h : i < l.length) : nth (l ++ r) i = nth l i := by
  rw [nth_eq, nth_eq, List.getElem?_append_left h]
theorem gD_app2 {l r : List Nat} {i : Nat} (h : l.length ≤ i) : nth (l ++ r) i = nth r (i - l.length) := by
  rw [nth_eq, nth_eq, List.getElem?_append_right h]
theorem gD_mem {l : List Nat} {i : Nat} (h : i < l.length) : nth l i ∈ l := by
  rw [gD h]
  exact List.getElem_mem h
theorem sA_sF (m : St) (k j : Nat) (v : Int32) (f : Nat → Int32) : sA (sF m k v) j f = sF (sA m j f) k v := rfl
theorem up_up {α : Type} (f : Nat → α) (k : Nat) (v w : α) : va_up (va_up f k v) k w = va_up f k w := by
  funext j
  unfold va_up
  split <;> rfl
theorem sA_sA (m : St) (k : Nat) (f g : Nat → Int32) : sA (sA m k f) k g = sA m k g := by
  unfold sA
  rw [up_up]
theorem sF_sF (m : St) (k : Nat) (v w : Int32) : sF (sF m k v) k w = sF m k w := by
  unfold sF
  rw [up_up]
theorem sF_gF (m : St) (k : Nat) : sF m k (gF m k) = m := by
  obtain ⟨a, b⟩ := m
  show (va_up a k (a k), b) = (a, b)
  congr 1
  funext j
  unfold va_up
  split
  · next h => rw [h]
  · rfl
/-- the numbers of a list, from a place on -/
def seg (f : Nat → Int32) (a : Nat) (l : List Nat) : Prop := ∀ i, i < l.length → f (a + i) = nI (nth l i)
def put (f : Nat → Int32) (a : Nat) (l : List Nat) : Nat → Int32 := fun j => if a ≤ j ∧ j < a + l.length then nI (nth l (j - a)) else f j
theorem put_out {f : Nat → Int32} {a : Nat} {l : List Nat} {j : Nat} (h : j < a ∨ a + l.length ≤ j) : put f a l j = f j := if_neg (by omega)
theorem put_in {f : Nat → Int32} {a : Nat} {l : List Nat} {i : Nat} (h : i < l.length) : put f a l (a + i) = nI (nth l i) := by
  unfold put
  rw [if_pos ⟨by omega, by omega⟩, show a + i - a = i by omega]
theorem put_nil (f : Nat → Int32) (a : Nat) : put f a [] = f := by
  funext j
  exact put_out (by simp; omega)
theorem put_snoc (f : Nat → Int32) (a : Nat) (l : List Nat) (r : Nat) : upd (put f a l) (a + l.length) (nI r) = put f a (l ++ [r]) := by
  funext j
  unfold upd put
  by_cases h : j = a + l.length
  · subst h
    rw [if_pos rfl, if_pos ⟨by omega, by simp⟩, show a + l.length - a = l.length by omega, gD_app2 (Nat.le_refl _), Nat.sub_self]
    rfl
  · rw [if_neg h]
    by_cases h2 : a ≤ j ∧ j < a + l.length
    · rw [if_pos h2, if_pos ⟨h2.1, by simp; omega⟩]
      congr 1
      rw [gD_app (by omega)]
    · rw [if_neg h2, if_neg (by simp; omega)]
theorem ck_in {i n : Nat} (h : i < n) (hn : n < 2 ^ 31) (r : Rs) : ck (inb (nI i) n) r = r := ck_h ((inb_nI (by omega)).mpr h) r
theorem mul170 (r : Nat) : (170 : Int32) * nI r = nI (170 * r) := pk_mul 170 r
theorem mul160 (r : Nat) : (160 : Int32) * nI r = nI (160 * r) := pk_mul 160 r
/-! the rules, as the reference has them -/
def RuM (R : Nat) (ln : Nat → Nat) (sy : Nat → Nat → Int32) (en : Nat → Nat → Nat) (m : St) : Prop :=
  R ≤ 24 ∧ ∀ r, r < R → ln r ≤ 160 ∧ ∀ q, q < ln r → gA m 5 (160 * r + q) = sy r q ∧ gA m 8 (160 * r + q) = nI (en r q)
theorem there_eq {R : Nat} {ln : Nat → Nat} {sy : Nat → Nat → Int32} {en : Nat → Nat → Nat} {m : St} (h : RuM R ln sy en m) {r s q : Nat} (hr : r < R) (hs : s < 170) (hq : q < ln r) (ho : gA m 16 (170 * r + s) = nI q) : F_X9_there (nI r) (nI s) m = some (sy r q, m) := by
  have h1 := h.1
  have h2 := (h.2 r hr).1
  unfold F_X9_there
  rw [mul170, nI_add, ck_in (by omega) (by omega), bd_r, nI_clamp (by omega), ho, mul160, nI_add, ck_in (by omega) (by omega), bd_r, nI_clamp (by omega), ((h.2 r hr).2 q hq).1]
/-- a group of rules with its open spots: K of them in each rule -/
def OpM (R : Nat) (ln : Nat → Nat) (op : Nat → List Nat) (K : Nat) (g : List Nat) (m : St) : Prop :=
  K ≤ 160 ∧ ∀ r, r ∈ g → r < R ∧ (op r).length = K ∧ seg (gA m 16) (170 * r) (op r) ∧ ∀ s, s < K → nth (op r) s < ln r
theorem OpM.there {R : Nat} {ln : Nat → Nat} {sy : Nat → Nat → Int32} {en : Nat → Nat → Nat} {op : Nat → List Nat} {K : Nat} {g : List Nat} {m : St} (h : RuM R ln sy en m) (ho : OpM R ln op K g m) {r s : Nat} (hr : r ∈ g) (hs : s < K) : F_X9_there (nI r) (nI s) m = some (sy r (nth (op r) s), m) := by
  obtain ⟨hK, ho⟩ := ho
  obtain ⟨h1, h2, h3, h4⟩ := ho r hr
  exact there_eq h h1 (by omega) (h4 s hs) (h3 s (by omega))
/-- those of a group that have c at the spot -/
def subG (sy : Nat → Nat → Int32) (op : Nat → List Nat) (s : Nat) (c : Int32) (g : List Nat) : List Nat := g.filter fun r => decide (sy r (nth (op r) s) = c)
theorem those_loop {R : Nat} {ln : Nat → Nat} {sy : Nat → Nat → Int32} {en : Nat → Nat → Nat} {op : Nat → List Nat} {K s a E : Nat} {c : Int32} {g : List Nat} {m : St} (h : RuM R ln sy en m) (ho : OpM R ln op K g m) (hs : s < K) (hg : seg (gA m 17) a g) (hE : a + g.length ≤ E) (hE2 : E + g.length ≤ 4800) (x5 : Int32) :
    ∀ (d n i : Nat) (l : List Nat), i + d = g.length → d < n → l = subG sy op s c (g.take i) → F_X9_those_9 n (nI a) (nI g.length) (nI s) c x5 (nI (a + i)) (sF (sA m 17 (put (gA m 17) E l)) 8 (nI (E + l.length))) = some (nI (E + (subG sy op s c g).length) - x5, sF (sA m 17 (put (gA m 17) E (subG sy op s c g))) 8 (nI (E + (subG sy op s c g).length))) := by
  intro d
  induction d with
  | zero =>
    intro n i l hi hn hl
    obtain ⟨n, rfl⟩ : ∃ z, n = z + 1 := ⟨n - 1, by omega⟩
    rw [show g.take i = g by rw [show i = g.length by omega, List.take_length]] at hl
    rw [F_X9_those_9, nI_add, if_pos (nI_le (by omega) (by omega)), F_X9_those_69, gF_sF, if_pos rfl, hl]
  | succ d ih =>
    intro n i l hi hn hl
    obtain ⟨n, rfl⟩ : ∃ z, n = z + 1 := ⟨n - 1, by omega⟩
    have hil : i < g.length := by omega
    have hll : l.length ≤ i := by
      rw [hl]
      unfold subG
      exact Nat.le_trans (List.length_filter_le _ _) (by simp; omega)
    obtain ⟨r, hr⟩ : ∃ r, nth g i = r := ⟨_, rfl⟩
    have hrm : r ∈ g := by
      rw [← hr, gD hil]
      exact List.getElem_mem hil
    have hrd : put (gA m 17) E l (a + i) = nI r := by
      rw [put_out (by omega), hg i hil, hr]
    have htk : g.take (i + 1) = g.take i ++ [r] := by
      rw [List.take_succ_eq_append_getElem hil, ← hr, gD hil]
    have h' : RuM R ln sy en (sF (sA m 17 (put (gA m 17) E l)) 8 (nI (E + l.length))) := h
    have ho' : OpM R ln op K g (sF (sA m 17 (put (gA m 17) E l)) 8 (nI (E + l.length))) := ho
    rw [F_X9_those_9, nI_add, if_neg (nI_ge (by omega) (by omega)), ck_in (by omega) (by omega), bd_r, nI_clamp (by omega), gA_sF, gA_sA_s, hrd, ho'.there h' hrm hs, bo_s]
    by_cases hc : sy r (nth (op r) s) = c
    · rw [if_pos hc, ck_in (by omega) (by omega), bd_r, gF_sF, if_pos rfl, ck_in (by omega) (by omega), bd_r, nI_clamp (by omega), gA_sF, gA_sA_s, hrd, put_snoc, bd_r, F_X9_those_63, sA_sF, sA_sA, gF_sF, if_pos rfl, sF_sF, nI_1, nI_1]
      have hl2 : l ++ [r] = subG sy op s c (g.take (i + 1)) := by
        rw [htk, hl]
        unfold subG
        rw [List.filter_append]
        simp [hc]
      have h9 := ih n (i + 1) (l ++ [r]) (by omega) (by omega) hl2
      rw [List.length_append] at h9
      exact h9
    · rw [if_neg hc, F_X9_those_63, nI_1]
      have hl2 : l = subG sy op s c (g.take (i + 1)) := by
        rw [htk, hl]
        unfold subG
        rw [List.filter_append]
        simp [hc]
      exact ih n (i + 1) l (by omega) (by omega) hl2
theorem those_eq {R : Nat} {ln : Nat → Nat} {sy : Nat → Nat → Int32} {en : Nat → Nat → Nat} {op : Nat → List Nat} {K s a E : Nat} {g : List Nat} {m : St} (h : RuM R ln sy en m) (ho : OpM R ln op K g m) (hs : s < K) (hg : seg (gA m 17) a g) (hE : a + g.length ≤ E) (hE2 : E + g.length ≤ 4800) (he : gF m 8 = nI E) (c : Int32) :
    F_X9_those (nI a) (nI g.length) (nI s) c m = some (nI (subG sy op s c g).length, sF (sA m 17 (put (gA m 17) E (subG sy op s c g))) 8 (nI (E + (subG sy op s c g).length))) := by
  have hlen : (subG sy op s c g).length ≤ g.length := List.length_filter_le _ _
  have := those_loop h ho hs hg hE hE2 (nI E) g.length 5000 0 [] (c := c) (by omega) (by omega) rfl
  rw [put_nil, sA_gA, show nI (E + ([] : List Nat).length) = gF m 8 from he.symm, sF_gF] at this
  unfold F_X9_those
  rw [bd_r, he]
  refine this.trans ?_
  rw [pk_sub (by omega), show E + (subG sy op s c g).length - E = (subG sy op s c g).length by omega]
/-! which position is taken -/
/-- how many of a group need a spot -/
def ndC (sy : Nat → Nat → Int32) (op : Nat → List Nat) (g : List Nat) (s : Nat) : Nat := (g.filter fun r => decide (0 ≤ sy r (nth (op r) s))).length
theorem ndC_le (sy : Nat → Nat → Int32) (op : Nat → List Nat) (g : List Nat) (s : Nat) : ndC sy op g s ≤ g.length := List.length_filter_le _ _
def oI (o : Option Nat) : Int32 := match o with
  | none => -1
  | some z => nI z
def npos (cnt : Nat → Nat) (G : Nat) : Nat → Nat → Option Nat → Int32
  | 0, _, o => match o with
    | none => -1
    | some z => nI (170 + z)
  | d + 1, s, o => if cnt s = G then nI s else npos cnt G d (s + 1) (if 0 < cnt s ∧ o = none then some s else o)
theorem needed_in {R : Nat} {ln : Nat → Nat} {sy : Nat → Nat → Int32} {en : Nat → Nat → Nat} {op : Nat → List Nat} {K s a : Nat} {g : List Nat} {m : St} (h : RuM R ln sy en m) (ho : OpM R ln op K g m) (hs : s < K) (hg : seg (gA m 17) a g) (hE2 : a + g.length ≤ 4800) (k5 : Int32 → Int32 → Int32 → Int32 → St → Rs) (x3 : Int32) :
    ∀ (d n i : Nat), i + d = g.length → d < n → F_X9_needed_20 k5 n (nI a) (nI g.length) x3 (nI s) (nI (ndC sy op (g.take i) s)) (nI (a + i)) m = F_X9_needed_60 k5 (nI a) (nI g.length) x3 (nI s) (nI (ndC sy op g s)) m := by
  intro d
  induction d with
  | zero =>
    intro n i hi hn
    obtain ⟨n, rfl⟩ : ∃ z, n = z + 1 := ⟨n - 1, by omega⟩
    rw [show g.take i = g by rw [show i = g.length by omega, List.take_length], F_X9_needed_20, nI_add, if_pos (nI_le (by omega) (by omega))]
  | succ d ih =>
    intro n i hi hn
    obtain ⟨n, rfl⟩ : ∃ z, n = z + 1 := ⟨n - 1, by omega⟩
    have hil : i < g.length := by omega
    obtain ⟨r, hr⟩ : ∃ r, nth g i = r := ⟨_, rfl⟩
    have hrm : r ∈ g := by
      rw [← hr, gD hil]
      exact List.getElem_mem hil
    have htk : g.take (i + 1) = g.take i ++ [r] := by
      rw [List.take_succ_eq_append_getElem hil, ← hr, gD hil]
    have hnd : ndC sy op (g.take (i + 1)) s = ndC sy op (g.take i) s + (if 0 ≤ sy r (nth (op r) s) then 1 else 0) := by
      unfold ndC
      rw [htk, List.filter_append, List.length_append]
      by_cases hz : 0 ≤ sy r (nth (op r) s) <;> simp [hz]
    rw [F_X9_needed_20, nI_add, if_neg (nI_ge (by omega) (by omega)), ck_in (by omega) (by omega), bd_r, nI_clamp (by omega), hg i hil, hr, ho.there h hrm hs, bo_s]
    by_cases hz : sy r (nth (op r) s) < 0
    · rw [if_pos hz, F_X9_needed_51, bd_r, nI_1 (a + i), show nI (ndC sy op (g.take i) s) + 0 = nI (ndC sy op (g.take i) s) from nI_add _ 0]
      have hnd2 : ndC sy op (g.take (i + 1)) s = ndC sy op (g.take i) s := by rw [hnd, if_neg (Int32.not_le.mpr hz)]; rfl
      rw [← hnd2]
      exact ih n (i + 1) (by omega) (by omega)
    · rw [if_neg hz, F_X9_needed_51, bd_r, nI_1 (a + i), nI_1 (ndC sy op (g.take i) s)]
      rw [if_pos (Int32.not_lt.mp hz)] at hnd
      rw [← hnd]
      exact ih n (i + 1) (by omega) (by omega)
theorem needed_loop {R : Nat} {ln : Nat → Nat} {sy : Nat → Nat → Int32} {en : Nat → Nat → Nat} {op : Nat → List Nat} {K a : Nat} {g : List Nat} {m : St} (h : RuM R ln sy en m) (ho : OpM R ln op K g m) (hg : seg (gA m 17) a g) (hE2 : a + g.length ≤ 4800) (hk : gF m 7 = nI K) :
    ∀ (d n s : Nat) (o : Option Nat), s + d = K → d < n → (∀ z, o = some z → z < K) → F_X9_needed_5 n (nI a) (nI g.length) (oI o) (nI s) m = some (npos (ndC sy op g) g.length d s o, m) := by
  have hK := ho.1
  intro d
  induction d with
  | zero =>
    intro n s o hi hn hz
    obtain ⟨n, rfl⟩ : ∃ z, n = z + 1 := ⟨n - 1, by omega⟩
    rw [F_X9_needed_5, hk, if_pos (nI_le (by omega) (by omega)), F_X9_needed_88]
    cases o with
    | none => rfl
    | some z =>
      have := hz z rfl
      rw [if_neg (show ¬ oI (some z) = -1 from nI_ne_m1 (by omega))]
      show some (nI 170 + nI z, m) = _
      rw [nI_add]
      rfl
  | succ d ih =>
    intro n s o hi hn hz
    obtain ⟨n, rfl⟩ : ∃ z, n = z + 1 := ⟨n - 1, by omega⟩
    have hle := ndC_le sy op g s
    rw [F_X9_needed_5, hk, if_neg (nI_ge (by omega) (by omega))]
    have h1 := needed_in h ho (show s < K by omega) hg hE2 (F_X9_needed_5 n) (oI o) g.length 5000 0 (by omega) (by omega)
    have h0 : ndC sy op (g.take 0) s = 0 := by simp [ndC]
    rw [h0] at h1
    refine Eq.trans h1 ?_
    rw [F_X9_needed_60, npos]
    by_cases hc : ndC sy op g s = g.length
    · rw [if_pos (by rw [hc]), if_pos hc]
    · rw [if_neg (fun q => hc (nI_inj (by omega) (by omega) q)), if_neg hc]
      by_cases h0 : 0 < ndC sy op g s
      · rw [if_neg (nI_nle h0 (by omega))]
        cases o with
        | none =>
          rw [if_pos (show oI none = -1 from rfl), if_pos ⟨h0, rfl⟩, F_X9_needed_82, nI_1]
          exact ih n (s + 1) (some s) (by omega) (by omega) (fun z q => by cases q; omega)
        | some z =>
          have := hz z rfl
          rw [if_neg (show ¬ oI (some z) = -1 from nI_ne_m1 (by omega)), if_neg (fun q => by cases q.2), F_X9_needed_82, nI_1]
          exact ih n (s + 1) (some z) (by omega) (by omega) hz
      · rw [if_pos (show nI (ndC sy op g s) ≤ 0 by rw [show ndC sy op g s = 0 by omega]; decide), if_neg (fun q => h0 q.1), F_X9_needed_82, nI_1]
        exact ih n (s + 1) o (by omega) (by omega) hz
theorem needed_eq {R : Nat} {ln : Nat → Nat} {sy : Nat → Nat → Int32} {en : Nat → Nat → Nat} {op : Nat → List Nat} {K a : Nat} {g : List Nat} {m : St} (h : RuM R ln sy en m) (ho : OpM R ln op K g m) (hg : seg (gA m 17) a g) (hE2 : a + g.length ≤ 4800) (hk : gF m 7 = nI K) :
    F_X9_needed (nI a) (nI g.length) m = some (npos (ndC sy op g) g.length K 0 none, m) := needed_loop h ho hg hE2 hk K 5000 0 none (by omega) (by have := ho.1; omega) (fun z q => by cases q)
