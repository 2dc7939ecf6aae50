/-! the tree, as the document says it -/
def pos (cnt : Nat → Nat) (G : Nat) : Nat → Nat → Option Nat → Option (Bool × Nat)
  | 0, _, o => o.map fun z => (false, z)
  | d + 1, s, o => if cnt s = G then some (true, s) else pos cnt G d (s + 1) (if 0 < cnt s ∧ o = none then some s else o)
def posI (x : Option (Bool × Nat)) : Int32 := match x with
  | none => -1
  | some (true, s) => nI s
  | some (false, s) => nI (170 + s)
theorem npos_pos (cnt : Nat → Nat) (G : Nat) : ∀ (d s : Nat) (o : Option Nat), npos cnt G d s o = posI (pos cnt G d s o) := by
  intro d
  induction d with
  | zero =>
    intro s o
    cases o <;> rfl
  | succ d ih =>
    intro s o
    rw [npos, pos]
    by_cases h : cnt s = G
    · rw [if_pos h, if_pos h]
      rfl
    · rw [if_neg h, if_neg h]
      exact ih _ _
/-- what the taken position is -/
theorem pos_some {cnt : Nat → Nat} {G : Nat} : ∀ (d s : Nat) (o : Option Nat) (b : Bool) (z : Nat), pos cnt G d s o = some (b, z) → (∀ y, o = some y → y < s ∧ 0 < cnt y ∧ cnt y ≠ G) → z < s + d ∧ (b = true → cnt z = G) ∧ (b = false → 0 < cnt z ∧ cnt z ≠ G) := by
  intro d
  induction d with
  | zero =>
    intro s o b z h ho
    cases o with
    | none => cases h
    | some y =>
      have h2 := Prod.mk.inj (show (false, y) = (b, z) from Option.some.inj h)
      obtain ⟨h3, h4, h5⟩ := ho y rfl
      rw [← h2.1, ← h2.2]
      exact ⟨by omega, fun q => absurd q (by decide), fun _ => ⟨h4, h5⟩⟩
  | succ d ih =>
    intro s o b z h ho
    rw [pos] at h
    by_cases hc : cnt s = G
    · rw [if_pos hc] at h
      have h2 := Prod.mk.inj (show (true, s) = (b, z) from Option.some.inj h)
      rw [← h2.1, ← h2.2]
      exact ⟨by omega, fun _ => hc, fun q => absurd q (by decide)⟩
    · rw [if_neg hc] at h
      obtain ⟨h3, h4, h5⟩ := ih (s + 1) _ b z h (fun y hy => by
        by_cases h0 : 0 < cnt s ∧ o = none
        · rw [if_pos h0] at hy
          cases hy
          exact ⟨by omega, h0.1, hc⟩
        · rw [if_neg h0] at hy
          obtain ⟨h6, h7, h8⟩ := ho y hy
          exact ⟨by omega, h7, h8⟩)
      exact ⟨by omega, h4, h5⟩
def kidsC (sy : Nat → Nat → Int32) (op : Nat → List Nat) (s N : Nat) (g : List Nat) : List Nat := (List.range N).filter fun c => !(subG sy op s (nI c) g).isEmpty
def runs (f : Nat → Bool) : Nat → List Nat → List (List Nat)
  | 0, _ => []
  | n + 1, g => if g.isEmpty = true then [] else preR f g :: runs f n (g.drop (preR f g).length)
def Tr (N : Nat) (ar : Nat → Nat) (sy : Nat → Nat → Int32) (en : Nat → Nat → Nat) : Nat → List Nat → (Nat → List Nat) → Nat → Int32 → Nat → List Nd
  | 0, _, _, _, _, _ => []
  | d + 1, g, op, K, lab, dep => match pos (ndC sy op g) g.length K 0 none with
    | none => if g.length = 1 then [(0, nth g 0, 0, 0, lab, dep)] else (2, 0, 0, g.length, lab, dep) :: g.map fun r => (0, r, 0, 0, -1, dep + 1)
    | some (true, s) => (1, nth g 0, nth (op (nth g 0)) s, (kidsC sy op s N g).length, lab, dep) :: (kidsC sy op s N g).flatMap fun c => Tr N ar sy en d (subG sy op s (nI c) g) (opT en op s (ar c)) (K + ar c - 1) (nI c) (dep + 1)
    | some (false, s) => (2, 0, 0, (runs (ndB sy op s) g.length g).length, lab, dep) :: (runs (ndB sy op s) g.length g).flatMap fun g' => Tr N ar sy en d g' op K (-1) (dep + 1)
def Cvr (N : Nat) (ct ar : Nat → Nat) (sy : Nat → Nat → Int32) (en : Nat → Nat → Nat) : Nat → List Nat → (Nat → List Nat) → Nat → Bool
  | 0, _, _, _ => false
  | d + 1, g, op, K => match pos (ndC sy op g) g.length K 0 none with
    | none => true
    | some (true, s) => ((List.range N).filter fun c => decide (ct c = ct (sy (nth g 0) (nth (op (nth g 0)) s)).toNatClampNeg)).all fun c => !(subG sy op s (nI c) g).isEmpty && Cvr N ct ar sy en d (subG sy op s (nI c) g) (opT en op s (ar c)) (K + ar c - 1)
    | some (false, s) => (runs (ndB sy op s) g.length g).any fun g' => Cvr N ct ar sy en d g' op K
/-! the nodes that the reference holds -/
def cntN (k : Nat) (X : List Nd) : Nat := (X.filter fun x => decide (x.1 = k)).length
def mxN : List Nd → Nat
  | [] => 0
  | x :: X => max x.2.2.2.2.2 (mxN X)
theorem mxN_app (X Y : List Nd) : mxN (X ++ Y) = max (mxN X) (mxN Y) := by
  induction X with
  | nil => simp [mxN]
  | cons x X ih =>
    show max x.2.2.2.2.2 (mxN (X ++ Y)) = max (max x.2.2.2.2.2 (mxN X)) (mxN Y)
    rw [ih]
    omega
theorem cntN_app (k : Nat) (X Y : List Nd) : cntN k (X ++ Y) = cntN k X + cntN k Y := by
  unfold cntN
  rw [List.filter_append, List.length_append]
theorem cntN_le (k : Nat) (X : List Nd) : cntN k X ≤ X.length := List.length_filter_le _ _
def Hold (m : St) (X : List Nd) : Prop :=
  gF m 10 = nI X.length ∧ gF m 11 = nI (cntN 2 X) ∧ gF m 12 = nI (cntN 1 X) ∧ gF m 13 = nI (mxN X) ∧ ∀ i x, X[i]? = some x → NodM m i x
theorem mx_step {a b : Nat} (ha : a < 2 ^ 31) (hb : b < 2 ^ 31) : (if nI a < nI b then nI b else nI a) = nI (max a b) := by
  by_cases h : a < b
  · rw [if_pos (nI_lt h hb), Nat.max_eq_right (by omega)]
  · rw [if_neg (nI_nlt (by omega) (by omega)), Nat.max_eq_left (by omega)]
theorem NodM.kept {m m' : St} {k : Nat} {x : Nd} (h : NodM m k x) (e : ∀ j, 19 ≤ j → j ≤ 25 → gA m' j k = gA m j k) : NodM m' k x := by
  unfold NodM
  rw [e 19 (by omega) (by omega), e 20 (by omega) (by omega), e 21 (by omega) (by omega), e 22 (by omega) (by omega), e 23 (by omega) (by omega), e 24 (by omega) (by omega), e 25 (by omega) (by omega)]
  exact h
theorem aN_at (m : St) (k : Nat) (kind leaf con dep : Int32) {i j : Nat} (hi : i ≠ k) : gA (aN m k kind leaf con dep) j i = gA m j i := by
  unfold aN
  simp only [gA_sA]
  repeat' split
  all_goals first | rfl | (subst_vars; exact upd_n _ _ hi)
theorem Hold.leaf {m : St} {X : List Nd} (h : Hold m X) (hX : X.length < 4000) (hm : mxN X < 4000) {r d : Nat} (lab : Int32) (hd : d < 4000) : Hold (nN m X.length 0 (nI r) lab (nI d)) (X ++ [(0, r, 0, 0, lab, d)]) := by
  obtain ⟨h1, h2, h3, h4, h5⟩ := h
  refine ⟨?_, ?_, ?_, ?_, ?_⟩
  · show nI (X.length + 1) = _
    rw [List.length_append]
    rfl
  · show gF m 11 + 0 = _
    rw [h2, cntN_app]
    exact nI_add _ 0
  · show gF m 12 + 0 = _
    rw [h3, cntN_app]
    exact nI_add _ 0
  · show (if gF m 13 < nI d then nI d else gF m 13) = _
    rw [h4, mx_step (by omega) (by omega), mxN_app]
    show nI (max (mxN X) d) = nI (max (mxN X) (max d 0))
    rw [Nat.max_eq_left (Nat.zero_le d)]
  · intro i x hx
    by_cases hi : i < X.length
    · rw [List.getElem?_append_left hi] at hx
      exact (h5 i x hx).kept (fun j _ _ => aN_at m X.length 0 (nI r) lab (nI d) (j := j) (by omega))
    · rw [List.getElem?_append_right (by omega)] at hx
      have hz : i - X.length < 1 := (List.getElem?_eq_some_iff.mp hx).1
      have hi2 : i = X.length := by omega
      subst hi2
      rw [Nat.sub_self] at hx
      cases hx
      exact ⟨upd_s _ _ _, upd_s _ _ _, upd_s _ _ _, upd_s _ _ _, upd_s _ _ _, upd_s _ _ _, upd_s _ _ _⟩
