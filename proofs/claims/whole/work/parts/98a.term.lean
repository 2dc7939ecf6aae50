/-! terms: an id is a name (below 8), a constructor's number p of the row (8 + p), or a new name (from 8 + n on) -/
abbrev Bd : Type := List (Nat × Nat)
def mtp (rw : Nat → Int32) (p : Nat) : Nat := if rw p < 0 then (-1 - rw p).toNatClampNeg else 8 + p
def sz (ar : Nat → Nat) (β : Bd) : Nat := (β.map fun b => ar b.2).sum
theorem sz_app (ar : Nat → Nat) (β γ : Bd) : sz ar (β ++ γ) = sz ar β + sz ar γ := by
  unfold sz
  rw [List.map_append, List.sum_append]
theorem sz_cons (ar : Nat → Nat) (x c : Nat) (β : Bd) : sz ar ((x, c) :: β) = ar c + sz ar β := by
  unfold sz
  rw [List.map_cons, List.sum_cons]
theorem sz_one (ar : Nat → Nat) (x c : Nat) : sz ar [(x, c)] = ar c := by simp [sz]
/-- what a name became: its constructor, and its first new name -/
def lk (ar : Nat → Nat) : Bd → Nat → Nat → Option (Nat × Nat)
  | [], _, _ => none
  | (x, c) :: β, b, t => if x = t then some (c, b) else lk ar β (b + ar c) t
theorem lk_app {ar : Nat → Nat} {x c : Nat} : ∀ (β : Bd) (b t : Nat), lk ar (β ++ [(x, c)]) b t = match lk ar β b t with
    | some r => some r
    | none => if x = t then some (c, b + sz ar β) else none := by
  intro β
  induction β with
  | nil =>
    intro b t
    show (if x = t then some (c, b) else none) = _
    rfl
  | cons y β ih =>
    intro b t
    obtain ⟨y1, y2⟩ := y
    show (if y1 = t then some (y2, b) else lk ar (β ++ [(x, c)]) (b + ar y2) t) = match (if y1 = t then some (y2, b) else lk ar β (b + ar y2) t) with
      | some r => some r
      | none => if x = t then some (c, b + sz ar ((y1, y2) :: β)) else none
    by_cases h : y1 = t
    · rw [if_pos h, if_pos h]
    · rw [if_neg h, if_neg h, ih]
      have : b + ar y2 + sz ar β = b + sz ar ((y1, y2) :: β) := by
        rw [sz_cons]
        omega
      rw [this]
theorem lk_range {ar : Nat → Nat} : ∀ (β : Bd) (b t c f : Nat), lk ar β b t = some (c, f) → b ≤ f ∧ f + ar c ≤ b + sz ar β ∧ (t, c) ∈ β := by
  intro β
  induction β with
  | nil => intro b t c f h; cases h
  | cons y β ih =>
    intro b t c f h
    obtain ⟨y1, y2⟩ := y
    rw [lk] at h
    have hs : sz ar ((y1, y2) :: β) = ar y2 + sz ar β := sz_cons ar y1 y2 β
    by_cases hy : y1 = t
    · rw [if_pos hy] at h
      cases h
      exact ⟨Nat.le_refl _, by omega, by rw [hy]; exact List.mem_cons_self⟩
    · rw [if_neg hy] at h
      obtain ⟨h1, h2, h3⟩ := ih _ _ _ _ h
      exact ⟨by omega, by omega, List.mem_cons_of_mem _ h3⟩
theorem lk_none {ar : Nat → Nat} : ∀ (β : Bd) (b t : Nat), lk ar β b t = none ↔ ∀ y, y ∈ β → y.1 ≠ t := by
  intro β
  induction β with
  | nil => intro b t; exact ⟨fun _ y hy => (by cases hy), fun _ => rfl⟩
  | cons y β ih =>
    intro b t
    obtain ⟨y1, y2⟩ := y
    rw [lk]
    by_cases hy : y1 = t
    · rw [if_pos hy]
      exact ⟨fun h => (by cases h), fun h => absurd hy (h (y1, y2) List.mem_cons_self)⟩
    · rw [if_neg hy, ih]
      constructor
      · intro h z hz
        rcases List.mem_cons.mp hz with k | k
        · rw [k]; exact hy
        · exact h z k
      · intro h z hz
        exact h z (List.mem_cons_of_mem _ hz)
section
variable {n N A : Nat} {rw : Nat → Int32} {en : Nat → Nat} {ar : Nat → Nat}
abbrev rowId (n : Nat) (t : Nat) : Prop := 8 ≤ t ∧ t < 8 + n
/-- an id's constructor -/
def cn (n : Nat) (rw : Nat → Int32) (ar : Nat → Nat) (β : Bd) (t : Nat) : Option Nat := if rowId n t then some (rw (t - 8)).toNatClampNeg else (lk ar β (8 + n) t).map fun r => r.1
/-- an id's k-th part -/
def chT (n : Nat) (rw : Nat → Int32) (en : Nat → Nat) (ar : Nat → Nat) (β : Bd) (t k : Nat) : Nat := if rowId n t then mtp rw (ch en (t - 8 + 1) k) else match lk ar β (8 + n) t with
  | some r => r.2 + k
  | none => 0
def kd (n : Nat) (rw : Nat → Int32) (en : Nat → Nat) (ar : Nat → Nat) (β : Bd) (t : Nat) : List Nat := match cn n rw ar β t with
  | none => []
  | some c => (List.range (ar c)).map (chT n rw en ar β t)
/-- a name: of the row or a new one -/
def nmId (n : Nat) (ar : Nat → Nat) (β : Bd) (t : Nat) : Prop := t < 8 ∨ (8 + n ≤ t ∧ t < 8 + n + sz ar β)
def BW (n N : Nat) (ar : Nat → Nat) (β : Bd) : Prop := ∀ β1 x c β2, β = β1 ++ (x, c) :: β2 → c < N ∧ lk ar β1 (8 + n) x = none ∧ nmId n ar β1 x
theorem BW.nil : BW n N ar [] := by
  intro β1 x c β2 h
  cases β1 <;> cases h
theorem BW.snoc {β : Bd} {x c : Nat} (h : BW n N ar β) (h1 : c < N) (h2 : lk ar β (8 + n) x = none) (h3 : nmId n ar β x) : BW n N ar (β ++ [(x, c)]) := by
  intro β1 y e β2 he
  rcases List.eq_nil_or_concat β2 with k | ⟨β3, z, k⟩
  · subst k
    have := List.append_inj' he rfl
    obtain ⟨e1, e2⟩ := this
    cases e2
    rw [← e1]
    exact ⟨h1, h2, h3⟩
  · subst k
    have he2 : β ++ [(x, c)] = (β1 ++ (y, e) :: β3) ++ [z] := by rw [he]; simp
    have := List.append_inj' he2 rfl
    exact h β1 y e β3 this.1
theorem BW.pre {β γ : Bd} (h : BW n N ar (β ++ γ)) : BW n N ar β := by
  intro β1 x c β2 he
  exact h β1 x c (β2 ++ γ) (by rw [he]; simp)
/-- the ids in the order in which they are told -/
def exl (x b m t : Nat) : List Nat := if t = x then x :: (List.range m).map (fun k => b + k) else [t]
def vl (ar : Nat → Nat) : Bd → Nat → List Nat → List Nat
  | [], _, L => L
  | (x, c) :: β, b, L => vl ar β (b + ar c) (L.flatMap (exl x b (ar c)))
theorem vl_app {x c : Nat} : ∀ (β : Bd) (b : Nat) (L : List Nat), vl ar (β ++ [(x, c)]) b L = (vl ar β b L).flatMap (exl x (b + sz ar β) (ar c)) := by
  intro β
  induction β with
  | nil => intro b L; rfl
  | cons y β ih =>
    intro b L
    obtain ⟨y1, y2⟩ := y
    have hs : sz ar ((y1, y2) :: β) = ar y2 + sz ar β := sz_cons ar y1 y2 β
    show vl ar (β ++ [(x, c)]) (b + ar y2) (L.flatMap (exl y1 b (ar y2))) = _
    rw [ih, hs, ← Nat.add_assoc]
    rfl
def Vl (n : Nat) (rw : Nat → Int32) (ar : Nat → Nat) (β : Bd) : List Nat := vl ar β (8 + n) ((List.range n).map (mtp rw))
theorem Vl_snoc (β : Bd) (x c : Nat) : Vl n rw ar (β ++ [(x, c)]) = (Vl n rw ar β).flatMap (exl x (8 + n + sz ar β) (ar c)) := vl_app β _ _
theorem count_ex (x b m t : Nat) (hx : x < b) : ∀ L : List Nat, (∀ y, y ∈ L → y < b) → (t < b → (L.flatMap (exl x b m)).count t = L.count t) ∧ (b ≤ t → t < b + m → (L.flatMap (exl x b m)).count t = L.count x) ∧ (L.flatMap (exl x b m)).length = L.length + m * L.count x ∧ ∀ y, y ∈ L.flatMap (exl x b m) → y < b + m := by
  intro L
  induction L with
  | nil => intro _; exact ⟨fun _ => rfl, fun _ _ => rfl, by simp, fun y hy => by simp at hy⟩
  | cons z L ih =>
    intro hL
    obtain ⟨i1, i2, i3, i4⟩ := ih (fun y hy => hL y (List.mem_cons_of_mem _ hy))
    have hz := hL z List.mem_cons_self
    have hr : ∀ t, t < b → ((List.range m).map (fun k => b + k)).count t = 0 := by
      intro t ht
      apply List.count_eq_zero.mpr
      intro h
      obtain ⟨k, -, e⟩ := List.mem_map.mp h
      omega
    have hr2 : b ≤ t → t < b + m → ((List.range m).map (fun k => b + k)).count t = 1 := by
      intro h1 h2
      have hnd : ((List.range m).map (fun k => b + k)).Nodup := by
        rw [List.nodup_iff_pairwise_ne, List.pairwise_map]
        exact List.pairwise_lt_range.imp (fun h => by omega)
      rw [hnd.count, if_pos (List.mem_map.mpr ⟨t - b, List.mem_range.mpr (by omega), by omega⟩)]
    rw [List.flatMap_cons]
    by_cases h : z = x
    · subst h
      have e : exl z b m z = z :: (List.range m).map (fun k => b + k) := if_pos rfl
      rw [e]
      refine ⟨fun ht => ?_, fun h1 h2 => ?_, ?_, fun y hy => ?_⟩
      · rw [List.count_append, List.count_cons, hr t ht, i1 ht, List.count_cons]; omega
      · rw [List.count_append, List.count_cons, hr2 h1 h2, i2 h1 h2, List.count_cons, if_neg (by simp; omega), if_pos (by simp)]; omega
      · rw [List.length_append, i3, List.count_cons, if_pos (by simp)]
        simp
        rw [Nat.mul_add]
        omega
      · rcases List.mem_append.mp hy with k | k
        · rcases List.mem_cons.mp k with k | k
          · omega
          · obtain ⟨j, hj, e2⟩ := List.mem_map.mp k
            have := List.mem_range.mp hj
            omega
        · exact i4 y k
    · have e : exl x b m z = [z] := if_neg h
      rw [e]
      refine ⟨fun ht => ?_, fun h1 h2 => ?_, ?_, fun y hy => ?_⟩
      · rw [List.count_append, i1 ht, List.count_cons, List.count_cons]; simp; omega
      · rw [List.count_append, i2 h1 h2, List.count_cons, List.count_cons, if_neg (by simp; omega), if_neg (by simpa using h)]; simp
      · rw [List.length_append, i3, List.count_cons, if_neg (by simpa using h)]; simp; omega
      · rcases List.mem_append.mp hy with k | k
        · rw [List.mem_singleton] at k; omega
        · exact i4 y k
/-- a row of terms: its names are those below 8 -/
def RwT (n : Nat) (rw : Nat → Int32) : Prop := n ≤ 160 ∧ ∀ p, p < n → rw p < 0 → (-1 - rw p).toNatClampNeg < 8
theorem Vl_facts (hT : RwT n rw) : ∀ (β : Bd), BW n N ar β → (∀ c, c < N → ar c ≤ 4) → (∀ y, y ∈ Vl n rw ar β → y < 8 + n + sz ar β) ∧ (∀ t, (Vl n rw ar β).count t ≤ n) ∧ (Vl n rw ar β).length ≤ n + 4 * n * β.length ∧ sz ar β ≤ 4 * β.length := by
  intro β
  induction hl : β.length generalizing β with
  | zero =>
    intro _ _
    have : β = [] := List.eq_nil_of_length_eq_zero hl
    subst this
    have hlen : (Vl n rw ar []).length = n := by show ((List.range n).map (mtp rw)).length = n; simp
    refine ⟨fun y hy => ?_, fun t => ?_, by rw [hlen]; omega, by simp [sz]⟩
    · obtain ⟨p, hp, e⟩ := List.mem_map.mp hy
      have hp := List.mem_range.mp hp
      unfold mtp at e
      split at e
      · next h => have := hT.2 p hp h; omega
      · omega
    · have := List.count_le_length (a := t) (l := Vl n rw ar [])
      omega
  | succ k ih =>
    intro hB har
    rcases List.eq_nil_or_concat β with z | ⟨β', y, z⟩
    · subst z; cases hl
    · subst z
      obtain ⟨x, c⟩ := y
      rw [List.concat_eq_append] at hl hB ⊢
      rw [List.length_append] at hl
      obtain ⟨i1, i2, i3, i4⟩ := ih β' (by simpa using hl) hB.pre har
      obtain ⟨b1, b2, b3⟩ := hB β' x c [] rfl
      have hx : x < 8 + n + sz ar β' := by rcases b3 with q | q <;> omega
      have hc := har c b1
      have hk : β'.length = k := by simpa using hl
      rw [Vl_snoc, sz_app, sz_one]
      refine ⟨fun y hy => ?_, fun t => ?_, ?_, by omega⟩
      · have := (count_ex x (8 + n + sz ar β') (ar c) 0 hx _ i1).2.2.2 y hy; omega
      · obtain ⟨j1, j2, j3, j4⟩ := count_ex x (8 + n + sz ar β') (ar c) t hx _ i1
        rcases Nat.lt_or_ge t (8 + n + sz ar β') with q | q
        · rw [j1 q]; exact i2 t
        · rcases Nat.lt_or_ge t (8 + n + sz ar β' + ar c) with q2 | q2
          · rw [j2 q q2]; exact i2 x
          · have : ((Vl n rw ar β').flatMap (exl x (8 + n + sz ar β') (ar c))).count t = 0 := List.count_eq_zero.mpr (fun hz => by have := j4 t hz; omega)
            omega
      · obtain ⟨-, -, j3, -⟩ := count_ex x (8 + n + sz ar β') (ar c) 0 hx _ i1
        rw [j3]
        have h9 := i2 x
        have h10 : ar c * (Vl n rw ar β').count x ≤ 4 * n := Nat.mul_le_mul hc h9
        have h11 : 4 * n * (k + 1) = 4 * n * k + 4 * n := Nat.mul_succ _ _
        omega
end
