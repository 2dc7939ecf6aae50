/-! where terms are led, as the document says it: rule, asks, asks of free names, what names became -/
abbrev Ot : Type := Nat × Nat × Nat × Bd
def Led (N n : Nat) (ar : Nat → Nat) (rw : Nat → Int32) (te : Nat → Nat) (sy : Nat → Nat → Int32) (en : Nat → Nat → Nat) : Nat → List Nat → (Nat → List Nat) → Nat → List Nat → Bd → Nat → Nat → List Ot
  | 0, _, _, _, _, _, _, _ => []
  | d + 1, g, op, K, ts, β, as, af => match pos (ndC sy op g) g.length K 0 none with
    | none => g.map fun r => (r, as, af, β)
    | some (false, s) => (runs (ndB sy op s) g.length g).flatMap fun l => Led N n ar rw te sy en d l op K ts β as af
    | some (true, s) => match cn n rw ar β (nth ts s) with
      | some c => if c ∈ kidsC sy op s N g then Led N n ar rw te sy en d (subG sy op s (nI c) g) (opT en op s (ar c)) (K + ar c - 1) (opL ts (kd n rw te ar β (nth ts s)) s) β (as + 1) af else []
      | none => (kidsC sy op s N g).flatMap fun c => Led N n ar rw te sy en d (subG sy op s (nI c) g) (opT en op s (ar c)) (K + ar c - 1) (opL ts (kd n rw te ar (β ++ [(nth ts s, c)]) (nth ts s)) s) (β ++ [(nth ts s, c)]) (as + 1) (af + 1)
section
variable {N n A : Nat} {ar : Nat → Nat} {rw : Nat → Int32} {te : Nat → Nat} {sy : Nat → Nat → Int32} {en : Nat → Nat → Nat}
theorem flat_sum {α β : Type} (f : α → List β) (w : α → Nat) : ∀ l : List α, (∀ x, x ∈ l → (f x).length ≤ w x) → (l.flatMap f).length ≤ (l.map w).sum := by
  intro l
  induction l with
  | nil => intro _; exact Nat.le_refl _
  | cons x l ih =>
    intro h
    rw [List.flatMap_cons, List.length_append, List.map_cons, List.sum_cons]
    have h1 := h x List.mem_cons_self
    have h2 := ih (fun y hy => h y (List.mem_cons_of_mem _ hy))
    omega
theorem Led_len (hN : N ≤ 60) : ∀ (d : Nat) (g : List Nat) (op : Nat → List Nat) (K : Nat) (ts : List Nat) (β : Bd) (as af : Nat), (Led N n ar rw te sy en d g op K ts β as af).length ≤ g.length := by
  intro d
  induction d with
  | zero => intro g op K ts β as af; exact Nat.zero_le _
  | succ d ih =>
    intro g op K ts β as af
    rw [Led]
    cases hp : pos (ndC sy op g) g.length K 0 none with
    | none => dsimp only; rw [List.length_map]; exact Nat.le_refl _
    | some x =>
      obtain ⟨b, s⟩ := x
      cases b with
      | false =>
        dsimp only
        have h1 := flat_sum (fun l => Led N n ar rw te sy en d l op K ts β as af) (fun l => l.length) (runs (ndB sy op s) g.length g) (fun l _ => ih l op K ts β as af)
        rw [sum_len_le, (runs_spec (ndB sy op s) g.length g (Nat.le_refl _)).1] at h1
        exact h1
      | true =>
        dsimp only
        cases hc : cn n rw ar β (nth ts s) with
        | some c =>
          dsimp only
          split
          · exact Nat.le_trans (ih _ _ _ _ _ _ _) (List.length_filter_le _ _)
          · exact Nat.zero_le _
        | none =>
          dsimp only
          have h1 := flat_sum (fun c => Led N n ar rw te sy en d (subG sy op s (nI c) g) (opT en op s (ar c)) (K + ar c - 1) (opL ts (kd n rw te ar (β ++ [(nth ts s, c)]) (nth ts s)) s) (β ++ [(nth ts s, c)]) (as + 1) (af + 1)) (fun c => (subG sy op s (nI c) g).length) (kidsC sy op s N g) (fun c _ => ih _ _ _ _ _ _ _)
          exact Nat.le_trans h1 (subs_len hN g)
/-- what stays when one more name becomes a constructor -/
theorem ext_lk {β : Bd} {x i t : Nat} {r : Nat × Nat} (h : lk ar β (8 + n) t = some r) : lk ar (β ++ [(x, i)]) (8 + n) t = some r := by
  rw [lk_app, h]
theorem ext_cn {β : Bd} {x i t j : Nat} (h : cn n rw ar β t = some j) : cn n rw ar (β ++ [(x, i)]) t = some j := by
  unfold cn at h ⊢
  split
  · next h1 => rw [if_pos h1] at h; exact h
  · next h1 =>
    rw [if_neg h1] at h
    cases hz : lk ar β (8 + n) t with
    | none => rw [hz] at h; cases h
    | some r => rw [hz] at h; rw [ext_lk hz]; exact h
theorem ext_ch {β : Bd} {x i t j k : Nat} (h : cn n rw ar β t = some j) : chT n rw te ar (β ++ [(x, i)]) t k = chT n rw te ar β t k := by
  unfold cn at h
  unfold chT
  split
  · rfl
  · next h1 =>
    rw [if_neg h1] at h
    cases hz : lk ar β (8 + n) t with
    | none => rw [hz] at h; cases h
    | some r => rw [ext_lk hz]
theorem ext_nm {β : Bd} {x i t : Nat} (h : nmId n ar β t) : nmId n ar (β ++ [(x, i)]) t := by
  rcases h with q | q
  · exact Or.inl q
  · exact Or.inr ⟨q.1, by rw [sz_app]; omega⟩
theorem ext_id {β : Bd} {x i t : Nat} (h : VId n rw ar β t) : VId n rw ar (β ++ [(x, i)]) t := by
  rcases h with q | q
  · exact Or.inl q
  · exact Or.inr (ext_nm q)
theorem new_cn {β : Bd} {x i : Nat} (hx : nmId n ar β x) (hf : lk ar β (8 + n) x = none) : cn n rw ar (β ++ [(x, i)]) x = some i := by
  unfold cn
  rw [if_neg (nm_row hx), lk_app, hf]
  dsimp only
  rw [if_pos rfl]
  rfl
theorem free_nm {β : Bd} {x : Nat} (h : VId n rw ar β x) (hc : cn n rw ar β x = none) : nmId n ar β x ∧ lk ar β (8 + n) x = none := by
  unfold cn at hc
  rcases h with ⟨h1, h2⟩ | h
  · rw [if_pos h1] at hc; cases hc
  · rw [if_neg (nm_row h)] at hc
    refine ⟨h, ?_⟩
    cases hz : lk ar β (8 + n) x with
    | none => rfl
    | some r => rw [hz] at hc; cases hc
theorem kid_id (hW : TmW n N A rw te ar) (hN : N ≤ 60) {β : Bd} (hB : BW n N ar β) {t i k : Nat} (h : VId n rw ar β t) (hc : cn n rw ar β t = some i) (hk : k < ar i) : VId n rw ar β (chT n rw te ar β t k) := by
  unfold cn at hc
  rcases h with ⟨h1, h2⟩ | h
  · rw [if_pos h1] at hc
    obtain ⟨p, rfl⟩ : ∃ p, t = 8 + p := ⟨t - 8, by have := h1.1; omega⟩
    have hp : p < n := by have := h1.2; omega
    have e8 : 8 + p - 8 = p := by omega
    rw [e8] at h2 hc
    obtain ⟨-, -, h5⟩ := hW.2.2.2 p hp
    rcases h5 with ⟨a1, a2⟩ | ⟨j, a1, a2, a3, a4⟩
    · exact absurd a1 h2
    · rw [a2, nI_clamp (by omega)] at hc
      cases hc
      have hkn := a4 k hk
      have hri : rowId n (8 + ch te (p + 1) k) := ⟨by omega, by omega⟩
      have := can_VId (rw := rw) (en := te) (ar := ar) (β := β) hW (Or.inl hri)
      unfold can at this
      rw [if_pos hri, show 8 + ch te (p + 1) k - 8 = ch te (p + 1) k by omega] at this
      unfold chT
      rw [if_pos h1, e8]
      exact this
  · have hnr := nm_row h
    rw [if_neg hnr] at hc
    cases hz : lk ar β (8 + n) t with
    | none => rw [hz] at hc; cases hc
    | some r =>
      obtain ⟨i', f⟩ := r
      rw [hz] at hc
      have hii : i' = i := Option.some.inj hc
      subst hii
      obtain ⟨b1, b2, b3, b4, b5⟩ := hB.lk hz
      unfold chT
      rw [if_neg hnr, hz]
      exact Or.inr (Or.inr ⟨by show 8 + n ≤ f + k; omega, by show f + k < _; omega⟩)
theorem kd_len {β : Bd} {t i : Nat} (h : cn n rw ar β t = some i) : (kd n rw te ar β t).length = ar i := by
  unfold kd
  rw [h]
  simp
theorem kd_get {β : Bd} {t i k : Nat} (h : cn n rw ar β t = some i) (hk : k < ar i) : nth (kd n rw te ar β t) k = chT n rw te ar β t k := by
  rw [gD (by rw [kd_len h]; exact hk)]
  unfold kd
  simp [h]
end
