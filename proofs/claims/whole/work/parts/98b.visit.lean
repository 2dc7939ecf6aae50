/-! the terms are told: a stack of ids, the next on top -/
def Vs (n : Nat) (rw : Nat → Int32) (en : Nat → Nat) (ar : Nat → Nat) (β : Bd) : List Nat → List Nat → Prop
  | S, [] => S = []
  | S, t :: L => ∃ S', S = t :: S' ∧ Vs n rw en ar β (kd n rw en ar β t ++ S') L
section
variable {n N A : Nat} {rw : Nat → Int32} {en : Nat → Nat} {ar : Nat → Nat}
theorem Vs.len {β : Bd} : ∀ (L S : List Nat), Vs n rw en ar β S L → S.length ≤ L.length := by
  intro L
  induction L with
  | nil => intro S h; rw [show S = [] from h]; exact Nat.le_refl _
  | cons t L ih =>
    intro S h
    obtain ⟨S', h1, h2⟩ := h
    have := ih _ h2
    rw [List.length_append] at this
    rw [h1, List.length_cons, List.length_cons]
    omega
theorem Vs.free {β : Bd} {S M : List Nat} : ∀ (L : List Nat), (∀ t, t ∈ L → kd n rw en ar β t = []) → Vs n rw en ar β S M → Vs n rw en ar β (L ++ S) (L ++ M) := by
  intro L
  induction L with
  | nil => intro _ h; exact h
  | cons t L ih =>
    intro h1 h2
    refine ⟨L ++ S, rfl, ?_⟩
    rw [h1 t List.mem_cons_self]
    exact ih (fun t' ht => h1 t' (List.mem_cons_of_mem _ ht)) h2
/-- what hangs together in the row -/
def TmW (n N A : Nat) (rw : Nat → Int32) (en : Nat → Nat) (ar : Nat → Nat) : Prop :=
  RwT n rw ∧ ch en 0 A = n ∧ (∀ k, k < A → ch en 0 k < n) ∧ ∀ p, p < n → p < en p ∧ en p ≤ n ∧ ((rw p < 0 ∧ en p = p + 1) ∨ ∃ c, c < N ∧ rw p = nI c ∧ en p = ch en (p + 1) (ar c) ∧ ∀ k, k < ar c → ch en (p + 1) k < n)
/-- a place, and those behind it -/
def orb (en : Nat → Nat) (n : Nat) : Nat → Nat → List Nat
  | 0, _ => []
  | f + 1, p => if n ≤ p then [] else p :: orb en n f (en p)
theorem orb_fuel (he : ∀ p, p < n → p < en p) : ∀ (f f' p : Nat), n - p ≤ f → n - p ≤ f' → orb en n f p = orb en n f' p := by
  intro f
  induction f with
  | zero =>
    intro f' p h1 h2
    cases f' with
    | zero => rfl
    | succ f' => rw [orb, orb, if_pos (by omega)]
  | succ f ih =>
    intro f' p h1 h2
    cases f' with
    | zero => rw [orb, orb, if_pos (by omega)]
    | succ f' =>
      rw [orb, orb]
      by_cases h : n ≤ p
      · rw [if_pos h, if_pos h]
      · have := he p (by omega)
        rw [if_neg h, if_neg h, ih f' (en p) (by omega) (by omega)]
theorem orb_ch (he : ∀ p, p < n → p < en p) {q : Nat} : ∀ (d k m : Nat), k + d = m → (∀ i, i < m → ch en q i < n) → orb en n 200 (ch en q k) = ((List.range' k d).map (ch en q)) ++ orb en n 200 (ch en q m) ∨ 200 < n := by
  intro d
  induction d with
  | zero =>
    intro k m h _
    left
    rw [show k = m by omega]
    rfl
  | succ d ih =>
    intro k m h hc
    by_cases hn : 200 < n
    · exact Or.inr hn
    · left
      rcases ih (k + 1) m (by omega) hc with h2 | h2
      · have h3 := hc k (by omega)
        have h4 := he _ h3
        have h5 : orb en n 200 (ch en q k) = ch en q k :: orb en n 199 (ch en q (k + 1)) := by
          rw [orb, if_neg (by omega)]
          rfl
        rw [h5, orb_fuel he 199 200 _ (by show n - en (ch en q k) ≤ 199; omega) (by omega), h2, List.range'_succ, List.map_cons, List.cons_append]
      · omega
theorem Vs_row (h : TmW n N A rw en ar) (hN : N ≤ 60) : ∀ (d p : Nat), p + d = n → Vs n rw en ar [] ((orb en n 200 p).map (mtp rw)) ((List.range' p d).map (mtp rw)) := by
  obtain ⟨⟨hn, h8⟩, h2, h3, h4⟩ := h
  have he : ∀ p, p < n → p < en p := fun p hp => (h4 p hp).1
  intro d
  induction d with
  | zero =>
    intro p hp
    rw [orb, if_pos (by omega)]
    rfl
  | succ d ih =>
    intro p hp
    have hpn : p < n := by omega
    have e1 : orb en n 200 p = p :: orb en n 200 (en p) := by
      have := he p hpn
      rw [orb, if_neg (by omega), orb_fuel he 199 200 (en p) (by omega) (by omega)]
    rw [e1, List.map_cons, List.range'_succ, List.map_cons]
    refine ⟨(orb en n 200 (en p)).map (mtp rw), rfl, ?_⟩
    have hz : kd n rw en ar [] (mtp rw p) ++ (orb en n 200 (en p)).map (mtp rw) = (orb en n 200 (p + 1)).map (mtp rw) := by
      obtain ⟨-, -, h5⟩ := h4 p hpn
      rcases h5 with ⟨a1, a2⟩ | ⟨c, a1, a2, a3, a4⟩
      · have h9 := h8 p hpn a1
        have hm : mtp rw p = (-1 - rw p).toNatClampNeg := if_pos a1
        have hk : kd n rw en ar [] (mtp rw p) = [] := by
          unfold kd cn
          rw [hm, if_neg (fun z => by have := z.1; omega)]
          rfl
        rw [hk, a2]
        rfl
      · have hnv : ¬ rw p < 0 := by rw [a2]; exact nI_pos (by omega)
        have hm : mtp rw p = 8 + p := if_neg hnv
        have hri : rowId n (8 + p) := ⟨by omega, by omega⟩
        have hk : kd n rw en ar [] (mtp rw p) = ((List.range (ar c)).map (ch en (p + 1))).map (mtp rw) := by
          unfold kd cn
          rw [hm, if_pos hri, show 8 + p - 8 = p by omega, a2, nI_clamp (by omega)]
          dsimp only
          rw [List.map_map]
          apply List.map_congr_left
          intro k _
          unfold chT
          rw [if_pos hri, show 8 + p - 8 = p by omega]
          rfl
        rw [hk]
        rcases orb_ch he (ar c) 0 (ar c) (by omega) (q := p + 1) a4 with h6 | h6
        · have h7 : orb en n 200 (p + 1) = _ := h6
          rw [h7, ← a3, List.map_append, List.range_eq_range']
        · omega
    rw [hz]
    exact ih (p + 1) (by omega)
theorem Vs_top (h : TmW n N A rw en ar) (hN : N ≤ 60) : Vs n rw en ar [] ((chl en 0 A).map (mtp rw)) (Vl n rw ar []) := by
  have h1 := Vs_row h hN n 0 (by omega)
  obtain ⟨⟨hn, h8⟩, h2, h3, h4⟩ := h
  rcases orb_ch (fun p hp => (h4 p hp).1) A 0 A (by omega) (q := 0) h3 with h6 | h6
  · have h7 : orb en n 200 0 = _ := h6
    have h9 : orb en n 200 n = [] := by rw [orb, if_pos (Nat.le_refl _)]
    rw [h7, h2, h9, List.append_nil, ← chl_range', ← List.range_eq_range'] at h1
    exact h1
  · omega
theorem lk_split : ∀ (β : Bd) (b t c f : Nat), lk ar β b t = some (c, f) → ∃ β1 β2, β = β1 ++ (t, c) :: β2 ∧ f = b + sz ar β1 ∧ lk ar β1 b t = none := by
  intro β
  induction β with
  | nil => intro b t c f h; cases h
  | cons y β ih =>
    intro b t c f h
    obtain ⟨y1, y2⟩ := y
    rw [lk] at h
    by_cases hy : y1 = t
    · rw [if_pos hy] at h
      cases h
      rw [hy]
      exact ⟨[], β, rfl, by simp [sz], rfl⟩
    · rw [if_neg hy] at h
      obtain ⟨β1, β2, h1, h2, h3⟩ := ih _ _ _ _ h
      refine ⟨(y1, y2) :: β1, β2, by rw [h1]; rfl, by rw [sz_cons]; omega, ?_⟩
      rw [lk, if_neg hy]
      exact h3
theorem BW.lk {β : Bd} (h : BW n N ar β) {t c f : Nat} (hl : lk ar β (8 + n) t = some (c, f)) : c < N ∧ ¬ rowId n t ∧ t < f ∧ 8 + n ≤ f ∧ f + ar c ≤ 8 + n + sz ar β := by
  obtain ⟨β1, β2, h1, h2, -⟩ := lk_split β (8 + n) t c f hl
  obtain ⟨a1, a2, a3⟩ := h β1 t c β2 h1
  have hs : sz ar β = sz ar β1 + (ar c + sz ar β2) := by rw [h1, sz_app, sz_cons]
  refine ⟨a1, fun z => ?_, ?_, by omega, by omega⟩
  · have z1 := z.1
    have z2 := z.2
    rcases a3 with q | q <;> omega
  · rcases a3 with q | q <;> omega
/-- a name becomes a constructor: what is told then -/
theorem Vs_bind {β : Bd} {x c : Nat} (hB : BW n N ar β) (hx : cn n rw ar β x = none) (hxr : ¬ rowId n x) : ∀ (L S : List Nat), (∀ t, t ∈ L → t < 8 + n + sz ar β) → x < 8 + n + sz ar β → Vs n rw en ar β S L → Vs n rw en ar (β ++ [(x, c)]) S (L.flatMap (exl x (8 + n + sz ar β) (ar c))) := by
  have hlx : lk ar β (8 + n) x = none := by
    unfold cn at hx
    rw [if_neg hxr] at hx
    cases hz : lk ar β (8 + n) x with
    | none => rfl
    | some r => rw [hz] at hx; cases hx
  have hkx : kd n rw en ar β x = [] := by unfold kd; rw [hx]
  have hlk : ∀ t, t ≠ x → lk ar (β ++ [(x, c)]) (8 + n) t = lk ar β (8 + n) t := by
    intro t ht
    rw [lk_app]
    cases lk ar β (8 + n) t with
    | none => dsimp only; rw [if_neg (fun z => ht z.symm)]
    | some r => rfl
  have hko : ∀ t, t ≠ x → kd n rw en ar (β ++ [(x, c)]) t = kd n rw en ar β t := by
    intro t ht
    unfold kd cn chT
    rw [hlk t ht]
  have hkn : kd n rw en ar (β ++ [(x, c)]) x = (List.range (ar c)).map (fun k => 8 + n + sz ar β + k) := by
    unfold kd cn chT
    rw [if_neg hxr, lk_app, hlx]
    dsimp only
    rw [if_pos rfl]
    simp only [Option.map]
    apply List.map_congr_left
    intro k _
    rw [if_neg hxr]
  intro L
  induction L with
  | nil => intro S _ _ h; exact h
  | cons t L ih =>
    intro S hL hxb h
    obtain ⟨S', h1, h2⟩ := h
    have ht := hL t List.mem_cons_self
    have hL' : ∀ t, t ∈ L → t < 8 + n + sz ar β := fun t' ht' => hL t' (List.mem_cons_of_mem _ ht')
    rw [List.flatMap_cons]
    by_cases htx : t = x
    · subst htx
      have e : exl t (8 + n + sz ar β) (ar c) t = t :: (List.range (ar c)).map (fun k => 8 + n + sz ar β + k) := if_pos rfl
      rw [e]
      refine ⟨S', h1, ?_⟩
      rw [hkn]
      refine Vs.free _ (fun y hy => ?_) ?_
      · obtain ⟨k, hk, e2⟩ := List.mem_map.mp hy
        have hk := List.mem_range.mp hk
        have hne : y ≠ t := by omega
        rw [hko y hne]
        unfold kd cn
        rw [if_neg (fun z => by have := z.2; omega)]
        have : lk ar β (8 + n) y = none := by
          cases hz : lk ar β (8 + n) y with
          | none => rfl
          | some r =>
            exfalso
            have := (hB.lk (c := r.1) (f := r.2) hz)
            omega
        rw [this]
        rfl
      · rw [hkx, List.nil_append] at h2
        exact ih S' hL' hxb h2
    · have e : exl x (8 + n + sz ar β) (ar c) t = [t] := if_neg htx
      rw [e]
      refine ⟨S', h1, ?_⟩
      rw [hko t htx]
      exact ih _ hL' hxb h2
end
