/-! how high the stack grows while terms are told -/
section
variable {N n A : Nat} {ar : Nat → Nat} {rw : Nat → Int32} {te : Nat → Nat} {κ kb : Nat → Nat} {β : Bd}
/-- where in the row of those that became constructors an id stands -/
def bix : Bd → Nat → Nat
  | [], _ => 0
  | (x, _) :: β, t => if x = t then 0 else bix β t + 1
theorem bix_le (t : Nat) : ∀ β : Bd, bix β t ≤ β.length := by
  intro β
  induction β with
  | nil => exact Nat.le_refl _
  | cons y β ih =>
    obtain ⟨x, c⟩ := y
    rw [bix, List.length_cons]
    split <;> omega
theorem bix_split {t : Nat} : ∀ (β β1 β2 : Bd) (i b : Nat), β = β1 ++ (t, i) :: β2 → lk ar β1 b t = none → bix β t = β1.length := by
  intro β β1
  induction β1 generalizing β with
  | nil =>
    intro β2 i b h _
    rw [h]
    show (if t = t then 0 else _) = 0
    rw [if_pos rfl]
  | cons y β1 ih =>
    intro β2 i b h hl
    obtain ⟨x, c⟩ := y
    rw [lk] at hl
    have hx : ¬ x = t := by
      intro z
      rw [if_pos z] at hl
      cases hl
    rw [if_neg hx] at hl
    rw [h]
    show (if x = t then 0 else bix (β1 ++ (t, i) :: β2) t + 1) = _
    rw [if_neg hx, ih _ β2 i _ rfl hl]
    rfl
theorem bix_none {t : Nat} : ∀ (β : Bd), (∀ y, y ∈ β → y.1 ≠ t) → bix β t = β.length := by
  intro β
  induction β with
  | nil => intro _; rfl
  | cons y β ih =>
    intro h
    obtain ⟨x, c⟩ := y
    rw [bix, if_neg (h (x, c) List.mem_cons_self), ih (fun y hy => h y (List.mem_cons_of_mem _ hy)), List.length_cons]
/-- a part stands behind that of which it is -/
theorem bix_part (hB : BW n N ar β) {t i f k : Nat} (hl : lk ar β (8 + n) t = some (i, f)) (hk : k < ar i) : bix β t < bix β (f + k) := by
  obtain ⟨β1, β2, s1, s2, s3⟩ := lk_split β (8 + n) t i f hl
  rw [bix_split β β1 β2 i _ s1 s3]
  cases hz : lk ar β (8 + n) (f + k) with
  | none =>
    rw [bix_none β ((lk_none β (8 + n) (f + k)).mp hz), s1, List.length_append, List.length_cons]
    omega
  | some r =>
    obtain ⟨i', f'⟩ := r
    obtain ⟨γ1, γ2, u1, u2, u3⟩ := lk_split β (8 + n) (f + k) i' f' hz
    rw [bix_split β γ1 γ2 i' _ u1 u3]
    have h3 := (hB γ1 (f + k) i' γ2 u1).2.2
    -- a shorter row would not have the id yet
    refine Nat.lt_of_not_le fun hle => ?_
    have hpre : sz ar γ1 ≤ sz ar β1 := by
      have e : γ1 ++ (f + k, i') :: γ2 = β1 ++ (t, i) :: β2 := by rw [← u1, ← s1]
      have h5 : γ1 = β1.take γ1.length := by
        have h6 : (γ1 ++ (f + k, i') :: γ2).take γ1.length = (β1 ++ (t, i) :: β2).take γ1.length := by rw [e]
        rw [List.take_append_of_le_length (Nat.le_refl _), List.take_length, List.take_append_of_le_length hle] at h6
        exact h6
      have h7 : sz ar β1 = sz ar (β1.take γ1.length) + sz ar (β1.drop γ1.length) := by rw [← sz_app, List.take_append_drop]
      rw [← h5] at h7
      omega
    rcases h3 with q | q <;> omega
def ht (β : Bd) (t : Nat) : Nat := 1 + 3 * (β.length - bix β t)
def EB (n : Nat) (ar : Nat → Nat) (β : Bd) : List Nat → Prop
  | [] => True
  | t :: E => nmId n ar β t ∧ 8 + n ≤ t ∧ E.length + ht β t ≤ 3 * β.length + 1 ∧ EB n ar β E
theorem EB.push {f a : Nat} {E : List Nat} (hE : EB n ar β E) (hid : ∀ k, k < a → nmId n ar β (f + k) ∧ 8 + n ≤ f + k) (hb : ∀ k, k < a → E.length + 3 + ht β (f + k) ≤ 3 * β.length + 1) (ha : a ≤ 4) : EB n ar β ((List.range a).map (fun k => f + k) ++ E) := by
  have key : ∀ d k, k + d = a → EB n ar β ((List.range' k d).map (fun k => f + k) ++ E) := by
    intro d
    induction d with
    | zero => intro k _; exact hE
    | succ d ih =>
      intro k hk
      rw [List.range'_succ, List.map_cons, List.cons_append]
      refine ⟨(hid k (by omega)).1, (hid k (by omega)).2, ?_, ih (k + 1) (by omega)⟩
      have := hb k (by omega)
      rw [List.length_append, List.length_map, List.length_range']
      omega
  rw [List.range_eq_range']
  exact key a 0 (by omega)
def SB (n : Nat) (rw : Nat → Int32) (te ar : Nat → Nat) (β : Bd) (S : List Nat) : Prop := ∃ E p, S = E ++ (orb te n 200 p).map (mtp rw) ∧ EB n ar β E
theorem orb_len (he : ∀ p, p < n → p < te p) : ∀ f p, (orb te n f p).length ≤ n - p := by
  intro f
  induction f with
  | zero => intro p; exact Nat.zero_le _
  | succ f ih =>
    intro p
    rw [orb]
    split
    · exact Nat.zero_le _
    · next h =>
      have := ih (te p)
      have := he p (by omega)
      rw [List.length_cons]
      omega
theorem SB.len (hW : TmW n N A rw te ar) (hl : β.length ≤ 160) {S : List Nat} (h : SB n rw te ar β S) : S.length ≤ 650 := by
  obtain ⟨E, p, h1, h2⟩ := h
  have := orb_len (fun p hp => (hW.2.2.2 p hp).1) 200 p
  have hn := hW.1.1
  have hE : E.length ≤ 482 := by
    cases E with
    | nil => simp
    | cons t E =>
      obtain ⟨-, -, h3, -⟩ := h2
      unfold ht at h3
      rw [List.length_cons]
      omega
  rw [h1, List.length_append, List.length_map]
  omega
theorem SB.step (hW : TmW n N A rw te ar) (hN : N ≤ 60) (har : ∀ c, c < N → ar c ≤ 4) (hB : BW n N ar β) {t : Nat} {S : List Nat} (h : SB n rw te ar β (t :: S)) : SB n rw te ar β (kd n rw te ar β t ++ S) := by
  have he : ∀ p, p < n → p < te p := fun p hp => (hW.2.2.2 p hp).1
  have hn := hW.1.1
  obtain ⟨E, p, h1, h2⟩ := h
  -- what a name pushes
  have push : ∀ (u : Nat) (E' : List Nat), nmId n ar β u → EB n ar β E' → (∀ i f, lk ar β (8 + n) u = some (i, f) → E'.length + ht β u ≤ 3 * β.length + 1) → ∃ E2, kd n rw te ar β u ++ E' = E2 ∧ EB n ar β E2 := by
    intro u E' hu hE' hb
    refine ⟨_, rfl, ?_⟩
    have hnr := nm_row hu
    unfold kd cn
    rw [if_neg hnr]
    cases hz : lk ar β (8 + n) u with
    | none => exact hE'
    | some r =>
      obtain ⟨i, f⟩ := r
      obtain ⟨b1, b2, b3, b4, b5⟩ := hB.lk hz
      have h3 := hb i f hz
      show EB n ar β ((List.range (ar i)).map (chT n rw te ar β u) ++ E')
      have e : (List.range (ar i)).map (chT n rw te ar β u) = (List.range (ar i)).map (fun k => f + k) := by
        apply List.map_congr_left
        intro k _
        unfold chT
        rw [if_neg hnr, hz]
      rw [e]
      refine EB.push hE' (fun k hk => ⟨Or.inr ⟨by omega, by omega⟩, by omega⟩) (fun k hk => ?_) (har i b1)
      have h4 := bix_part hB hz hk
      have h5 := bix_le u β
      have h6 := bix_le (f + k) β
      unfold ht at h3 ⊢
      omega
  cases E with
  | nil =>
    rw [List.nil_append] at h1
    have hpn : p < n := by
      rcases Nat.lt_or_ge p n with z | z
      · exact z
      · rw [orb, if_pos z] at h1
        cases h1
    have e1 : orb te n 200 p = p :: orb te n 200 (te p) := by
      have := he p hpn
      rw [orb, if_neg (by omega), orb_fuel he 199 200 (te p) (by omega) (by omega)]
    rw [e1, List.map_cons] at h1
    injection h1 with h3 h4
    obtain ⟨-, -, h5⟩ := hW.2.2.2 p hpn
    rcases h5 with ⟨a1, a2⟩ | ⟨c, a1, a2, a3, a4⟩
    · have h9 := hW.1.2 p hpn a1
      have hm : mtp rw p = (-1 - rw p).toNatClampNeg := if_pos a1
      have hnm : nmId n ar β t := by rw [h3, hm]; exact Or.inl h9
      obtain ⟨E2, k1, k2⟩ := push t [] hnm trivial (fun i f hz => by
        unfold ht
        show 0 + (1 + 3 * (β.length - bix β t)) ≤ _
        omega)
      rw [List.append_nil] at k1
      rw [k1, h4, a2]
      exact ⟨E2, p + 1, rfl, k2⟩
    · have hnv : ¬ rw p < 0 := by rw [a2]; exact nI_pos (by omega)
      have hm : mtp rw p = 8 + p := if_neg hnv
      have hri : rowId n (8 + p) := ⟨by omega, by omega⟩
      have hk : kd n rw te ar β t = ((List.range (ar c)).map (ch te (p + 1))).map (mtp rw) := by
        unfold kd cn
        rw [h3, hm, if_pos hri, show 8 + p - 8 = p by omega, a2, nI_clamp (by omega)]
        dsimp only
        rw [List.map_map]
        apply List.map_congr_left
        intro k _
        unfold chT
        rw [if_pos hri, show 8 + p - 8 = p by omega]
        rfl
      rw [hk, h4]
      rcases orb_ch he (ar c) 0 (ar c) (by omega) (q := p + 1) a4 with h6 | h6
      · have h7 : orb te n 200 (p + 1) = _ := h6
        refine ⟨[], p + 1, ?_, trivial⟩
        rw [List.nil_append, h7, ← a3, List.map_append, List.range_eq_range']
      · omega
  | cons u E =>
    rw [List.cons_append] at h1
    injection h1 with h3 h4
    subst h3
    obtain ⟨g1, g2, g3, g4⟩ := h2
    obtain ⟨E2, k1, k2⟩ := push t E g1 g4 (fun _ _ _ => g3)
    rw [h4, ← List.append_assoc, k1]
    exact ⟨E2, p, rfl, k2⟩
end
