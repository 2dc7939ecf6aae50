/-! the reference's terms -/
section
variable {N n A : Nat} {ar : Nat → Nat} {rw : Nat → Int32} {te : Nat → Nat} {κ kb : Nat → Nat}
def rn (n t : Nat) : Nat := if t < 8 then t else t - n
def TKW (n N A : Nat) (rw : Nat → Int32) (te ar κ kb : Nat → Nat) : Prop := (∀ p, p < n → κ p < n) ∧ (∀ p, p < n → ∀ i, i < N → rw p = nI i → ∀ k, k < ar i → κ (ch te (p + 1) k) = kb p + k) ∧ ∀ k, k < A → κ (ch te 0 k) = k
/-- how many cells there are -/
def cz (n : Nat) (ar : Nat → Nat) (β : Bd) : Nat := n + β.length + sz ar β
def RT (n : Nat) (rw : Nat → Int32) (ar κ kb : Nat → Nat) (β : Bd) (m : St) : Prop :=
  gF m 15 = nI (cz n ar β) ∧ gF m 16 = nI (8 + sz ar β) ∧ (∀ p, p < n → gA m 26 (κ p) = rw p ∧ (¬ rw p < 0 → gA m 27 (κ p) = nI (kb p))) ∧ (∀ t, nmId n ar β t → lk ar β (8 + n) t = none → gA m 28 (rn n t) = -1) ∧
  ∀ β1 t i β2, β = β1 ++ (t, i) :: β2 → gA m 28 (rn n t) = nI (cz n ar β1) ∧ gA m 26 (cz n ar β1) = nI i ∧ gA m 27 (cz n ar β1) = nI (cz n ar β1 + 1) ∧ ∀ k, k < ar i → gA m 26 (cz n ar β1 + 1 + k) = -1 - nI (8 + sz ar β1 + k)
theorem cz_split {β β1 β2 : Bd} {t i : Nat} (h : β = β1 ++ (t, i) :: β2) : cz n ar β1 + 1 + ar i ≤ cz n ar β := by
  unfold cz
  rw [h, sz_app, sz_cons, List.length_append, List.length_cons]
  omega
theorem rn_lt {β : Bd} {t : Nat} (h : nmId n ar β t) : rn n t < 8 + sz ar β := by
  unfold rn
  rcases h with q | q
  · rw [if_pos q]; omega
  · by_cases h8 : t < 8
    · rw [if_pos h8]; omega
    · rw [if_neg h8]; omega
theorem rn_inj {β : Bd} {t u : Nat} (h : nmId n ar β t) (h2 : nmId n ar β u) (e : rn n t = rn n u) : t = u := by
  unfold rn at e
  rcases h with q | q <;> rcases h2 with p | p
  · rw [if_pos q, if_pos p] at e; exact e
  · rw [if_pos q] at e
    by_cases h8 : u < 8
    · omega
    · rw [if_neg h8] at e; omega
  · rw [if_pos p] at e
    by_cases h8 : t < 8
    · omega
    · rw [if_neg h8] at e; omega
  · by_cases h8 : t < 8
    · omega
    · by_cases h9 : u < 8
      · omega
      · rw [if_neg h8, if_neg h9] at e; omega
theorem BW.split_nm {β β1 β2 : Bd} {t i : Nat} (hB : BW n N ar β) (h : β = β1 ++ (t, i) :: β2) : nmId n ar β t := by
  have h1 := (hB β1 t i β2 h).2.2
  rcases h1 with q | q
  · exact Or.inl q
  · exact Or.inr ⟨q.1, by rw [h, sz_app]; omega⟩
theorem RT.kept {β : Bd} {m m' : St} (hB : BW n N ar β) (hK : TKW n N A rw te ar κ kb) (h : RT n rw ar κ kb β m) (h15 : gF m' 15 = gF m 15) (h16 : gF m' 16 = gF m 16) (h26 : ∀ y, y < cz n ar β → gA m' 26 y = gA m 26 y) (h27 : ∀ y, y < cz n ar β → gA m' 27 y = gA m 27 y) (h28 : ∀ y, y < 8 + sz ar β → gA m' 28 y = gA m 28 y) : RT n rw ar κ kb β m' := by
  obtain ⟨a1, a2, a3, a4, a5⟩ := h
  refine ⟨by rw [h15]; exact a1, by rw [h16]; exact a2, fun p hp => ?_, fun t ht hl => ?_, fun β1 t i β2 he => ?_⟩
  · have := hK.1 p hp
    have hc : κ p < cz n ar β := by unfold cz; omega
    rw [h26 _ hc, h27 _ hc]
    exact a3 p hp
  · rw [h28 _ (rn_lt ht)]; exact a4 t ht hl
  · have hc := cz_split (n := n) (ar := ar) he
    obtain ⟨b1, b2, b3, b4⟩ := a5 β1 t i β2 he
    rw [h28 _ (rn_lt (hB.split_nm he)), h26 _ (by omega), h27 _ (by omega)]
    exact ⟨b1, b2, b3, fun k hk => by rw [h26 _ (by omega)]; exact b4 k hk⟩
/-- a cell of the reference means an id -/
def NR (n : Nat) (ar κ : Nat → Nat) (β : Bd) (m : St) (t y : Nat) : Prop := y < cz n ar β ∧ ((rowId n t ∧ y = κ (t - 8)) ∨ (¬ rowId n t ∧ gA m 26 y = -1 - nI (rn n t)))
theorem neg_nm {k : Nat} (h : k < 2 ^ 31) : (-1 : Int32) - nI k < 0 ∧ (-1 : Int32) - ((-1 : Int32) - nI k) = nI k := by
  have h1 : ((-1 : Int32) - nI k).toInt = -1 - (k : Int) := by
    rw [Int32.toInt_sub, nI_toInt h]
    show (-1 - (k : Int)).bmod (2 ^ 32) = _
    apply Int.bmod_eq_of_le <;> omega
  refine ⟨?_, ?_⟩
  · rw [Int32.lt_iff_toInt_lt, h1]
    show -1 - (k : Int) < 0
    omega
  · apply Int32.toInt_inj.mp
    rw [Int32.toInt_sub, h1, nI_toInt h]
    show (-1 - (-1 - (k : Int))).bmod (2 ^ 32) = _
    rw [show (-1 - (-1 - (k : Int))) = (k : Int) by omega]
    apply Int.bmod_eq_of_le <;> omega
theorem here_eq (hW : TmW n N A rw te ar) (hN : N ≤ 60) (har : ∀ c, c < N → ar c ≤ 4) (hK : TKW n N A rw te ar κ kb) {β : Bd} {m : St} (hB : BW n N ar β) (hl : β.length ≤ 160) (h : RT n rw ar κ kb β m) {t y : Nat} (hv : VId n rw ar β t) (hy : NR n ar κ β m t y) :
    ∃ z, F_X9_here (nI y) m = some (nI z, m) ∧ z < cz n ar β ∧ (match cn n rw ar β t with
      | some i => gA m 26 z = nI i ∧ ∃ b, gA m 27 z = nI b ∧ ∀ k, k < ar i → NR n ar κ β m (chT n rw te ar β t k) (b + k)
      | none => gA m 26 z = -1 - nI (rn n t)) := by
  have hn := hW.1.1
  have hsz := (Vl_facts hW.1 β hB har).2.2.2
  have hcz : cz n ar β ≤ 960 := by unfold cz; omega
  obtain ⟨a1, a2, a3, a4, a5⟩ := h
  obtain ⟨y1, y2⟩ := hy
  unfold F_X9_here
  rw [show (5000 : Nat) = 4998 + 1 + 1 from rfl, F_X9_here_2, ck_in (by omega) (by omega), bd_r, nI_clamp (n := y) (by omega)]
  rcases hv with ⟨h1, h2⟩ | h1
  · -- a number of the row
    obtain ⟨p, rfl⟩ : ∃ p, t = 8 + p := ⟨t - 8, by have := h1.1; omega⟩
    have hp : p < n := by have := h1.2; omega
    have e8 : 8 + p - 8 = p := by omega
    rw [e8] at h2
    have hyk : y = κ p := by
      rcases y2 with q | q
      · rw [q.2, e8]
      · exact absurd h1 q.1
    obtain ⟨b1, b2⟩ := a3 p hp
    have hcn : cn n rw ar β (8 + p) = some (rw p).toNatClampNeg := by unfold cn; rw [if_pos h1, e8]
    obtain ⟨-, -, h5⟩ := hW.2.2.2 p hp
    rcases h5 with ⟨q1, -⟩ | ⟨i, q1, q2, q3, q4⟩
    · exact absurd q1 h2
    · have hci : (rw p).toNatClampNeg = i := by rw [q2]; exact nI_clamp (by omega)
      rw [hcn, hci, hyk, b1, if_pos (Int32.not_lt.mp h2)]
      refine ⟨κ p, rfl, by rw [← hyk]; exact y1, by rw [b1, q2], kb p, b2 h2, fun k hk => ?_⟩
      · have hq := q4 k hk
        have hkk := hK.2.1 p hp i q1 q2 k hk
        have hlt := hK.1 _ hq
        refine ⟨by unfold cz; omega, ?_⟩
        unfold chT
        rw [if_pos h1, e8]
        unfold mtp
        by_cases hv : rw (ch te (p + 1) k) < 0
        · rw [if_pos hv]
          have h8 := hW.1.2 _ hq hv
          obtain ⟨j, hj, e1, e2, e3⟩ := neg_name hv
          rw [e1, nI_clamp hj] at h8 ⊢
          right
          refine ⟨fun z => by have := z.1; omega, ?_⟩
          unfold rn
          rw [if_pos h8, e3, ← hkk]
          exact (a3 _ hq).1
        · rw [if_neg hv]
          left
          exact ⟨⟨by omega, by omega⟩, by rw [show 8 + ch te (p + 1) k - 8 = ch te (p + 1) k by omega, hkk]⟩
  · -- a name
    have hnr := nm_row h1
    have hcell : gA m 26 y = -1 - nI (rn n t) := by
      rcases y2 with q | q
      · exact absurd q.1 hnr
      · exact q.2
    have hrl := rn_lt h1
    obtain ⟨e1, e2⟩ := neg_nm (k := rn n t) (by omega)
    rw [hcell, if_neg (Int32.not_le.mpr e1), ck_in (by omega) (by omega), bd_r, e2, ck_in (by omega) (by omega), bd_r, nI_clamp (n := rn n t) (by omega)]
    have hcn : cn n rw ar β t = (lk ar β (8 + n) t).map fun r => r.1 := by unfold cn; rw [if_neg hnr]
    rw [hcn]
    cases hz : lk ar β (8 + n) t with
    | none =>
      rw [a4 t h1 hz, if_pos (by decide)]
      exact ⟨y, rfl, y1, hcell⟩
    | some r =>
      obtain ⟨i, f⟩ := r
      obtain ⟨β1, β2, s1, s2, s3⟩ := lk_split β (8 + n) t i f hz
      obtain ⟨b1, b2, b3, b4⟩ := a5 β1 t i β2 s1
      have hc := cz_split (n := n) (ar := ar) s1
      have hi := (hB β1 t i β2 s1).1
      rw [b1, if_neg (nI_pos (by omega)), ck_in (by omega) (by omega), bd_r, e2, ck_in (by omega) (by omega), bd_r, nI_clamp (n := rn n t) (by omega), b1, F_X9_here_2, ck_in (by omega) (by omega), bd_r, nI_clamp (n := cz n ar β1) (by omega), b2, if_pos (nI_pos' (by omega))]
      show ∃ z, some (nI (cz n ar β1), m) = some (nI z, m) ∧ z < cz n ar β ∧ (gA m 26 z = nI i ∧ ∃ b, gA m 27 z = nI b ∧ ∀ k, k < ar i → NR n ar κ β m (chT n rw te ar β t k) (b + k))
      refine ⟨cz n ar β1, rfl, by omega, b2, cz n ar β1 + 1, b3, fun k hk => ⟨by omega, Or.inr ?_⟩⟩
      unfold chT
      rw [if_neg hnr, hz]
      dsimp only
      refine ⟨fun z => by have := z.2; omega, ?_⟩
      rw [b4 k hk]
      unfold rn
      rw [if_neg (by omega), s2, show 8 + n + sz ar β1 + k - n = 8 + sz ar β1 + k by omega]
end
