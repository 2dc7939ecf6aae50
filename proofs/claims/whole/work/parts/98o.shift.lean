/-! the reference's terms at the open spots -/
section
variable {σ : St} {f : Nat → Int32} {s K n b : Nat}
theorem sh19 (hK : K ≤ 170) : ∀ (d w k : Nat), k + d = K → s + 1 ≤ k → d < w → F_X9_shift_19 w (nI s) (nI n) (nI b) (nI K) (nI k) (sA σ 29 (shl f 0 s k)) = F_X9_shift_48 (nI s) (nI n) (nI b) (sA σ 29 (shl f 0 s K)) := by
  intro d
  induction d with
  | zero =>
    intro w k hk hs hw
    obtain ⟨w, rfl⟩ : ∃ z, w = z + 1 := ⟨w - 1, by omega⟩
    rw [F_X9_shift_19, if_pos (nI_le (by omega) (by omega)), show k = K by omega]
  | succ d ih =>
    intro w k hk hs hw
    obtain ⟨w, rfl⟩ : ∃ z, w = z + 1 := ⟨w - 1, by omega⟩
    have hrd : shl f 0 s k k = f k := if_neg (by omega)
    have e := shl_s (f := f) (o := 0) (s := s) (k := k) hs
    rw [Nat.zero_add] at e
    rw [F_X9_shift_19, if_neg (nI_ge (by omega) (by omega)), ck_in (by omega) (by omega), bd_r, nI_clamp (n := k) (by omega), gA_sA_s, hrd, sub_one (by omega), ck_in (by omega) (by omega), bd_r, nI_clamp (n := k - 1) (by omega), e, sA_sA, nI_1]
    exact ih w (k + 1) (by omega) (by omega) (by omega)
theorem sh57 (hn1 : 1 ≤ n) (hs : s < K) (hK : K + n ≤ 170) : ∀ (d w k : Nat), k = s + d → k < K → d < w → F_X9_shift_57 w (nI s) (nI n) (nI b) (nI k) (sA σ 29 (shr f 0 k n K)) = F_X9_shift_87 (nI s) (nI n) (nI b) (sA σ 29 (shr f 0 s n K)) := by
  intro d
  induction d with
  | zero =>
    intro w k hk hs hw
    obtain ⟨w, rfl⟩ : ∃ z, w = z + 1 := ⟨w - 1, by omega⟩
    rw [F_X9_shift_57, if_pos (nI_le (by omega) (by omega)), show k = s by omega]
  | succ d ih =>
    intro w k hk hkK hw
    obtain ⟨w, rfl⟩ : ∃ z, w = z + 1 := ⟨w - 1, by omega⟩
    obtain ⟨k, rfl⟩ : ∃ z, k = z + 1 := ⟨k - 1, by omega⟩
    have hrd : shr f 0 (k + 1) n K (k + 1) = f (k + 1) := if_neg (by omega)
    have e := shr_s (f := f) (o := 0) hkK hn1
    rw [Nat.zero_add] at e
    rw [F_X9_shift_57, if_neg (nI_ge (by omega) (by omega)), ck_in (by omega) (by omega), bd_r, nI_clamp (n := k + 1) (by omega), gA_sA_s, hrd, nI_add, sub_one (by omega), ck_in (by omega) (by omega), bd_r, nI_clamp (n := k + 1 + n - 1) (by omega), e, sA_sA, pk_m1]
    exact ih w k (by omega) (by omega) (by omega)
theorem sh90 (hs : s + n ≤ 170) : ∀ (d w k : Nat), k + d = n → d < w → F_X9_shift_90 w (nI s) (nI n) (nI b) (nI k) (sA σ 29 (put f s ((List.range k).map fun i => b + i))) = some (0, sA σ 29 (put f s ((List.range n).map fun i => b + i))) := by
  intro d
  induction d with
  | zero =>
    intro w k hk hw
    obtain ⟨w, rfl⟩ : ∃ z, w = z + 1 := ⟨w - 1, by omega⟩
    rw [F_X9_shift_90, if_pos (nI_le (by omega) (by omega)), show k = n by omega]
  | succ d ih =>
    intro w k hk hw
    obtain ⟨w, rfl⟩ : ∃ z, w = z + 1 := ⟨w - 1, by omega⟩
    have e := put_snoc f s ((List.range k).map fun i => b + i) (b + k)
    rw [List.length_map, List.length_range] at e
    have e2 : (List.range k).map (fun i => b + i) ++ [b + k] = (List.range (k + 1)).map fun i => b + i := by rw [List.range_succ, List.map_append]; rfl
    rw [e2] at e
    rw [F_X9_shift_90, if_neg (nI_ge (by omega) (by omega)), nI_add, nI_add, ck_in (by omega) (by omega), bd_r, nI_clamp (n := s + k) (by omega), gA_sA_s, e, sA_sA, nI_1]
    exact ih w (k + 1) (by omega) (by omega)
theorem shift_eq {tr : List Nat} {m : St} (hl : tr.length = K) (hs : s < K) (hK : K + n ≤ 165) (h7 : gF m 7 = nI (K + n - 1)) (hseg : seg (gA m 29) 0 tr) : ∃ f', F_X9_shift (nI s) (nI n) (nI b) m = some (0, sA m 29 f') ∧ seg f' 0 (opL tr ((List.range n).map fun i => b + i) s) := by
  have hlen : (opL tr ((List.range n).map fun i => b + i) s).length = K - 1 + n := by rw [opL_len (by omega), List.length_map, List.length_range, hl]
  have hb : (nI (K + n - 1) - nI n) + 1 = nI K := by rw [pk_sub (by omega), nI_1]; congr 1; omega
  unfold F_X9_shift
  rw [h7, hb, bd_r]
  by_cases hn : n = 0
  · subst hn
    have h5 := sh19 (σ := m) (f := gA m 29) (s := s) (K := K) (n := 0) (b := b) (by omega) (K - (s + 1)) 5000 (s + 1) (by omega) (by omega) (by omega)
    rw [shl_0, sA_gA] at h5
    have h6 := sh90 (σ := m) (f := shl (gA m 29) 0 s K) (s := s) (n := 0) (b := b) (by omega) 0 5000 0 (by omega) (by omega)
    rw [if_pos (by rfl), nI_1, bd_r, h5, F_X9_shift_48, F_X9_shift_87]
    rw [List.range_zero, List.map_nil, put_nil] at h6
    refine ⟨shl (gA m 29) 0 s K, h6, fun t ht => ?_⟩
    rw [hlen] at ht
    by_cases h2 : t < s
    · rw [opL_lo (by omega) h2, ← hseg t (by omega)]
      exact if_neg (by omega)
    · obtain ⟨z, rfl⟩ : ∃ z, t = s + 0 + z := ⟨t - s, by omega⟩
      have h3 := opL_hi (l := tr) (c := (List.range 0).map fun i => b + i) (s := s) (i := z) (by omega)
      rw [List.length_map, List.length_range] at h3
      rw [h3, ← hseg (s + 1 + z) (by omega)]
      unfold shl
      rw [if_pos (by omega)]
      congr 1
      omega
  · have h5 := sh57 (σ := m) (f := gA m 29) (s := s) (K := K) (n := n) (b := b) (by omega) hs (by omega) (K - 1 - s) 5000 (K - 1) (by omega) (by omega) (by omega)
    rw [shr_0 _ (by omega), sA_gA] at h5
    have h6 := sh90 (σ := m) (f := shr (gA m 29) 0 s n K) (s := s) (n := n) (b := b) (by omega) n 5000 0 (by omega) (by omega)
    rw [List.range_zero, List.map_nil, put_nil] at h6
    rw [if_neg (nI_ne0 (by omega) (by omega)), sub_one (by omega), bd_r, h5, F_X9_shift_87]
    refine ⟨_, h6, fun t ht => ?_⟩
    rw [hlen] at ht
    rw [Nat.zero_add]
    by_cases h2 : t < s
    · rw [opL_lo (by omega) h2, put_out (by omega)]
      have h4 := hseg t (by omega)
      rw [Nat.zero_add] at h4
      rw [← h4]
      exact if_neg (by omega)
    · by_cases h3 : t < s + n
      · obtain ⟨z, rfl⟩ : ∃ z, t = s + z := ⟨t - s, by omega⟩
        rw [opL_mid (by omega) (by simp; omega), put_in (by simp; omega)]
      · obtain ⟨z, rfl⟩ : ∃ z, t = s + n + z := ⟨t - s - n, by omega⟩
        have h4 := opL_hi (l := tr) (c := (List.range n).map fun i => b + i) (s := s) (i := z) (by omega)
        rw [List.length_map, List.length_range] at h4
        have h7 := hseg (s + 1 + z) (by omega)
        rw [Nat.zero_add] at h7
        rw [h4, ← h7, put_out (by simp)]
        unfold shr
        rw [if_pos (by omega)]
        congr 1
        omega
theorem sb12 (hs : s < K) (hK : K ≤ 170) (x3 : Int32) : ∀ (d w k : Nat), k = s + d → k < K → d < w → F_X9_shiftBack_12 w (nI s) x3 (nI k) (sA σ 29 (shB f 0 k K)) = F_X9_shiftBack_40 (nI s) x3 (sA σ 29 (shB f 0 s K)) := by
  intro d
  induction d with
  | zero =>
    intro w k hk hkK hw
    obtain ⟨w, rfl⟩ : ∃ z, w = z + 1 := ⟨w - 1, by omega⟩
    rw [F_X9_shiftBack_12, if_pos (nI_le (by omega) (by omega)), show k = s by omega]
  | succ d ih =>
    intro w k hk hkK hw
    obtain ⟨w, rfl⟩ : ∃ z, w = z + 1 := ⟨w - 1, by omega⟩
    obtain ⟨k, rfl⟩ : ∃ z, k = z + 1 := ⟨k - 1, by omega⟩
    have hrd : shB f 0 (k + 1) K k = f k := if_neg (by omega)
    have e := shB_s (f := f) (o := 0) hkK
    rw [Nat.zero_add, show k + 1 - 1 = k by omega] at e
    rw [F_X9_shiftBack_12, if_neg (nI_ge (by omega) (by omega)), sub1, ck_in (by omega) (by omega), bd_r, nI_clamp (n := k) (by omega), gA_sA_s, hrd, ck_in (by omega) (by omega), bd_r, nI_clamp (n := k + 1) (by omega), e, sA_sA, pk_m1]
    exact ih w k (by omega) (by omega) (by omega)
theorem sb48 (hn : 1 ≤ n) (hK7 : gF σ 7 = nI K) (hK : K + n ≤ 170) (x3 : Int32) : ∀ (d w k : Nat), k + d = K → s + 1 ≤ k → d < w → F_X9_shiftBack_48 w (nI s) (nI n) x3 (nI k) (sA σ 29 (shC f 0 s k n)) = F_X9_shiftBack_81 (nI s) x3 (sA σ 29 (shC f 0 s K n)) := by
  intro d
  induction d with
  | zero =>
    intro w k hk hs hw
    obtain ⟨w, rfl⟩ : ∃ z, w = z + 1 := ⟨w - 1, by omega⟩
    rw [F_X9_shiftBack_48, gF_sA, hK7, if_pos (nI_le (by omega) (by omega)), show k = K by omega]
  | succ d ih =>
    intro w k hk hs hw
    obtain ⟨w, rfl⟩ : ∃ z, w = z + 1 := ⟨w - 1, by omega⟩
    have hrd : shC f 0 s k n (k + n - 1) = f (k + n - 1) := if_neg (by omega)
    have e := shC_s (f := f) (o := 0) (n := n) hs
    rw [Nat.zero_add] at e
    rw [F_X9_shiftBack_48, gF_sA, hK7, if_neg (nI_ge (by omega) (by omega)), nI_add, sub_one (by omega), ck_in (by omega) (by omega), bd_r, nI_clamp (n := k + n - 1) (by omega), gA_sA_s, hrd, ck_in (by omega) (by omega), bd_r, nI_clamp (n := k) (by omega), e, sA_sA, nI_1]
    exact ih w (k + 1) (by omega) (by omega) (by omega)
theorem shiftBack_eq {tr c : List Nat} {m : St} (hl : tr.length = K) (hc : c.length = n) (hs : s < K) (hK : K + n ≤ 165) (h7 : gF m 7 = nI K) (hseg : seg (gA m 29) 0 (opL tr c s)) : ∃ f', F_X9_shiftBack (nI s) (nI n) (nI (nth tr s)) m = some (0, sA m 29 f') ∧ seg f' 0 tr := by
  have hlen : (opL tr c s).length = K - 1 + n := by rw [opL_len (by omega), hc, hl]
  have hend : ∀ g, F_X9_shiftBack_81 (nI s) (nI (nth tr s)) (sA m 29 g) = some (0, sA m 29 (upd g s (nI (nth tr s)))) := by
    intro g
    rw [F_X9_shiftBack_81, ck_in (by omega) (by omega), bd_r, nI_clamp (by omega), gA_sA_s, sA_sA]
  unfold F_X9_shiftBack
  by_cases hn : n = 0
  · subst hn
    have h5 := sb12 (σ := m) (f := gA m 29) hs (by omega) (nI (nth tr s)) (K - 1 - s) 5000 (K - 1) (by omega) (by omega) (by omega)
    rw [shB_0 _ _ _ (by omega), sA_gA] at h5
    rw [if_pos (by rfl), h7, sub_one (by omega), bd_r, h5, F_X9_shiftBack_40, hend]
    refine ⟨_, rfl, fun t ht => ?_⟩
    rw [Nat.zero_add]
    by_cases h1 : t = s
    · rw [h1, upd_s]
    · rw [upd_n _ _ h1]
      by_cases h2 : t < s
      · have h4 := hseg t (by omega)
        rw [Nat.zero_add, opL_lo (by omega) h2] at h4
        rw [← h4]
        exact if_neg (by omega)
      · obtain ⟨z, rfl⟩ : ∃ z, t = s + 1 + z := ⟨t - s - 1, by omega⟩
        have h4 := hseg (s + z) (by omega)
        have h6 := opL_hi (l := tr) (c := c) (s := s) (i := z) (by omega)
        rw [hc, Nat.add_zero] at h6
        rw [Nat.zero_add, h6] at h4
        rw [← h4]
        unfold shB
        rw [if_pos (by omega)]
        congr 1
        omega
  · have h5 := sb48 (σ := m) (f := gA m 29) (s := s) (n := n) (K := K) (by omega) h7 (by omega) (nI (nth tr s)) (K - (s + 1)) 5000 (s + 1) (by omega) (by omega) (by omega)
    rw [shC_0, sA_gA] at h5
    rw [if_neg (nI_ne0 (by omega) (by omega)), nI_1, bd_r, h5, hend]
    refine ⟨_, rfl, fun t ht => ?_⟩
    rw [Nat.zero_add]
    by_cases h1 : t = s
    · rw [h1, upd_s]
    · rw [upd_n _ _ h1]
      by_cases h2 : t < s
      · have h4 := hseg t (by omega)
        rw [Nat.zero_add, opL_lo (by omega) h2] at h4
        rw [← h4]
        exact if_neg (by omega)
      · obtain ⟨z, rfl⟩ : ∃ z, t = s + 1 + z := ⟨t - s - 1, by omega⟩
        have h4 := hseg (s + n + z) (by omega)
        have h6 := opL_hi (l := tr) (c := c) (s := s) (i := z) (by omega)
        rw [hc] at h6
        rw [Nat.zero_add, h6] at h4
        rw [← h4]
        unfold shC
        rw [if_pos (by omega)]
        congr 1
        omega
end
section
variable {N n A : Nat} {ar : Nat → Nat} {rw : Nat → Int32} {te : Nat → Nat} {κ kb : Nat → Nat}
theorem grown_loop {i y ν : Nat} (hN : N ≤ 60) (hi : i < N) (hy : y + 5 ≤ 1200) (hν : ν + 4 ≤ 800) (hai : ar i ≤ 4) :
    ∀ (d w k : Nat) (m : St), k + d = ar i → d < w → gA m 2 i = nI (ar i) → gF m 16 = nI (ν + k) → gA m 27 y = nI (y + 1) → (∀ j, j < k → gA m 26 (y + 1 + j) = -1 - nI (ν + j) ∧ gA m 28 (ν + j) = -1) →
    ∃ m', F_X9_grown_31 w (nI i) (nI y) (nI k) m = some (nI y, m') ∧ gF m' 16 = nI (ν + ar i) ∧ (∀ j, j < ar i → gA m' 26 (y + 1 + j) = -1 - nI (ν + j) ∧ gA m' 28 (ν + j) = -1) ∧ (∀ j, j ≠ 16 → gF m' j = gF m j) ∧ (∀ j, j ≠ 26 → j ≠ 28 → gA m' j = gA m j) ∧ (∀ z, z ≤ y → gA m' 26 z = gA m 26 z) ∧ ∀ z, z < ν → gA m' 28 z = gA m 28 z := by
  intro d
  induction d with
  | zero =>
    intro w k m hk hw h2 h16 h27 hd
    obtain ⟨w, rfl⟩ : ∃ z, w = z + 1 := ⟨w - 1, by omega⟩
    have : k = ar i := by omega
    subst this
    rw [F_X9_grown_31, ck_in (by omega) (by omega), bd_r, nI_clamp (n := i) (by omega), h2, if_pos (nI_le (Nat.le_refl _) (by omega))]
    exact ⟨m, rfl, h16, hd, fun _ _ => rfl, fun _ _ _ => rfl, fun _ _ => rfl, fun _ _ => rfl⟩
  | succ d ih =>
    intro w k m hk hw h2 h16 h27 hd
    obtain ⟨w, rfl⟩ : ∃ z, w = z + 1 := ⟨w - 1, by omega⟩
    rw [F_X9_grown_31, ck_in (by omega) (by omega), bd_r, nI_clamp (n := i) (by omega), h2, if_neg (nI_ge (by omega) (by omega)), h16, ck_in (by omega) (by omega), bd_r, nI_clamp (n := ν + k) (by omega)]
    obtain ⟨m1, hm1⟩ : ∃ m1, sA m 28 (upd (gA m 28) (ν + k) (-1)) = m1 := ⟨_, rfl⟩
    have e27 : gA m1 27 y = nI (y + 1) := by rw [← hm1]; exact h27
    have e16 : gF m1 16 = nI (ν + k) := by rw [← hm1]; exact h16
    rw [hm1, ck_in (by omega) (by omega), bd_r, nI_clamp (n := y) (by omega), e27, nI_add, ck_in (by omega) (by omega), bd_r, nI_clamp (n := y + 1 + k) (by omega), e16]
    obtain ⟨m2, hm2⟩ : ∃ m2, sA m1 26 (upd (gA m1 26) (y + 1 + k) (-1 - nI (ν + k))) = m2 := ⟨_, rfl⟩
    have e162 : gF m2 16 = nI (ν + k) := by rw [← hm2]; exact e16
    rw [hm2, e162, nI_1, bd_r, nI_1]
    obtain ⟨m3, hm3⟩ : ∃ m3, sF m2 16 (nI (ν + k + 1)) = m3 := ⟨_, rfl⟩
    rw [hm3]
    have b26 : gA m3 26 = upd (gA m 26) (y + 1 + k) (-1 - nI (ν + k)) := by rw [← hm3, ← hm2, ← hm1]; rfl
    have b28 : gA m3 28 = upd (gA m 28) (ν + k) (-1) := by rw [← hm3, ← hm2, ← hm1]; rfl
    have a3 : ∀ j, j ≠ 26 → j ≠ 28 → gA m3 j = gA m j := fun j j1 j2 => by rw [← hm3, gA_sF, ← hm2, gA_sA, if_neg j1, ← hm1, gA_sA, if_neg j2]
    obtain ⟨m', r1, r2, r3, r4, r5, r6, r7⟩ := ih w (k + 1) m3 (by omega) (by omega) (by rw [a3 2 (by omega) (by omega)]; exact h2) (by rw [← hm3]; rfl) (by rw [a3 27 (by omega) (by omega)]; exact h27) (fun j hj => by
      rw [b26, b28]
      by_cases hjk : j = k
      · rw [hjk, upd_s, upd_s]; exact ⟨rfl, rfl⟩
      · rw [upd_n _ _ (by omega), upd_n _ _ (by omega)]; exact hd j (by omega))
    exact ⟨m', r1, r2, r3, fun j j1 => by rw [r4 j j1, ← hm3, gF_sF, if_neg j1, ← hm2, ← hm1]; rfl, fun j j1 j2 => by rw [r5 j j1 j2, a3 j j1 j2], fun z hz => by rw [r6 z hz, b26, upd_n _ _ (by omega)], fun z hz => by rw [r7 z hz, b28, upd_n _ _ (by omega)]⟩
/-- a name becomes a constructor, in the reference -/
theorem grown_eq (hW : TmW n N A rw te ar) (hN : N ≤ 60) (har : ∀ c, c < N → ar c ≤ 4) (hK : TKW n N A rw te ar κ kb) {β : Bd} {m : St} (hB : BW n N ar β) (hl : β.length < 160) (h : RT n rw ar κ kb β m) {t i : Nat} (ht : nmId n ar β t) (hf : lk ar β (8 + n) t = none) (hi : i < N) (h2 : gA m 2 i = nI (ar i)) :
    ∃ m1, F_X9_grown (nI i) m = some (nI (cz n ar β), m1) ∧ RT n rw ar κ kb (β ++ [(t, i)]) (sA m1 28 (upd (gA m1 28) (rn n t) (nI (cz n ar β)))) ∧ (∀ j, j ≠ 15 → j ≠ 16 → gF m1 j = gF m j) ∧ (∀ j, j ≠ 26 → j ≠ 27 → j ≠ 28 → gA m1 j = gA m j) ∧ (∀ z, z < cz n ar β → gA m1 26 z = gA m 26 z ∧ gA m1 27 z = gA m 27 z) ∧ ∀ z, z < 8 + sz ar β → gA m1 28 z = gA m 28 z := by
  have hn := hW.1.1
  have hsz := (Vl_facts hW.1 β hB har).2.2.2
  have hai := har i hi
  obtain ⟨y, hy⟩ : ∃ y, cz n ar β = y := ⟨_, rfl⟩
  have hcz : y ≤ 160 + β.length + 4 * β.length := by rw [← hy]; unfold cz; omega
  obtain ⟨a1, a2, a3, a4, a5⟩ := h
  rw [hy] at a1 ⊢
  unfold F_X9_grown F_X9_newCells
  rw [a1, show nI y + (1 : Int32) = nI (y + 1) from nI_1 y, bd_r]
  obtain ⟨s1, hs1⟩ : ∃ s1, sF m 15 (nI (y + 1)) = s1 := ⟨_, rfl⟩
  have g1 : gF s1 15 = nI (y + 1) := by rw [← hs1]; rfl
  rw [hs1, g1, sub1, bo_s, ck_in (by omega) (by omega), bd_r, nI_clamp (n := y) (by omega)]
  obtain ⟨s2, hs2⟩ : ∃ s2, sA s1 26 (upd (gA s1 26) y (nI i)) = s2 := ⟨_, rfl⟩
  have e2 : gA s2 2 i = nI (ar i) := by rw [← hs2, ← hs1]; exact h2
  have g2 : gF s2 15 = nI (y + 1) := by rw [← hs2]; exact g1
  rw [hs2, ck_in (by omega) (by omega), bd_r, nI_clamp (n := i) (by omega), e2, g2, nI_add, bd_r]
  obtain ⟨s3, hs3⟩ : ∃ s3, sF s2 15 (nI (y + 1 + ar i)) = s3 := ⟨_, rfl⟩
  have g3 : gF s3 15 = nI (y + 1 + ar i) := by rw [← hs3]; rfl
  rw [hs3, g3, pk_sub (by omega), show y + 1 + ar i - ar i = y + 1 by omega, bo_s, ck_in (by omega) (by omega), bd_r]
  obtain ⟨s4, hs4⟩ : ∃ s4, sA s3 27 (upd (gA s3 27) y (nI (y + 1))) = s4 := ⟨_, rfl⟩
  rw [hs4]
  have b26 : gA s4 26 = upd (gA m 26) y (nI i) := by rw [← hs4, ← hs3, ← hs2, ← hs1]; rfl
  have b27 : gA s4 27 = upd (gA m 27) y (nI (y + 1)) := by rw [← hs4, ← hs3, ← hs2, ← hs1]; rfl
  have a4' : ∀ j, j ≠ 26 → j ≠ 27 → gA s4 j = gA m j := fun j j1 j2 => by rw [← hs4, gA_sA, if_neg j2, ← hs3, gA_sF, ← hs2, gA_sA, if_neg j1, ← hs1]; rfl
  have f4 : ∀ j, j ≠ 15 → gF s4 j = gF m j := fun j j1 => by rw [← hs4, gF_sA, ← hs3, gF_sF, if_neg j1, ← hs2, gF_sA, ← hs1, gF_sF, if_neg j1]
  obtain ⟨m1, r1, r2, r3, r4, r5, r6, r7⟩ := grown_loop (ar := ar) (i := i) (y := y) (ν := 8 + sz ar β) hN hi (by omega) (by omega) hai (ar i) 5000 0 s4 (by omega) (by omega) (by rw [a4' 2 (by omega) (by omega)]; exact h2) (by rw [f4 16 (by omega)]; exact a2) (by rw [b27, upd_s]) (fun j hj => by omega)
  have hrt := rn_lt ht
  refine ⟨m1, r1, ?_, fun j j1 j2 => by rw [r4 j j2, f4 j j1], fun j j1 j2 j3 => by rw [r5 j j1 j3, a4' j j1 j2], fun z hz => ?_, fun z hz => by rw [r7 z hz, a4' 28 (by omega) (by omega)]⟩
  · have c26 : ∀ z, z < y → gA m1 26 z = gA m 26 z := fun z hz => by rw [r6 z (by omega), b26, upd_n _ _ (by omega)]
    have c27 : ∀ z, z < y → gA m1 27 z = gA m 27 z := fun z hz => by rw [r5 27 (by omega) (by omega), b27, upd_n _ _ (by omega)]
    have c28 : ∀ z, z < 8 + sz ar β → gA m1 28 z = gA m 28 z := fun z hz => by rw [r7 z hz, a4' 28 (by omega) (by omega)]
    refine ⟨?_, ?_, fun p hp => ?_, fun u hu hlu => ?_, fun β1 u j β2 he => ?_⟩
    · rw [gF_sA, r4 15 (by omega), ← hs4, gF_sA, g3]
      congr 1
      unfold cz at hy ⊢
      rw [sz_app, sz_one, List.length_append]
      simp
      omega
    · rw [gF_sA, r2, sz_app, sz_one, ← Nat.add_assoc]
    · have := hK.1 p hp
      have hc : κ p < y := by rw [← hy]; unfold cz; omega
      rw [gA_sA, if_neg (by omega), gA_sA, if_neg (by omega), c26 _ hc, c27 _ hc]
      exact a3 p hp
    · rw [gA_sA_s]
      have hut : u ≠ t := by
        intro z
        rw [z, lk_app, hf] at hlu
        dsimp only at hlu
        rw [if_pos rfl] at hlu
        cases hlu
      rw [lk_snoc_ne hut] at hlu
      by_cases huo : nmId n ar β u
      · have hne : rn n u ≠ rn n t := fun z => hut (rn_inj huo ht z)
        rw [upd_n _ _ hne, c28 _ (rn_lt huo)]
        exact a4 u huo hlu
      · rcases hu with q | q
        · exact absurd (Or.inl q) huo
        · have h1 := q.1
          have h2' := q.2
          rw [sz_app, sz_one] at h2'
          have h3' : 8 + n + sz ar β ≤ u := by
            rcases Nat.lt_or_ge u (8 + n + sz ar β) with z | z
            · exact absurd (Or.inr ⟨h1, z⟩) huo
            · exact z
          have hr : rn n u = 8 + sz ar β + (u - (8 + n + sz ar β)) := by unfold rn; rw [if_neg (by omega)]; omega
          rw [hr, upd_n _ _ (by omega)]
          exact (r3 (u - (8 + n + sz ar β)) (by omega)).2
    · rw [gA_sA_s, gA_sA, if_neg (by omega), gA_sA, if_neg (by omega)]
      rcases List.eq_nil_or_concat β2 with z | ⟨β3, w, z⟩
      · subst z
        have := List.append_inj' he rfl
        obtain ⟨e3, e4⟩ := this
        cases e4
        rw [← e3, hy, upd_s, r6 y (Nat.le_refl _), b26, upd_s, r5 27 (by omega) (by omega), b27, upd_s]
        exact ⟨rfl, rfl, rfl, fun k hk => (r3 k hk).1⟩
      · rw [List.concat_eq_append] at z
        subst z
        have he2 : β ++ [(t, i)] = (β1 ++ (u, j) :: β3) ++ [w] := by rw [he]; simp
        have heb := (List.append_inj' he2 rfl).1
        obtain ⟨k1, k2, k3, k4⟩ := a5 β1 u j β3 heb
        have hc := cz_split (n := n) (ar := ar) heb
        rw [hy] at hc
        have hun := hB.split_nm heb
        have hut : u ≠ t := by
          intro z
          rw [z] at heb
          have := (lk_none β (8 + n) t).mp hf (t, j) (by rw [heb]; simp)
          exact this rfl
        have hne : rn n u ≠ rn n t := fun z => hut (rn_inj hun ht z)
        rw [upd_n _ _ hne, c28 _ (rn_lt hun), c26 _ (by omega), c27 _ (by omega)]
        exact ⟨k1, k2, k3, fun k hk => by rw [c26 _ (by omega)]; exact k4 k hk⟩
  · rw [r6 z (by omega), b26, upd_n _ _ (by omega), r5 27 (by omega) (by omega), b27, upd_n _ _ (by omega)]
    exact ⟨rfl, rfl⟩
end
