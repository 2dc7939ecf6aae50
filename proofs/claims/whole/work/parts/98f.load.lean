/-! the terms are loaded -/
section
variable {n N A : Nat} {rw : Nat → Int32} {en : Nat → Nat} {ar : Nat → Nat} {β : Bd}
theorem load_names : ∀ (d w i : Nat) (c : St), i + d = 8 → d < w → (∀ v, v < i → gA c 33 v = -9 ∧ gA c 36 v = 0) → ∃ c', F_X5_load_2 w (nI n) (nI i) c = F_X5_load_33 (nI n) c' ∧ (∀ v, v < 8 → gA c' 33 v = -9 ∧ gA c' 36 v = 0) ∧ (∀ j, gF c' j = gF c j) ∧ ∀ j, j ≠ 33 → j ≠ 36 → gA c' j = gA c j := by
  intro d
  induction d with
  | zero =>
    intro w i c hi hw h
    obtain ⟨w, rfl⟩ : ∃ z, w = z + 1 := ⟨w - 1, by omega⟩
    rw [F_X5_load_2, if_pos (show (8 : Int32) ≤ nI i from nI_le (a := 8) (by omega) (by omega))]
    exact ⟨c, rfl, fun v hv => h v (by omega), fun _ => rfl, fun _ _ _ => rfl⟩
  | succ d ih =>
    intro w i c hi hw h
    obtain ⟨w, rfl⟩ : ∃ z, w = z + 1 := ⟨w - 1, by omega⟩
    rw [F_X5_load_2, if_neg (show ¬ (8 : Int32) ≤ nI i from nI_ge (b := 8) (by omega) (by omega)), wr_in _ _ (by omega) (by omega), bd_r, wr_in _ _ (by omega) (by omega), bd_r, nI_1]
    obtain ⟨c2, hc2⟩ : ∃ c2, sA (sA c 33 (upd (gA c 33) i (-9))) 36 (upd (gA (sA c 33 (upd (gA c 33) i (-9))) 36) i 0) = c2 := ⟨_, rfl⟩
    rw [hc2]
    have b33 : gA c2 33 = upd (gA c 33) i (-9) := by rw [← hc2]; rfl
    have b36 : gA c2 36 = upd (gA c 36) i 0 := by rw [← hc2]; rfl
    obtain ⟨c', r1, r2, r3, r4⟩ := ih w (i + 1) c2 (by omega) (by omega) (fun v hv => by
      rw [b33, b36]
      by_cases hvi : v = i
      · rw [hvi, upd_s, upd_s]; exact ⟨rfl, rfl⟩
      · rw [upd_n _ _ hvi, upd_n _ _ hvi]; exact h v (by omega))
    exact ⟨c', r1, r2, fun j => by rw [r3, ← hc2]; rfl, fun j j1 j2 => by rw [r4 j j1 j2, ← hc2, gA_sA, if_neg j2, gA_sA, if_neg j1]⟩
theorem load_loop (hT : RwT n rw) :
    ∀ (d w i : Nat) (c : St), i + d = n → d < w → (∀ p, p < n → gA c 12 p = rw p ∧ gA c 15 p = nI (en p)) → (∀ p, p < i → gA c 33 (8 + p) = rw p ∧ gA c 34 (8 + p) = nI (8 + p + 1) ∧ gA c 35 (8 + p) = nI (8 + en p)) → (∀ v, v < 8 → gA c 33 v = -9 ∧ gA c 36 v = nI (((List.range i).map (mtp rw)).count v)) →
    ∃ c', F_X5_load_35 w (nI n) (nI i) c = F_X5_load_135 (nI n) c' ∧ (∀ p, p < n → gA c' 33 (8 + p) = rw p ∧ gA c' 34 (8 + p) = nI (8 + p + 1) ∧ gA c' 35 (8 + p) = nI (8 + en p)) ∧ (∀ v, v < 8 → gA c' 33 v = -9 ∧ gA c' 36 v = nI (((List.range n).map (mtp rw)).count v)) ∧ (∀ j, gF c' j = gF c j) ∧ ∀ j, j < 33 ∨ 36 < j → gA c' j = gA c j := by
  have hn := hT.1
  intro d
  induction d with
  | zero =>
    intro w i c hi hw hr hd hv
    obtain ⟨w, rfl⟩ : ∃ z, w = z + 1 := ⟨w - 1, by omega⟩
    have : i = n := by omega
    subst this
    rw [F_X5_load_35, if_pos (nI_le (Nat.le_refl _) (by omega))]
    exact ⟨c, rfl, hd, hv, fun _ => rfl, fun _ _ => rfl⟩
  | succ d ih =>
    intro w i c hi hw hr hd hv
    obtain ⟨w, rfl⟩ : ∃ z, w = z + 1 := ⟨w - 1, by omega⟩
    obtain ⟨r1, r2⟩ := hr i (by omega)
    have h8 : (8 : Int32) + nI i = nI (8 + i) := nI_add 8 i
    rw [F_X5_load_35, if_neg (nI_ge (by omega) (by omega)), rd_in _ (by omega) (by omega), r1, bd_r, h8, bd_r, wr_in _ _ (by omega) (by omega), bd_r, wr_in _ _ (by omega) (by omega), nI_1, bd_r]
    obtain ⟨c2, hc2⟩ : ∃ c2, sA (sA c 33 (upd (gA c 33) (8 + i) (rw i))) 34 (upd (gA (sA c 33 (upd (gA c 33) (8 + i) (rw i))) 34) (8 + i) (nI (8 + i + 1))) = c2 := ⟨_, rfl⟩
    have e15 : gA c2 15 i = nI (en i) := by rw [← hc2]; exact r2
    have h8e : (8 : Int32) + nI (en i) = nI (8 + en i) := nI_add 8 (en i)
    rw [hc2, rd_in _ (by omega) (by omega), e15, bd_r, wr_in _ _ (by omega) (by omega), h8e, bd_r]
    obtain ⟨c3, hc3⟩ : ∃ c3, sA c2 35 (upd (gA c2 35) (8 + i) (nI (8 + en i))) = c3 := ⟨_, rfl⟩
    rw [hc3]
    have b33 : gA c3 33 = upd (gA c 33) (8 + i) (rw i) := by rw [← hc3, ← hc2]; rfl
    have b34 : gA c3 34 = upd (gA c 34) (8 + i) (nI (8 + i + 1)) := by rw [← hc3, ← hc2]; rfl
    have b35 : gA c3 35 = upd (gA c 35) (8 + i) (nI (8 + en i)) := by rw [← hc3, ← hc2]; rfl
    have b36 : gA c3 36 = gA c 36 := by rw [← hc3, ← hc2]; rfl
    have a3 : ∀ j, j < 33 ∨ 35 < j → gA c3 j = gA c j := fun j j1 => by rw [← hc3, gA_sA, if_neg (by omega), ← hc2, gA_sA, if_neg (by omega), gA_sA, if_neg (by omega)]
    have f3 : ∀ j, gF c3 j = gF c j := fun j => by rw [← hc3, ← hc2]; rfl
    have hd3 : ∀ p, p < i + 1 → gA c3 33 (8 + p) = rw p ∧ gA c3 34 (8 + p) = nI (8 + p + 1) ∧ gA c3 35 (8 + p) = nI (8 + en p) := by
      intro p hp
      rw [b33, b34, b35]
      by_cases hpi : p = i
      · rw [hpi, upd_s, upd_s, upd_s]; exact ⟨rfl, rfl, rfl⟩
      · rw [upd_n _ _ (by omega), upd_n _ _ (by omega), upd_n _ _ (by omega)]; exact hd p (by omega)
    have hcnt : ∀ v, ((List.range (i + 1)).map (mtp rw)).count v = ((List.range i).map (mtp rw)).count v + (if mtp rw i = v then 1 else 0) := by
      intro v
      rw [List.range_succ, List.map_append, List.count_append]
      congr 1
      by_cases hz : mtp rw i = v
      · rw [if_pos hz]; simp [hz]
      · rw [if_neg hz]; simp [List.count_cons, hz]
    by_cases hneg : rw i < 0
    · have hlt := hT.2 i (by omega) hneg
      obtain ⟨j, hj, e1, e2, e3⟩ := neg_name hneg
      have hm : mtp rw i = j := by unfold mtp; rw [if_pos hneg, e1, nI_clamp hj]
      rw [e1, nI_clamp hj] at hlt
      rw [if_neg (Int32.not_le.mpr hneg), e1, rd_in _ (by omega) (by omega), b36, (hv j hlt).2, bd_r, wr_in _ _ (by omega) (by omega), nI_1, bd_r, F_X5_load_129, nI_1]
      obtain ⟨c4, hc4⟩ : ∃ c4, sA c3 36 (upd (gA c 36) j (nI (((List.range i).map (mtp rw)).count j + 1))) = c4 := ⟨_, rfl⟩
      rw [hc4]
      have a4 : ∀ k, k ≠ 36 → gA c4 k = gA c3 k := fun k k1 => by rw [← hc4, gA_sA, if_neg k1]
      have a436 : gA c4 36 = upd (gA c 36) j (nI (((List.range i).map (mtp rw)).count j + 1)) := by rw [← hc4]; exact gA_sA_s _ _ _
      obtain ⟨c', q1, q2, q3, q4, q5⟩ := ih w (i + 1) c4 (by omega) (by omega) (fun p hp => by rw [a4 12 (by omega), a4 15 (by omega), a3 12 (by omega), a3 15 (by omega)]; exact hr p hp) (fun p hp => by rw [a4 33 (by omega), a4 34 (by omega), a4 35 (by omega)]; exact hd3 p hp) (fun v hv8 => by
        rw [a4 33 (by omega), a436, b33, upd_n _ _ (by omega), hcnt v, hm]
        refine ⟨(hv v hv8).1, ?_⟩
        by_cases hvj : v = j
        · rw [hvj, upd_s, if_pos rfl]
        · rw [upd_n _ _ hvj, if_neg (fun z => hvj z.symm)]; exact (hv v hv8).2)
      exact ⟨c', q1, q2, q3, fun k => by rw [q4, ← hc4, gF_sA, f3], fun k k1 => by rw [q5 k k1, a4 k (by omega), a3 k (by omega)]⟩
    · have hm : mtp rw i = 8 + i := by unfold mtp; rw [if_neg hneg]
      rw [if_pos (Int32.not_lt.mp hneg), F_X5_load_129, nI_1]
      obtain ⟨c', q1, q2, q3, q4, q5⟩ := ih w (i + 1) c3 (by omega) (by omega) (fun p hp => by rw [a3 12 (by omega), a3 15 (by omega)]; exact hr p hp) hd3 (fun v hv8 => by
        rw [b33, b36, upd_n _ _ (by omega), hcnt v, hm, if_neg (by omega)]
        exact hv v hv8)
      exact ⟨c', q1, q2, q3, fun k => by rw [q4, f3], fun k k1 => by rw [q5 k k1, a3 k (by omega)]⟩
theorem load_eq (hT : RwT n rw) {c : St} (hr : ∀ p, p < n → gA c 12 p = rw p ∧ gA c 15 p = nI (en p)) : ∃ c', F_X5_load (nI n) c = some (0, c') ∧ CT n rw en ar [] c' ∧ (∀ j, j < 11 ∨ 13 < j → gF c' j = gF c j) ∧ ∀ j, j < 33 ∨ 36 < j → gA c' j = gA c j := by
  have hn := hT.1
  unfold F_X5_load
  obtain ⟨c1, e1, e2, e3, e4⟩ := load_names (n := n) 8 5000 0 c (by omega) (by omega) (fun v hv => by omega)
  have e1' : F_X5_load_2 5000 (nI n) 0 c = _ := e1
  rw [e1', F_X5_load_33]
  obtain ⟨c2, q1, q2, q3, q4, q5⟩ := load_loop (en := en) hT n 5000 0 c1 (by omega) (by omega) (fun p hp => by rw [e4 12 (by omega) (by omega), e4 15 (by omega) (by omega)]; exact hr p hp) (fun p hp => by omega) (fun v hv => ⟨(e2 v hv).1, (e2 v hv).2⟩)
  have q1' : F_X5_load_35 5000 (nI n) 0 c1 = _ := q1
  have h8 : (8 : Int32) + nI n = nI (8 + n) := nI_add 8 n
  rw [q1', F_X5_load_135, h8, bd_r, bd_r, bd_r]
  refine ⟨_, rfl, ⟨?_, ?_, ?_, q2, fun t ht => ?_, fun t h1 h2 => ?_, fun j b hb => by simp at hb⟩, fun j j1 => ?_, fun j j1 => ?_⟩
  · show nI (8 + n) = _
    rfl
  · rfl
  · show nI n = _
    congr 1
    show n = ((List.range n).map (mtp rw)).length
    simp
  · have ht8 : t < 8 := by
      rcases ht with q | q
      · exact q
      · have h5 := q.2
        have : sz ar ([] : Bd) = 0 := by simp [sz]
        omega
    obtain ⟨k1, k2⟩ := q3 t ht8
    exact ⟨k2, fun _ => k1, fun i f z => by cases z⟩
  · have : sz ar ([] : Bd) = 0 := by simp [sz]
    omega
  · rw [gF_sF, if_neg (by omega), gF_sF, if_neg (by omega), gF_sF, if_neg (by omega), q4, e3]
  · rw [gA_sF, gA_sF, gA_sF, q5 j j1, e4 j (by omega) (by omega)]
/-! the outcomes, as the class has them: rule, asks, asks of free names, what is told -/
abbrev Oc : Type := Nat × Nat × Nat × List Int32
def OutC (O : List Oc) (c : St) : Prop :=
  gF c 15 = nI O.length ∧ (gF c 16 = 0 ∨ gF c 16 = nI 9600) ∧ (O ≠ [] → gF c 16 = nI 9600) ∧ ∀ i o, O[i]? = some o → o.2.2.2.length ≤ 400 ∧ gA c 40 i = nI o.1 ∧ gA c 41 i = nI o.2.1 ∧ gA c 42 i = nI o.2.2.1 ∧ gA c 43 i = nI o.2.2.2.length ∧ ∀ j v, o.2.2.2[j]? = some v → gA c 48 (400 * i + j) = v
theorem add_eq (hW : TmW n N A rw en ar) (hN : N ≤ 60) (hA6 : A ≤ 6) (har : ∀ c, c < N → ar c ≤ 4) (hB : BW n N ar β) (hb : 8 + n + sz ar β ≤ 808) (hlen : (Vl n rw ar β).length ≤ 400) {O : List Oc} (hO : O.length < 24) {c : St} (hP : PaC N ar A c) (hC : CT n rw en ar β c) (h : OutC O c) (r as af : Nat) :
    ∃ c', F_X0_add (nI r) (nI as) (nI af) c = some (0, c') ∧ OutC (O ++ [(r, as, af, nmb n rw ar β [] (Vl n rw ar β))]) c' ∧ gF c' 16 = nI 9600 ∧ (∀ j, j ≠ 14 → j ≠ 15 → j ≠ 16 → gF c' j = gF c j) ∧ ∀ j, j < 37 ∨ j = 38 ∨ (43 < j ∧ j < 48) → gA c' j = gA c j := by
  obtain ⟨k, hk⟩ : ∃ k, O.length = k := ⟨_, rfl⟩
  obtain ⟨h1, h2, h3, h4⟩ := h
  rw [hk] at h1 hO
  -- the row of what is told is there
  obtain ⟨c1, hc1, f1, a1, g16, hold⟩ : ∃ c1, F_X0_add (nI r) (nI as) (nI af) c = F_X0_add_38 (nI r) (nI as) (nI af) c1 ∧ (∀ j, j ≠ 16 → gF c1 j = gF c j) ∧ (∀ j, j ≠ 48 → gA c1 j = gA c j) ∧ gF c1 16 = nI 9600 ∧ (O ≠ [] → gA c1 48 = gA c 48) := by
    unfold F_X0_add
    rw [h1, if_neg (show ¬ (24 : Int32) ≤ nI k from nI_ge (b := 24) hO (by omega)), hC.2.2.1, if_pos (show _ ≤ (400 : Int32) from nI_le (b := 400) hlen (by omega))]
    rcases h2 with q | q
    · rw [q]
      refine ⟨nT c, ?_, fun j j1 => ?_, fun j j1 => ?_, rfl, fun hne => ?_⟩
      · rw [if_pos (by rfl), bd_r]
      · unfold nT; rw [gF_sA, gF_sF, if_neg j1]
      · unfold nT; rw [gA_sA, if_neg j1]; rfl
      · have := h3 hne
        rw [q] at this
        exact absurd this (by decide)
    · rw [q]
      exact ⟨c, by rw [if_neg (by decide)], fun _ _ => rfl, fun _ _ => rfl, q, fun _ => rfl⟩
  rw [hc1, F_X0_add_38, f1 15 (by omega), h1, wr_in _ _ hO (by omega), bd_r]
  obtain ⟨s1, hs1⟩ : ∃ s1, sA c1 40 (upd (gA c1 40) k (nI r)) = s1 := ⟨_, rfl⟩
  have g1 : gF s1 15 = nI k := by rw [← hs1, gF_sA, f1 15 (by omega)]; exact h1
  rw [hs1, g1, wr_in _ _ hO (by omega), bd_r]
  obtain ⟨s2, hs2⟩ : ∃ s2, sA s1 41 (upd (gA s1 41) k (nI as)) = s2 := ⟨_, rfl⟩
  have g2 : gF s2 15 = nI k := by rw [← hs2]; exact g1
  rw [hs2, g2, wr_in _ _ hO (by omega), bd_r]
  obtain ⟨s3, hs3⟩ : ∃ s3, sA s2 42 (upd (gA s2 42) k (nI af)) = s3 := ⟨_, rfl⟩
  have g3 : gF s3 15 = nI k := by rw [← hs3]; exact g2
  have g313 : gF s3 13 = nI (Vl n rw ar β).length := by rw [← hs3, ← hs2, ← hs1, gF_sA, gF_sA, gF_sA, f1 13 (by omega)]; exact hC.2.2.1
  rw [hs3, g3, g313, wr_in _ _ hO (by omega), bd_r]
  obtain ⟨s4, hs4⟩ : ∃ s4, sA s3 43 (upd (gA s3 43) k (nI (Vl n rw ar β).length)) = s4 := ⟨_, rfl⟩
  have f4 : ∀ j, j ≠ 16 → gF s4 j = gF c j := fun j j1 => by rw [← hs4, gF_sA, ← hs3, gF_sA, ← hs2, gF_sA, ← hs1, gF_sA, f1 j j1]
  have f416 : gF s4 16 = nI 9600 := by rw [← hs4, gF_sA, ← hs3, gF_sA, ← hs2, gF_sA, ← hs1, gF_sA]; exact g16
  have a4 : ∀ j, j < 40 ∨ (43 < j ∧ j < 48) → gA s4 j = gA c j := fun j j1 => by rw [← hs4, gA_sA, if_neg (by omega), ← hs3, gA_sA, if_neg (by omega), ← hs2, gA_sA, if_neg (by omega), ← hs1, gA_sA, if_neg (by omega), a1 j (by omega)]
  have a448 : gA s4 48 = gA c1 48 := by rw [← hs4, gA_sA, if_neg (by omega), ← hs3, gA_sA, if_neg (by omega), ← hs2, gA_sA, if_neg (by omega), ← hs1, gA_sA, if_neg (by omega)]
  have b40 : gA s4 40 = upd (gA c 40) k (nI r) := by rw [← hs4, gA_sA, if_neg (by omega), ← hs3, gA_sA, if_neg (by omega), ← hs2, gA_sA, if_neg (by omega), ← hs1, gA_sA_s, a1 40 (by omega)]
  have b41 : gA s4 41 = upd (gA c 41) k (nI as) := by rw [← hs4, gA_sA, if_neg (by omega), ← hs3, gA_sA, if_neg (by omega), ← hs2, gA_sA_s, ← hs1, gA_sA, if_neg (by omega), a1 41 (by omega)]
  have b42 : gA s4 42 = upd (gA c 42) k (nI af) := by rw [← hs4, gA_sA, if_neg (by omega), ← hs3, gA_sA_s, ← hs2, gA_sA, if_neg (by omega), ← hs1, gA_sA, if_neg (by omega), a1 42 (by omega)]
  have b43 : gA s4 43 = upd (gA c 43) k (nI (Vl n rw ar β).length) := by rw [← hs4, gA_sA_s, ← hs3, gA_sA, if_neg (by omega), ← hs2, gA_sA, if_neg (by omega), ← hs1, gA_sA, if_neg (by omega), a1 43 (by omega)]
  have g4 : gF s4 15 = nI k := by rw [f4 15 (by omega)]; exact h1
  have hmul : nI k * (400 : Int32) = nI (k * 400) := pk_mul k 400
  obtain ⟨s5, r1, r2, r3, r4, r5⟩ := write_eq (c := s4) (fr := k * 400) hW hN hA6 har hB hb hlen (by omega) (hP.kept (f4 3 (by omega)) (a4 10 (by omega))) (hC.kept (fun j j1 j2 => f4 j (by omega)) (fun j j1 => a4 j (by omega))) f416
  rw [hs4, g4, hmul, r1, bo_s, r4 15 (by omega), g4, nI_1, bd_r]
  have hlen2 : (O ++ [(r, as, af, nmb n rw ar β [] (Vl n rw ar β))]).length = k + 1 := by rw [List.length_append, hk]; rfl
  refine ⟨_, rfl, ⟨by rw [hlen2]; rfl, Or.inr ?_, fun _ => ?_, fun i o ho => ?_⟩, ?_, fun j j1 j2 j3 => ?_, fun j j1 => ?_⟩
  · rw [gF_sF, if_neg (by omega), r4 16 (by omega)]; exact f416
  · rw [gF_sF, if_neg (by omega), r4 16 (by omega)]; exact f416
  · rw [gA_sF, gA_sF, gA_sF, gA_sF, gA_sF, r5 40 (by omega) (by omega) (by omega), r5 41 (by omega) (by omega) (by omega), r5 42 (by omega) (by omega) (by omega), r5 43 (by omega) (by omega) (by omega), b40, b41, b42, b43]
    by_cases hi : i < O.length
    · rw [List.getElem?_append_left hi] at ho
      obtain ⟨o1, o2, o3, o4, o5, o6⟩ := h4 i o ho
      rw [upd_n _ _ (by omega), upd_n _ _ (by omega), upd_n _ _ (by omega), upd_n _ _ (by omega)]
      refine ⟨o1, o2, o3, o4, o5, fun j v hv => ?_⟩
      have hj : j < o.2.2.2.length := (List.getElem?_eq_some_iff.mp hv).1
      have hne : O ≠ [] := fun z => by rw [z] at hi; cases hi
      rw [r3 _ (by omega), a448, hold hne]
      exact o6 j v hv
    · rw [List.getElem?_append_right (by omega)] at ho
      have hz : i - O.length < 1 := (List.getElem?_eq_some_iff.mp ho).1
      have hi2 : i = k := by omega
      subst hi2
      rw [hk, Nat.sub_self] at ho
      cases ho
      rw [upd_s, upd_s, upd_s, upd_s]
      refine ⟨by rw [nmb_len]; exact hlen, rfl, rfl, rfl, by rw [nmb_len], fun j v hv => ?_⟩
      rw [Nat.mul_comm]
      exact r2 j v hv
  · rw [gF_sF, if_neg (by omega), r4 16 (by omega)]; exact f416
  · rw [gF_sF, if_neg j2, r4 j j1, f4 j j3]
  · rw [gA_sF, r5 j (by omega) (by omega) (by omega), a4 j (by omega)]
end
