/-! the reference comes to a rule -/
section
variable {N n A : Nat} {ar : Nat → Nat} {rw : Nat → Int32} {te : Nat → Nat} {κ kb : Nat → Nat} {β : Bd}
theorem zero_loop {ν : Nat} (hν : ν ≤ 800) : ∀ (d w i : Nat) (m : St), i + d = ν → d < w → gF m 16 = nI ν → (∀ j, j < i → gA m 31 j = 0) → ∃ m', F_X9_comes_60 w (nI i) m = F_X9_comes_81 m' ∧ (∀ j, j < ν → gA m' 31 j = 0) ∧ (∀ j, gF m' j = gF m j) ∧ ∀ j, j ≠ 31 → gA m' j = gA m j := by
  intro d
  induction d with
  | zero =>
    intro w i m hi hw h16 h
    obtain ⟨w, rfl⟩ : ∃ z, w = z + 1 := ⟨w - 1, by omega⟩
    rw [F_X9_comes_60, h16, if_pos (nI_le (by omega) (by omega))]
    exact ⟨m, rfl, fun j hj => h j (by omega), fun _ => rfl, fun _ _ => rfl⟩
  | succ d ih =>
    intro w i m hi hw h16 h
    obtain ⟨w, rfl⟩ : ∃ z, w = z + 1 := ⟨w - 1, by omega⟩
    rw [F_X9_comes_60, h16, if_neg (nI_ge (by omega) (by omega)), ck_in (by omega) (by omega), bd_r, nI_clamp (by omega), nI_1]
    obtain ⟨m', r1, r2, r3, r4⟩ := ih w (i + 1) (sA m 31 (upd (gA m 31) i 0)) (by omega) (by omega) h16 (fun j hj => by
      rw [gA_sA_s]
      by_cases hji : j = i
      · rw [hji, upd_s]
      · rw [upd_n _ _ hji]; exact h j (by omega))
    exact ⟨m', r1, r2, fun j => by rw [r3]; rfl, fun j j1 => by rw [r4 j j1, gA_sA, if_neg j1]⟩
theorem args_loop {x2 : Int32} (hA : A ≤ 6) : ∀ (k w : Nat) (m : St), k ≤ A → k < w → ToM (List.range' k (A - k)) m → ∃ m', F_X9_comes_93 w x2 (nI (A - k)) (hI k) m = F_X9_comes_115 5000 x2 (nI A) m' ∧ ToM (List.range' 0 A) m' ∧ (∀ j, gF m' j = gF m j) ∧ ∀ j, j ≠ 32 → gA m' j = gA m j := by
  intro k
  induction k with
  | zero =>
    intro w m hk hw hS
    obtain ⟨w, rfl⟩ : ∃ q, w = q + 1 := ⟨w - 1, by omega⟩
    rw [F_X9_comes_93, if_pos hI_neg0, Nat.sub_zero]
    rw [Nat.sub_zero] at hS
    exact ⟨m, rfl, hS, fun _ => rfl, fun _ _ => rfl⟩
  | succ k ih =>
    intro w m hk hw hS
    obtain ⟨w, rfl⟩ : ∃ q, w = q + 1 := ⟨w - 1, by omega⟩
    rw [F_X9_comes_93, hI_m1, hI_s, if_neg (nI_pos (by omega)), ck_in (by omega) (by omega), bd_r, nI_clamp (n := A - (k + 1)) (by omega), nI_1]
    obtain ⟨m1, hm1⟩ : ∃ m1, sA m 32 (upd (gA m 32) (A - (k + 1)) (nI k)) = m1 := ⟨_, rfl⟩
    rw [hm1, show A - (k + 1) + 1 = A - k by omega]
    obtain ⟨m', r1, r2, r3, r4⟩ := ih w m1 (by omega) (by omega) (by
      rw [show A - k = (A - (k + 1)) + 1 by omega, List.range'_succ]
      refine hS.push ?_
      rw [List.length_range', ← hm1]
      exact gA_sA_s _ _ _)
    exact ⟨m', r1, r2, fun j => by rw [r3, ← hm1]; rfl, fun j j1 => by rw [r4 j j1, ← hm1, gA_sA, if_neg j1]⟩
/-- what was found -/
def FF (n : Nat) (rw : Nat → Int32) (ar : Nat → Nat) (o : Ot) (m : St) : Prop := gF m 22 = nI o.1 ∧ gF m 23 = nI o.2.1 ∧ gF m 24 = nI o.2.2.1 ∧ gF m 25 = nI (Vl n rw ar o.2.2.2).length ∧ ∀ j v, (nmb n rw ar o.2.2.2 [] (Vl n rw ar o.2.2.2))[j]? = some v → gA m 30 j = v
/-- beside what was found all stays -/
def FrC (m m' : St) : Prop := (∀ j, j < 20 ∨ j = 21 ∨ 26 < j → gF m' j = gF m j) ∧ ∀ j, j < 30 ∨ 32 < j → gA m' j = gA m j
theorem comes_eq (hW : TmW n N A rw te ar) (hN : N ≤ 60) (hA : A ≤ 6) (har : ∀ c, c < N → ar c ≤ 4) (hK : TKW n N A rw te ar κ kb) (hB : BW n N ar β) (hl : β.length ≤ 160) {m : St} (hRT : RT n rw ar κ kb β m) (h2 : ∀ i, i < N → gA m 2 i = nI (ar i)) (hA2 : gF m 2 = nI A) {k r as af : Nat} (hk : k < 1000) (h20 : gF m 20 = nI k) (h17 : gF m 17 = nI as) (h18 : gF m 18 = nI af) :
    ∃ m', F_X9_comes (nI r) m = some (0, m') ∧ FrC m m' ∧ gF m' 20 = nI (k + 1) ∧ (gF m 21 = -1 → gF m' 26 = if (Vl n rw ar β).length ≤ 400 then gF m 26 else 1) ∧ ∀ j, j < 2 ^ 31 → gF m 21 = nI j → (Vl n rw ar β).length ≤ 400 → gF m' 26 = gF m 26 ∧ (j = k → FF n rw ar (r, as, af, β) m') ∧ (j ≠ k → (∀ i, 22 ≤ i → i ≤ 25 → gF m' i = gF m i) ∧ gA m' 30 = gA m 30) := by
  have hn := hW.1.1
  have hsz := (Vl_facts hW.1 β hB har).2.2.2
  unfold F_X9_comes
  rw [h20, nI_1, bd_r]
  obtain ⟨m1, hm1⟩ : ∃ m1, sF m 20 (nI (k + 1)) = m1 := ⟨_, rfl⟩
  have f1 : ∀ j, j ≠ 20 → gF m1 j = gF m j := fun j j1 => by rw [← hm1, gF_sF, if_neg j1]
  have a1 : ∀ j, gA m1 j = gA m j := fun j => by rw [← hm1]; rfl
  have g1 : gF m1 20 = nI (k + 1) := by rw [← hm1]; rfl
  rw [hm1, f1 21 (by omega), g1, sub1]
  -- it is told
  have tell : ∃ m', F_X9_comes_32 (nI r) m1 = some (0, m') ∧ FrC m m' ∧ gF m' 20 = nI (k + 1) ∧ ((Vl n rw ar β).length ≤ 400 → gF m' 26 = gF m 26 ∧ FF n rw ar (r, as, af, β) m') ∧ (400 < (Vl n rw ar β).length → gF m' 26 = 1) := by
    unfold F_X9_comes_32
    rw [bd_r]
    obtain ⟨s1, hs1⟩ : ∃ s1, sF m1 22 (nI r) = s1 := ⟨_, rfl⟩
    have k17 : gF s1 17 = nI as := by rw [← hs1, gF_sF, if_neg (by omega), f1 17 (by omega)]; exact h17
    rw [hs1, k17, bd_r]
    obtain ⟨s2, hs2⟩ : ∃ s2, sF s1 23 (nI as) = s2 := ⟨_, rfl⟩
    have k18 : gF s2 18 = nI af := by rw [← hs2, gF_sF, if_neg (by omega), ← hs1, gF_sF, if_neg (by omega), f1 18 (by omega)]; exact h18
    rw [hs2, k18, bd_r, bd_r]
    obtain ⟨s4, hs4⟩ : ∃ s4, sF (sF s2 24 (nI af)) 25 0 = s4 := ⟨_, rfl⟩
    rw [hs4]
    have f4 : ∀ j, j < 20 ∨ j = 21 ∨ 25 < j → gF s4 j = gF m j := fun j j1 => by rw [← hs4, gF_sF, if_neg (by omega), gF_sF, if_neg (by omega), ← hs2, gF_sF, if_neg (by omega), ← hs1, gF_sF, if_neg (by omega), f1 j (by omega)]
    have a4 : ∀ j, gA s4 j = gA m j := fun j => by rw [← hs4, ← hs2, ← hs1, gA_sF, gA_sF, gA_sF, gA_sF, a1]
    have g420 : gF s4 20 = nI (k + 1) := by rw [← hs4, gF_sF, if_neg (by omega), gF_sF, if_neg (by omega), ← hs2, gF_sF, if_neg (by omega), ← hs1, gF_sF, if_neg (by omega)]; exact g1
    have g422 : gF s4 22 = nI r := by rw [← hs4, gF_sF, if_neg (by omega), gF_sF, if_neg (by omega), ← hs2, gF_sF, if_neg (by omega), ← hs1]; rfl
    have g423 : gF s4 23 = nI as := by rw [← hs4, gF_sF, if_neg (by omega), gF_sF, if_neg (by omega), ← hs2]; rfl
    have g424 : gF s4 24 = nI af := by rw [← hs4]; rfl
    have g425 : gF s4 25 = 0 := by rw [← hs4]; rfl
    obtain ⟨s5, z1, z2, z3, z4⟩ := zero_loop (ν := 8 + sz ar β) (by omega) (8 + sz ar β) 5000 0 s4 (by omega) (by omega) (by rw [f4 16 (by omega)]; exact hRT.2.1) (fun j hj => by omega)
    have z1' : F_X9_comes_60 5000 0 s4 = _ := z1
    rw [z1', F_X9_comes_81, z3 2, f4 2 (by omega), hA2, sub_hI, bd_r]
    obtain ⟨s6, p1, p2, p3, p4⟩ := args_loop (x2 := 0) hA A 5000 s5 (Nat.le_refl _) (by omega) (by
      rw [Nat.sub_self]
      intro i y hy
      simp at hy)
    rw [Nat.sub_self] at p1
    have p1' : F_X9_comes_93 5000 0 0 (hI A) s5 = F_X9_comes_115 5000 (nI ([] : List Nat).length) (nI A) s6 := p1
    have hlA : (List.range' 0 A).length = A := List.length_range'
    rw [p1', ← hlA]
    have f6 : ∀ j, gF s6 j = gF s4 j := fun j => by rw [p3, z3]
    have a6 : ∀ j, j ≠ 31 → j ≠ 32 → gA s6 j = gA m j := fun j j1 j2 => by rw [p4 j j2, z4 j j1, a4]
    have hRT6 : RT n rw ar κ kb β s6 := hRT.kept hB hK (by rw [f6, f4 15 (by omega)]) (by rw [f6, f4 16 (by omega)]) (fun y _ => by rw [a6 26 (by omega) (by omega)]) (fun y _ => by rw [a6 27 (by omega) (by omega)]) (fun y _ => by rw [a6 28 (by omega) (by omega)])
    have hSB : SB n rw te ar β ((chl te 0 A).map (mtp rw)) := by
      refine ⟨[], 0, ?_, trivial⟩
      rcases orb_ch (fun p hp => (hW.2.2.2 p hp).1) A 0 A (by omega) (q := 0) hW.2.2.1 with h6 | h6
      · have h7 : orb te n 200 0 = _ := h6
        have h9 : orb te n 200 n = [] := by rw [orb, if_pos (Nat.le_refl _)]
        rw [List.nil_append, h7, hW.2.1, h9, List.append_nil, ← chl_range']
      · omega
    obtain ⟨m', t1, t2, t3, t4, t5⟩ := tell_loop hW hN har hK hB hl (Vl n rw ar β) ((chl te 0 A).map (mtp rw)) (List.range' 0 A) [] 0 5000 s6 (Vs_all hW hN har β hB) hSB ⟨by rw [List.length_map, chl_len, hlA], fun i t y h1 h3 => by
      have hi : i < A := by rw [← hlA]; exact (List.getElem?_eq_some_iff.mp h3).1
      have e1 : t = mtp rw (ch te 0 i) := by
        have := nth_map_top (te := te) (rw := rw) hi
        rw [nth_eq, h1] at this
        exact this
      have e2 : y = i := by
        rw [← List.range_eq_range', List.getElem?_range hi] at h3
        injection h3 with h3
        exact h3.symm
      have hin := hW.2.2.1 i hi
      have hki := hK.2.2 i hi
      rw [e1, e2]
      refine ⟨mtp_id hW hin, ?_, ?_⟩
      · have := hK.1 _ hin
        unfold cz
        omega
      · unfold mtp
        by_cases hv : rw (ch te 0 i) < 0
        · rw [if_pos hv]
          have h8 := hW.1.2 _ hin hv
          obtain ⟨j, hj, e3, e4, e5⟩ := neg_name hv
          rw [e3, nI_clamp hj] at h8 ⊢
          right
          refine ⟨fun z => by have := z.1; omega, ?_⟩
          unfold rn
          rw [if_pos h8, e5, a6 26 (by omega) (by omega)]
          have := (hRT.2.2.1 _ hin).1
          rw [hki] at this
          exact this
        · rw [if_neg hv]
          left
          exact ⟨⟨by omega, by omega⟩, by rw [show 8 + ch te 0 i - 8 = ch te 0 i by omega, hki]⟩⟩ p2 (by
      intro t ht
      rw [p4 31 (by omega), z2 _ (rn_lt ht), if_neg (by simp)]) (by rw [f6, g425]; rfl) (by omega) (by simp) (by omega) hRT6 (fun i hi => by rw [a6 2 (by omega) (by omega)]; exact h2 i hi)
    refine ⟨m', t1, ⟨fun j j1 => ?_, fun j j1 => by rw [t3 j j1, a6 j (by omega) (by omega)]⟩, by rw [t2 20 (by omega) (by omega), f6]; exact g420, fun hs => ?_, fun hlg => t5 (by omega)⟩
    · rw [t2 j (by omega) (by omega), f6, f4 j (by omega)]
    · obtain ⟨u1, u2, u3, u4⟩ := t4 (by omega)
      refine ⟨by rw [u2, f6, f4 26 (by omega)], by rw [t2 22 (by omega) (by omega), f6]; exact g422, by rw [t2 23 (by omega) (by omega), f6]; exact g423, by rw [t2 24 (by omega) (by omega), f6]; exact g424, by rw [u1, Nat.zero_add], fun j v hv => ?_⟩
      have := u3 j v hv
      rw [Nat.zero_add] at this
      exact this
  by_cases hso : gF m 21 = -1
  · rw [if_pos hso]
    obtain ⟨m', t1, t2, t3, t4, t5⟩ := tell
    refine ⟨m', t1, t2, t3, fun _ => ?_, fun j hj hs => ?_⟩
    · by_cases hs : (Vl n rw ar β).length ≤ 400
      · rw [if_pos hs]; exact (t4 hs).1
      · rw [if_neg hs]; exact t5 (by omega)
    · rw [hso] at hs
      exact absurd hs.symm (nI_ne_m1 hj)
  · rw [if_neg hso]
    by_cases hkk : nI k = gF m 21
    · rw [if_pos hkk]
      obtain ⟨m', t1, t2, t3, t4, t5⟩ := tell
      refine ⟨m', t1, t2, t3, fun z => absurd z hso, fun j hj hs hsh => ?_⟩
      obtain ⟨u1, u2⟩ := t4 hsh
      have hjk : j = k := nI_inj hj (by omega) (hs.symm.trans hkk.symm)
      exact ⟨u1, fun _ => u2, fun z => absurd hjk z⟩
    · rw [if_neg hkk]
      refine ⟨m1, rfl, ⟨fun j j1 => f1 j (by omega), fun j _ => a1 j⟩, g1, fun z => absurd z hso, fun j hj hs hsh => ⟨f1 26 (by omega), fun z => ?_, fun _ => ⟨fun i i1 i2 => f1 i (by omega), a1 30⟩⟩⟩
      rw [z] at hs
      exact absurd hs.symm hkk
end
