/-! the reference tells -/
section
variable {N n A : Nat} {ar : Nat → Nat} {rw : Nat → Int32} {te : Nat → Nat} {κ kb : Nat → Nat} {β : Bd}
def ToM (Y : List Nat) (m : St) : Prop := ∀ i y, Y[i]? = some y → gA m 32 (Y.length - 1 - i) = nI y
theorem ToM.push {Y : List Nat} {m m' : St} {y : Nat} (h : ToM Y m) (e : gA m' 32 = upd (gA m 32) Y.length (nI y)) : ToM (y :: Y) m' := by
  intro i x hx
  rw [e]
  cases i with
  | zero =>
    cases hx
    rw [show (y :: Y).length - 1 - 0 = Y.length by simp, upd_s]
  | succ i =>
    have hx' : Y[i]? = some x := hx
    have hi : i < Y.length := (List.getElem?_eq_some_iff.mp hx').1
    rw [show (y :: Y).length - 1 - (i + 1) = Y.length - 1 - i by simp; omega, upd_n _ _ (by omega)]
    exact h i x hx'
theorem push_loop (k115 : Int32 → Int32 → St → Rs) {x2 : Int32} {z b a : Nat} {Y : List Nat} (hz : z < 1200) (hY : Y.length + a ≤ 1200) :
    ∀ (k w : Nat) (m : St), k ≤ a → k < w → gA m 27 z = nI b → ToM ((List.range' k (a - k)).map (fun i => b + i) ++ Y) m → ∃ m', F_X9_comes_233 k115 w x2 (nI (Y.length + (a - k))) (nI z) (hI k) m = F_X9_comes_263 k115 x2 (nI (Y.length + a)) m' ∧ ToM ((List.range' 0 a).map (fun i => b + i) ++ Y) m' ∧ (∀ j, gF m' j = gF m j) ∧ ∀ j, j ≠ 32 → gA m' j = gA m j := by
  intro k
  induction k with
  | zero =>
    intro w m hk hw h27 hS
    obtain ⟨w, rfl⟩ : ∃ q, w = q + 1 := ⟨w - 1, by omega⟩
    rw [F_X9_comes_233, if_pos hI_neg0, Nat.sub_zero]
    rw [Nat.sub_zero] at hS
    exact ⟨m, rfl, hS, fun _ => rfl, fun _ _ => rfl⟩
  | succ k ih =>
    intro w m hk hw h27 hS
    obtain ⟨w, rfl⟩ : ∃ q, w = q + 1 := ⟨w - 1, by omega⟩
    have hlen : ((List.range' (k + 1) (a - (k + 1))).map (fun i => b + i) ++ Y).length = Y.length + (a - (k + 1)) := by simp; omega
    rw [F_X9_comes_233, hI_m1, hI_s, if_neg (nI_pos (by omega)), ck_in hz (by omega), bd_r, nI_clamp (n := z) (by omega), h27, ck_in (by omega) (by omega), bd_r, nI_clamp (n := Y.length + (a - (k + 1))) (by omega), nI_add, nI_1]
    obtain ⟨m1, hm1⟩ : ∃ m1, sA m 32 (upd (gA m 32) (Y.length + (a - (k + 1))) (nI (b + k))) = m1 := ⟨_, rfl⟩
    rw [hm1, show Y.length + (a - (k + 1)) + 1 = Y.length + (a - k) by omega]
    obtain ⟨m', r1, r2, r3, r4⟩ := ih w m1 (by omega) (by omega) (by rw [← hm1]; exact h27) (by
      rw [show a - k = (a - (k + 1)) + 1 by omega, List.range'_succ, List.map_cons, List.cons_append]
      refine hS.push ?_
      rw [hlen, ← hm1]
      exact gA_sA_s _ _ _)
    exact ⟨m', r1, r2, fun j => by rw [r3, ← hm1]; rfl, fun j j1 => by rw [r4 j j1, ← hm1, gA_sA, if_neg j1]⟩
def NuM (n : Nat) (ar : Nat → Nat) (β : Bd) (seen : List Nat) (f : Nat → Int32) : Prop := ∀ t, nmId n ar β t → f (rn n t) = if t ∈ seen then nI (seen.idxOf t + 1) else 0
/-- a stack of the reference's cells means a stack of ids -/
def NRs (n : Nat) (rw : Nat → Int32) (ar κ : Nat → Nat) (β : Bd) (m : St) (S Y : List Nat) : Prop := S.length = Y.length ∧ ∀ (i t y : Nat), S[i]? = some t → Y[i]? = some y → VId n rw ar β t ∧ NR n ar κ β m t y
theorem tell_loop (hW : TmW n N A rw te ar) (hN : N ≤ 60) (har : ∀ c, c < N → ar c ≤ 4) (hK : TKW n N A rw te ar κ kb) (hB : BW n N ar β) (hl : β.length ≤ 160) :
    ∀ (L S Y seen : List Nat) (k w : Nat) (m : St), Vs n rw te ar β S L → SB n rw te ar β S → NRs n rw ar κ β m S Y → ToM Y m → NuM n ar β seen (gA m 31) → gF m 25 = nI k → k ≤ 400 → seen.length ≤ k → 402 - k ≤ w → RT n rw ar κ kb β m → (∀ i, i < N → gA m 2 i = nI (ar i)) →
    ∃ m', F_X9_comes_115 w (nI seen.length) (nI Y.length) m = some (0, m') ∧ (∀ j, j ≠ 25 → j ≠ 26 → gF m' j = gF m j) ∧ (∀ j, j < 30 ∨ 32 < j → gA m' j = gA m j) ∧ (k + L.length ≤ 400 → gF m' 25 = nI (k + L.length) ∧ gF m' 26 = gF m 26 ∧ (∀ j v, (nmb n rw ar β seen L)[j]? = some v → gA m' 30 (k + j) = v) ∧ ∀ y, y < k → gA m' 30 y = gA m 30 y) ∧ (400 < k + L.length → gF m' 26 = 1) := by
  have hn := hW.1.1
  have hsz := (Vl_facts hW.1 β hB har).2.2.2
  have hcz : cz n ar β ≤ 960 := by unfold cz; omega
  intro L
  induction L with
  | nil =>
    intro S Y seen k w m hV hSB hNR hTo hNu h25 hk hse hw hRT h2
    obtain ⟨w, rfl⟩ : ∃ q, w = q + 1 := ⟨w - 1, by omega⟩
    have hS : S = [] := hV
    have hY : Y.length = 0 := by rw [← hNR.1, hS]; rfl
    rw [F_X9_comes_115, hY, if_pos (by decide)]
    exact ⟨m, rfl, fun _ _ _ => rfl, fun _ _ => rfl, fun _ => ⟨h25, rfl, fun j v hv => by simp [nmb] at hv, fun _ _ => rfl⟩, fun h => by simp at h; omega⟩
  | cons t L ih =>
    intro S Y seen k w m hV hSB hNR hTo hNu h25 hk hse hw hRT h2
    obtain ⟨w, rfl⟩ : ∃ q, w = q + 1 := ⟨w - 1, by omega⟩
    obtain ⟨S', e1, e2⟩ := hV
    subst e1
    have hSl := hSB.len hW hl
    obtain ⟨n1, n2⟩ := hNR
    cases Y with
    | nil => cases n1
    | cons y Y =>
      have hYl : Y.length = S'.length := by simpa using n1.symm
      rw [List.length_cons] at hSl
      obtain ⟨v1, v2⟩ := n2 0 t y rfl rfl
      have hTy := hTo 0 y rfl
      rw [show (y :: Y).length - 1 - 0 = Y.length by simp] at hTy
      rw [List.length_cons, List.length_cons, F_X9_comes_115, if_neg (nI_nle (by omega) (by omega)), h25]
      by_cases hk4 : k = 400
      · rw [if_pos (by rw [hk4]; rfl), F_X9_comes_129, ck_1, bd_r]
        exact ⟨_, rfl, fun j _ j2 => by rw [gF_sF, if_neg j2], fun _ _ => rfl, fun h => by omega, fun _ => rfl⟩
      · rw [if_neg (show ¬ nI k = (400 : Int32) from fun z => hk4 (nI_inj (b := 400) (by omega) (by omega) z)), pk_m1, ck_in (by omega) (by omega), bd_r, nI_clamp (n := Y.length) (by omega), hTy]
        obtain ⟨z, z1, z2, z3⟩ := here_eq hW hN har hK hB hl hRT v1 v2
        rw [z1, bo_s, ck_in (by omega) (by omega), bd_r, nI_clamp (n := z) (by omega)]
        have hToT : ToM Y m := fun i x hx => by
          have hi : i < Y.length := (List.getElem?_eq_some_iff.mp hx).1
          have := hTo (i + 1) x hx
          rw [show (y :: Y).length - 1 - (i + 1) = Y.length - 1 - i by simp; omega] at this
          exact this
        have hNRt : ∀ i t' y', S'[i]? = some t' → Y[i]? = some y' → VId n rw ar β t' ∧ NR n ar κ β m t' y' := fun i t' y' h1 h3 => n2 (i + 1) t' y' h1 h3
        -- what comes behind one number
        have fin : ∀ (v : Int32) (m2 : St) (seen' Y' : List Nat), gA m2 30 = upd (gA m 30) k v → gF m2 25 = nI k → (∀ j, j ≠ 25 → gF m2 j = gF m j) → (∀ j, j < 30 ∨ 32 < j → gA m2 j = gA m j) → NRs n rw ar κ β m (kd n rw te ar β t ++ S') Y' → ToM Y' m2 → NuM n ar β seen' (gA m2 31) → seen'.length ≤ k + 1 → nmb n rw ar β seen (t :: L) = v :: nmb n rw ar β seen' L →
            ∃ m', F_X9_comes_263 (F_X9_comes_115 w) (nI seen'.length) (nI Y'.length) m2 = some (0, m') ∧ (∀ j, j ≠ 25 → j ≠ 26 → gF m' j = gF m j) ∧ (∀ j, j < 30 ∨ 32 < j → gA m' j = gA m j) ∧ (k + (L.length + 1) ≤ 400 → gF m' 25 = nI (k + (L.length + 1)) ∧ gF m' 26 = gF m 26 ∧ (∀ j v, (nmb n rw ar β seen (t :: L))[j]? = some v → gA m' 30 (k + j) = v) ∧ ∀ y, y < k → gA m' 30 y = gA m 30 y) ∧ (400 < k + (L.length + 1) → gF m' 26 = 1) := by
          intro v m2 seen' Y' q30 q25 qf qa qN qT qNu qse qnm
          rw [F_X9_comes_263, q25, nI_1, bd_r]
          obtain ⟨m3, hm3⟩ : ∃ m3, sF m2 25 (nI (k + 1)) = m3 := ⟨_, rfl⟩
          have f3 : ∀ j, j ≠ 25 → gF m3 j = gF m j := fun j j1 => by rw [← hm3, gF_sF, if_neg j1, qf j j1]
          have a3 : ∀ j, gA m3 j = gA m2 j := fun j => by rw [← hm3]; rfl
          rw [hm3]
          obtain ⟨m', r1, r2, r3, r4, r5⟩ := ih (kd n rw te ar β t ++ S') Y' seen' (k + 1) w m3 e2 (hSB.step hW hN har hB) ⟨qN.1, fun i t' y' h1 h3 => ⟨(qN.2 i t' y' h1 h3).1, (qN.2 i t' y' h1 h3).2.1, by rw [a3, qa 26 (by omega)]; exact (qN.2 i t' y' h1 h3).2.2⟩⟩ (by intro i x hx; rw [a3]; exact qT i x hx) (by rw [a3]; exact qNu) (by rw [← hm3]; rfl) (by omega) qse (by omega) (hRT.kept hB hK (f3 15 (by omega)) (f3 16 (by omega)) (fun y _ => by rw [a3, qa 26 (by omega)]) (fun y _ => by rw [a3, qa 27 (by omega)]) (fun y _ => by rw [a3, qa 28 (by omega)])) (fun i hi => by rw [a3, qa 2 (by omega)]; exact h2 i hi)
          refine ⟨m', r1, fun j j1 j2 => by rw [r2 j j1 j2, f3 j j1], fun j j1 => by rw [r3 j j1, a3, qa j j1], fun hs => ?_, fun hlg => r5 (by omega)⟩
          obtain ⟨u1, u2, u3, u4⟩ := r4 (by omega)
          refine ⟨by rw [u1]; congr 1; omega, by rw [u2, f3 26 (by omega)], fun j x hx => ?_, fun y hy => by rw [u4 y (by omega), a3, q30, upd_n _ _ (by omega)]⟩
          rw [qnm] at hx
          cases j with
          | zero =>
            cases hx
            rw [u4 _ (by omega), a3, q30, Nat.add_zero, upd_s]
          | succ j =>
            have := u3 j x hx
            rw [show k + (j + 1) = k + 1 + j by omega]
            exact this
        cases hz : cn n rw ar β t with
        | some i =>
          rw [hz] at z3
          dsimp only at z3
          obtain ⟨z4, b, z5, z6⟩ := z3
          have hi := cn_lt hW hN hB v1 hz
          have hai := har i hi
          rw [z4, if_pos (nI_pos' (by omega)), h25, ck_in (by omega) (by omega), bd_r, nI_clamp (n := k) (by omega)]
          obtain ⟨m1, hm1⟩ : ∃ m1, sA m 30 (upd (gA m 30) k (nI i)) = m1 := ⟨_, rfl⟩
          have a1 : ∀ j, j ≠ 30 → gA m1 j = gA m j := fun j j1 => by rw [← hm1, gA_sA, if_neg j1]
          have f1 : ∀ j, gF m1 j = gF m j := fun j => by rw [← hm1]; rfl
          rw [hm1, ck_in (by omega) (by omega), bd_r, nI_clamp (n := i) (by omega), a1 2 (by omega), h2 i hi, sub_hI, bd_r]
          have hkl := kd_len (te := te) hz
          obtain ⟨m2, p1, p2, p3, p4⟩ := push_loop (F_X9_comes_115 w) (x2 := nI seen.length) (z := z) (b := b) (a := ar i) (Y := Y) (by omega) (by omega) (ar i) 5000 m1 (Nat.le_refl _) (by omega) (by rw [a1 27 (by omega)]; exact z5) (by
            rw [Nat.sub_self]
            intro j x hx
            rw [a1 32 (by omega)]
            exact hToT j x hx)
          rw [Nat.sub_self, Nat.add_zero] at p1
          have hYl2 : ((List.range' 0 (ar i)).map (fun j => b + j) ++ Y).length = Y.length + ar i := by simp; omega
          rw [p1, ← hYl2]
          refine fin (nI i) m2 seen _ (by rw [p4 30 (by omega), ← hm1]; exact gA_sA_s _ _ _) (by rw [p3, f1]; exact h25) (fun j _ => by rw [p3, f1]) (fun j j1 => by rw [p4 j (by omega), a1 j (by omega)]) ⟨by rw [hYl2, List.length_append, hkl]; omega, fun j t' y' h1 h3 => ?_⟩ p2 (by rw [p4 31 (by omega), a1 31 (by omega)]; exact hNu) (by omega) (by
            have hn1 : num1 n rw ar β seen t = (nI i, seen) := by unfold num1; rw [hz]
            rw [nmb, hn1])
          by_cases hj : j < ar i
          · rw [List.getElem?_append_left (by rw [hkl]; exact hj)] at h1
            rw [List.getElem?_append_left (by simpa using hj)] at h3
            have et : t' = chT n rw te ar β t j := by
              have := kd_get (te := te) hz hj
              rw [nth_eq, h1] at this
              exact this
            have ey : y' = b + j := by
              rw [List.getElem?_map, ← List.range_eq_range', List.getElem?_range hj] at h3
              injection h3 with h3
              exact h3.symm
            rw [et, ey]
            exact ⟨kid_id hW hN hB v1 hz hj, z6 j hj⟩
          · rw [List.getElem?_append_right (by rw [hkl]; omega), hkl] at h1
            have hlr : ((List.range' 0 (ar i)).map (fun j => b + j)).length = ar i := by simp
            rw [List.getElem?_append_right (by rw [hlr]; omega), hlr] at h3
            exact hNRt _ t' y' h1 h3
        | none =>
          rw [hz] at z3
          dsimp only at z3
          obtain ⟨m1a, m1b⟩ := free_nm v1 hz
          have hrl := rn_lt m1a
          obtain ⟨g1, g2⟩ := neg_nm (k := rn n t) (by omega)
          have hkd : kd n rw te ar β t = [] := by unfold kd; rw [hz]
          rw [z3, if_neg (Int32.not_le.mpr g1), g2, ck_in (by omega) (by omega), bd_r, nI_clamp (n := rn n t) (by omega), hNu t m1a]
          have hNR0 : NRs n rw ar κ β m (kd n rw te ar β t ++ S') Y := ⟨by rw [hkd, List.nil_append]; exact hYl.symm, fun i t' y' h1 h3 => by rw [hkd, List.nil_append] at h1; exact hNRt i t' y' h1 h3⟩
          by_cases hm : t ∈ seen
          · have hix : seen.idxOf t < seen.length := List.idxOf_lt_length_of_mem hm
            rw [if_pos hm, if_neg (nI_ne0 (by omega) (by omega)), F_X9_comes_189, g2, ck_in (by omega) (by omega), bd_r, nI_clamp (n := rn n t) (by omega), hNu t m1a, if_pos hm, h25, ck_in (by omega) (by omega), bd_r, nI_clamp (n := k) (by omega)]
            refine fin (-(nI (seen.idxOf t + 1))) _ seen Y (gA_sA_s _ _ _) h25 (fun j _ => rfl) (fun j j1 => by rw [gA_sA, if_neg (by omega)]) hNR0 (fun i x hx => by rw [gA_sA, if_neg (by omega)]; exact hToT i x hx) (by rw [gA_sA, if_neg (by omega)]; exact hNu) (by omega) ?_
            have hn1 : num1 n rw ar β seen t = (-(nI (seen.idxOf t + 1)), seen) := by unfold num1; rw [hz]; dsimp only; rw [if_pos hm]
            rw [nmb, hn1]
          · rw [if_neg hm, if_pos rfl, ck_in (by omega) (by omega), bd_r, nI_1]
            obtain ⟨m1, hm1⟩ : ∃ m1, sA m 31 (upd (gA m 31) (rn n t) (nI (seen.length + 1))) = m1 := ⟨_, rfl⟩
            have a1 : ∀ j, j ≠ 31 → gA m1 j = gA m j := fun j j1 => by rw [← hm1, gA_sA, if_neg j1]
            have b31 : gA m1 31 = upd (gA m 31) (rn n t) (nI (seen.length + 1)) := by rw [← hm1]; exact gA_sA_s _ _ _
            have f1 : ∀ j, gF m1 j = gF m j := fun j => by rw [← hm1]; rfl
            rw [hm1, F_X9_comes_189, g2, ck_in (by omega) (by omega), bd_r, nI_clamp (n := rn n t) (by omega), b31, upd_s, f1, h25, ck_in (by omega) (by omega), bd_r, nI_clamp (n := k) (by omega)]
            have hsl2 : (seen ++ [t]).length = seen.length + 1 := by simp
            rw [← hsl2]
            have := fin (-(nI (seen.length + 1))) (sA m1 30 (upd (gA m1 30) k (-(nI (seen.length + 1))))) (seen ++ [t]) Y (by rw [gA_sA_s, a1 30 (by omega)]) (by rw [gF_sA, f1]; exact h25) (fun j _ => by rw [gF_sA, f1]) (fun j j1 => by rw [gA_sA, if_neg (by omega), a1 j (by omega)]) hNR0 (fun i x hx => by rw [gA_sA, if_neg (by omega), a1 32 (by omega)]; exact hToT i x hx) (by
              rw [gA_sA, if_neg (by omega), b31]
              intro u hu
              by_cases hut : u = t
              · subst hut
                rw [upd_s, if_pos (by simp), List.idxOf_append, if_neg hm]
                simp
              · have hne : rn n u ≠ rn n t := fun q => hut (rn_inj hu m1a q)
                rw [upd_n _ _ hne, hNu u hu]
                by_cases hus : u ∈ seen
                · rw [if_pos hus, if_pos (List.mem_append_left _ hus), List.idxOf_append, if_pos hus]
                · rw [if_neg hus, if_neg (by simp [hus, hut])]) (by omega) (by
              have hn1 : num1 n rw ar β seen t = (-(nI (seen.length + 1)), seen ++ [t]) := by unfold num1; rw [hz]; dsimp only; rw [if_neg hm]
              rw [nmb, hn1])
            rw [hsl2] at this ⊢
            exact this
end
