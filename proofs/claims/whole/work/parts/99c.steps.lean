/-! call by call: outcome, rule -/
section
variable {n T N A nq R : Nat} {ct ar : Nat → Nat} {pk rq : Nat → Int32} {fa fp : Int32} {ln bs : Nat → Nat} {sy : Nat → Nat → Int32} {en wt uc pc : Nat → Nat → Nat} {tl : Nat → Nat → List Nat} {O : List Oc} {c c' m m' : St}
/-- what outcome answers -/
def oA (o : Oc) (z : Nat) : Int32 := if z = 0 then nI o.1 else if z = 1 then nI o.2.1 else if z = 2 then nI o.2.2.1 else if z = 3 then nI o.2.2.2.length else if o.2.2.2.length ≤ z - 4 then -9 else (o.2.2.2[z - 4]?).getD 0
theorem outC_eq {j z : Nat} {o : Oc} (ho : OutC O c) (hO : O.length ≤ 24) (hj : O[j]? = some o) (hz : z < 2 ^ 31) : F_X0_answer (nI j) (nI z) c = some (oA o z, c) := by
  have hjl : j < O.length := by
    rcases Nat.lt_or_ge j O.length with h | h
    · exact h
    · rw [List.getElem?_eq_none h] at hj
      cases hj
  obtain ⟨o1, o2, o3, o4⟩ := ho
  have h16 : gF c 16 = nI 9600 := o3 (fun e => by rw [e] at hj; simp at hj)
  obtain ⟨i1, i2, i3, i4, i5, i6⟩ := o4 j o hj
  unfold F_X0_answer
  rw [if_neg (nI_pos (by omega)), o1, if_neg (nI_ge hjl (by omega)), if_pos (nI_pos' hz)]
  simp only [bd_r]
  rw [rd_in _ (show j < 24 by omega) (by omega), rd_in _ (show j < 24 by omega) (by omega), rd_in _ (show j < 24 by omega) (by omega), rd_in _ (show j < 24 by omega) (by omega), i2, i3, i4, i5]
  unfold oA
  by_cases z0 : z = 0
  · rw [if_pos z0, if_pos (show nI z = 0 by rw [z0]; rfl)]
  rw [if_neg z0, if_neg (show ¬ nI z = 0 from fun e => z0 (nI_inj (b := 0) hz (by omega) e))]
  by_cases z1 : z = 1
  · rw [if_pos z1, if_pos (show nI z = 1 by rw [z1]; rfl)]
  rw [if_neg z1, if_neg (show ¬ nI z = 1 from fun e => z1 (nI_inj (b := 1) hz (by omega) e))]
  by_cases z2 : z = 2
  · rw [if_pos z2, if_pos (show nI z = 2 by rw [z2]; rfl)]
  rw [if_neg z2, if_neg (show ¬ nI z = 2 from fun e => z2 (nI_inj (b := 2) hz (by omega) e))]
  by_cases z3 : z = 3
  · rw [if_pos z3, if_pos (show nI z = 3 by rw [z3]; rfl)]
  rw [if_neg z3, if_neg (show ¬ nI z = 3 from fun e => z3 (nI_inj (b := 3) hz (by omega) e)), show nI z - 4 = nI (z - 4) from pk_sub (b := 4) (by omega)]
  by_cases zl : o.2.2.2.length ≤ z - 4
  · rw [if_pos zl, if_pos (nI_le zl (by omega))]
  · rw [if_neg zl, if_neg (nI_ge (by omega) (by omega)), h16, nI_clamp (n := 9600) (by omega), show nI j * 400 = nI (j * 400) from pk_mul j 400, nI_add, rd_in _ (show j * 400 + (z - 4) < 9600 by omega) (by omega)]
    have hv : o.2.2.2[z - 4]? = some (o.2.2.2[z - 4]'(by omega)) := List.getElem?_eq_getElem (by omega)
    rw [Nat.mul_comm j 400, i6 _ _ hv, hv]
    rfl
theorem outM_eq {k z : Nat} {rw : Nat → Int32} {o : Ot} (h : FF k rw ar o m) (hs : shO k rw ar o) (hz : z < 2 ^ 31) : F_X9_outcome_32 (nI z) m = some (oA (ocO k rw ar o) z, m) := by
  obtain ⟨f1, f2, f3, f4, f5⟩ := h
  have hl : (ocO k rw ar o).2.2.2.length = (Vl k rw ar o.2.2.2).length := nmb_len _ _ _ _ _ _
  have hs' : (Vl k rw ar o.2.2.2).length ≤ 400 := hs
  unfold F_X9_outcome_32
  rw [f1, f2, f3, f4]
  unfold oA
  rw [hl]
  by_cases z0 : z = 0
  · rw [if_pos z0, if_pos (show nI z = 0 by rw [z0]; rfl)]; rfl
  rw [if_neg z0, if_neg (show ¬ nI z = 0 from fun e => z0 (nI_inj (b := 0) hz (by omega) e))]
  by_cases z1 : z = 1
  · rw [if_pos z1, if_pos (show nI z = 1 by rw [z1]; rfl)]; rfl
  rw [if_neg z1, if_neg (show ¬ nI z = 1 from fun e => z1 (nI_inj (b := 1) hz (by omega) e))]
  by_cases z2 : z = 2
  · rw [if_pos z2, if_pos (show nI z = 2 by rw [z2]; rfl)]; rfl
  rw [if_neg z2, if_neg (show ¬ nI z = 2 from fun e => z2 (nI_inj (b := 2) hz (by omega) e))]
  by_cases z3 : z = 3
  · rw [if_pos z3, if_pos (show nI z = 3 by rw [z3]; rfl)]
  rw [if_neg z3, if_neg (show ¬ nI z = 3 from fun e => z3 (nI_inj (b := 3) hz (by omega) e)), show nI z - 4 = nI (z - 4) from pk_sub (b := 4) (by omega)]
  by_cases zl : (Vl k rw ar o.2.2.2).length ≤ z - 4
  · rw [if_pos zl, if_pos (nI_le zl (by omega))]
  · rw [if_neg zl, if_neg (nI_ge (by omega) (by omega)), ck_h ((inb_nI (by omega)).mpr (show z - 4 < 401 by omega)), bd_r, nI_clamp (by omega)]
    have hv : (ocO k rw ar o).2.2.2[z - 4]? = some ((ocO k rw ar o).2.2.2[z - 4]'(by omega)) := List.getElem?_eq_getElem (by omega)
    rw [hv, f5 _ _ hv]
    rfl
theorem s_outcome (a0 a1 : Int32) (h : Rel n c m) : ∃ r c' m', F_X8_outcome a0 a1 c = some (r, c') ∧ F_X9_outcome a0 a1 m = some (r, m') ∧ Rel (n + 1) c' m' := by
  have hsame : Rel (n + 1) c m := h.up
  obtain ⟨T, N, ct, ar, pk, fa, fp, A, nq, rq, R, ln, bs, sy, en, wt, uc, pc, tl, O, hp, hc, ht, ho, hm, hh, hom⟩ := h
  obtain ⟨om1, om2⟩ := hom
  unfold F_X8_outcome F_X9_outcome
  by_cases b0 : a0 < 0
  · rw [F_X0_answer, if_pos b0, if_pos b0, bo_s]
    exact ⟨_, _, _, rfl, rfl, hsame⟩
  rw [if_neg b0, om1]
  by_cases b1 : nI O.length ≤ a0
  · rw [F_X0_answer, if_neg b0, ho.1, if_pos b1, if_pos b1, bo_s]
    exact ⟨_, _, _, rfl, rfl, hsame⟩
  rw [if_neg b1]
  by_cases b2 : ¬ 0 ≤ a1
  · rw [F_X0_answer, if_neg b0, ho.1, if_neg b1, if_neg b2, if_neg b2, bo_s]
    exact ⟨_, _, _, rfl, rfl, hsame⟩
  have b2' : 0 ≤ a1 := Classical.not_not.mp b2
  rw [if_pos b2']
  obtain ⟨j, hj, rfl⟩ := nI_of b0
  obtain ⟨z, hz, rfl⟩ := nI_of (show ¬ a1 < 0 from Int32.not_lt.mpr b2')
  have hjO : j < O.length := by
    rcases Nat.lt_or_ge j O.length with h4 | h4
    · exact h4
    · exact absurd (nI_le h4 hj) b1
  rcases om2 with om2 | ⟨k, rw', te, κ, kb, k0, k1, k2, k3, k4, k5, k6, k7⟩
  · rw [om2] at hjO
    simp at hjO
  have hL : j < (LdT R A N k ar rw' te sy en).length := by rw [k4, List.length_map] at hjO; exact hjO
  obtain ⟨o, hLo⟩ : ∃ o, (LdT R A N k ar rw' te sy en)[j]? = some o := ⟨_, List.getElem?_eq_getElem hL⟩
  have hO : O[j]? = some (ocO k rw' ar o) := by rw [k4, List.getElem?_map, hLo]; rfl
  have hsh : shO k rw' ar o := k6 o (List.mem_of_getElem? hLo)
  rw [outC_eq ho k5 hO hz, bo_s]
  by_cases b3 : gF m 21 = nI j
  · rw [if_pos b3]
    rcases k7 with k7 | ⟨j', j1, j2, j3⟩
    · rw [k7] at b3
      exact absurd b3.symm (nI_ne_m1 hj)
    have e : j' = j := nI_inj (by omega) hj (by rw [← j2, b3])
    rw [e] at j3
    rw [outM_eq (j3 o hLo) hsh hz]
    exact ⟨_, _, _, rfl, rfl, hsame⟩
  · rw [if_neg b3]
    have hpu := hp.up
    obtain ⟨p1, p2, p3, p4, p5, p6, ⟨h1, h2, h3, h4, h5, h6, h7⟩, p8, p9⟩ := hp
    obtain ⟨m', g1, g2, g3, g4, g5, g6, g7, g8⟩ := go_eq (bs := bs) h1 k1 k2 p2 h2 h6 (hm.2.2.2.2.2.ru h6) (hm.1.con p1) hm.2.2.2.2.2.1 (by rw [hm.2.1]; exact k0) k3 (nI j)
    have hFF := g6 j hj rfl k6
    rw [g1, bo_s, outM_eq (hFF o hLo) hsh hz]
    refine ⟨_, _, _, rfl, rfl, T, N, ct, ar, pk, fa, fp, A, nq, rq, R, ln, bs, sy, en, wt, uc, pc, tl, O, hpu, hc, ht, ho, ?_, ?_, ?_⟩
    · exact hm.kept (fun i i1 => g7 i (by omega)) (fun i i1 => g8 i (by omega))
    · exact hh.kept (fun i i1 i2 => g7 i (by omega)) (fun i i1 i2 => g8 i (by omega))
    · exact ⟨by rw [g7 19 (by omega)]; exact om1, Or.inr ⟨k, rw', te, κ, kb, k0, k1, k2, g2, k4, k5, k6, Or.inr ⟨j, hjO, g4, hFF⟩⟩⟩
/-! rule -/
theorem CB.rd (h : CB T N ct ar pk fa fp nq rq R ln bs sy en uc pc c) (hW : SgW T N ct ar pk) (hA : A ≤ 6) (hfa : fa = nI A) (hn : nq ≤ 160) : RdC N ct ar pk A fp nq rq c :=
  ⟨hW.2.1, hA, hn, h.1.2.1, fun i hi => ⟨by have := (hW.2.2 i hi).1; have := hW.1; omega, (hW.2.2 i hi).2.1, (h.1.2.2 i hi).1, (h.1.2.2 i hi).2.1, (h.1.2.2 i hi).2.2⟩, by rw [h.2.1, hfa], h.2.2.1, h.2.2.2.2.1⟩
theorem MB.rd (h : MB T N ct ar pk fa fp nq rq R ln sy en uc pc m) (hW : SgW T N ct ar pk) (hA : A ≤ 6) (hfa : fa = nI A) (hn : nq ≤ 160) : RdM N ct ar pk A fp nq rq m :=
  ⟨hW.2.1, hA, hn, h.1.2.1, fun i hi => ⟨by have := (hW.2.2 i hi).1; have := hW.1; omega, (hW.2.2 i hi).2.1, (h.1.2.2 i hi).1, (h.1.2.2 i hi).2.1, (h.1.2.2 i hi).2.2⟩, by rw [h.2.1, hfa], h.2.2.1, h.2.2.2.1, h.2.2.2.2.1⟩
end
