/-! call by call: type, constructor, begin, put -/
section
variable {n T N A nq R : Nat} {ct ar : Nat → Nat} {pk rq : Nat → Int32} {fa fp : Int32} {ln bs : Nat → Nat} {sy : Nat → Nat → Int32} {en wt uc pc : Nat → Nat → Nat} {tl : Nat → Nat → List Nat} {O : List Oc} {c c' m m' : St}
theorem s_type (h : Rel n c m) : ∃ r c' m', F_X8_type c = some (r, c') ∧ F_X9_type m = some (r, m') ∧ Rel (n + 1) c' m' := by
  obtain ⟨T, N, ct, ar, pk, fa, fp, A, nq, rq, R, ln, bs, sy, en, wt, uc, pc, tl, O, hp, hc, ht, ho, hm, hh, hom⟩ := h
  rw [typeC hp.1 hc.1, typeM hp.1 hm.1]
  by_cases q : T < 12
  · rw [if_pos q, if_pos q]
    refine ⟨_, _, _, rfl, rfl, T + 1, N, ct, ar, pk, fa, fp, A, nq, rq, R, ln, bs, sy, en, wt, uc, pc, tl, O, ?_, ?_, ?_, ?_, ?_, ?_, ?_⟩
    · obtain ⟨⟨w1, w2, w3⟩, h2⟩ := hp.up
      exact ⟨⟨by omega, w2, fun i hi => ⟨Nat.lt_succ_of_lt (w3 i hi).1, (w3 i hi).2.1, fun k hk => Nat.lt_succ_of_lt ((w3 i hi).2.2 k hk)⟩⟩, h2⟩
    · obtain ⟨⟨g1, g2, g3⟩, h2⟩ := hc
      exact ⟨⟨rfl, g2, g3⟩, h2⟩
    · exact ht.kept rfl rfl (fun _ _ _ => rfl)
    · exact ho.kp rfl rfl (fun _ _ => rfl)
    · obtain ⟨⟨g1, g2, g3⟩, h2⟩ := hm
      exact ⟨⟨rfl, g2, g3⟩, h2⟩
    · exact hh.kept (fun j j1 j2 => by rw [gF_sF, if_neg (by omega)]) (fun _ _ _ => rfl)
    · exact hom.kept (fun j j1 => by rw [gF_sF, if_neg (by omega)]) (fun _ _ => rfl)
  · rw [if_neg q, if_neg q]
    exact ⟨_, _, _, rfl, rfl, T, N, ct, ar, pk, fa, fp, A, nq, rq, R, ln, bs, sy, en, wt, uc, pc, tl, O, hp.up, hc, ht, ho, hm, hh, hom⟩
theorem s_con (a0 a1 a2 : Int32) (h : Rel n c m) : ∃ r c' m', F_X8_constructor a0 a1 a2 c = some (r, c') ∧ F_X9_constructor a0 a1 a2 m = some (r, m') ∧ Rel (n + 1) c' m' := by
  have hsame : Rel (n + 1) c m := h.up
  obtain ⟨T, N, ct, ar, pk, fa, fp, A, nq, rq, R, ln, bs, sy, en, wt, uc, pc, tl, O, hp, hc, ht, ho, hm, hh, hom⟩ := h
  obtain ⟨hT, hN, hw⟩ := hp.1
  unfold F_X8_constructor F_X4_addConstructor F_X9_constructor
  rw [hc.1.1, hc.1.2.1, hm.1.1]
  by_cases b0 : a0 < 0
  · rw [if_pos b0, if_pos b0, bo_s, if_pos rfl]
    exact ⟨_, _, _, rfl, rfl, hsame⟩
  rw [if_neg b0, if_neg b0]
  by_cases b1 : nI T ≤ a0
  · rw [if_pos b1, if_pos b1, bo_s, if_pos rfl]
    exact ⟨_, _, _, rfl, rfl, hsame⟩
  rw [if_neg b1, if_neg b1]
  by_cases b2 : a1 < 0
  · rw [if_pos b2, if_pos b2]
    split
    · rw [bo_s, if_pos rfl]; exact ⟨_, _, _, rfl, rfl, hsame⟩
    · rw [bo_s, if_pos rfl]; exact ⟨_, _, _, rfl, rfl, hsame⟩
  rw [if_neg b2, if_neg b2]
  by_cases b3 : 4 < a1
  · rw [if_pos b3, if_pos b3]
    split
    · rw [bo_s, if_pos rfl]; exact ⟨_, _, _, rfl, rfl, hsame⟩
    · rw [bo_s, if_pos rfl]; exact ⟨_, _, _, rfl, rfl, hsame⟩
  rw [if_neg b3, if_neg b3]
  obtain ⟨a, ha, rfl⟩ := nI_of b2
  have ha4 : a ≤ 4 := by
    rcases Nat.lt_or_ge 4 a with h4 | h4
    · exact absurd (show (4 : Int32) < nI a from nI_lt (a := 4) h4 ha) b3
    · exact h4
  obtain ⟨t, ht0, rfl⟩ := nI_of b0
  have htT : t < T := by
    rcases Nat.lt_or_ge t T with h4 | h4
    · exact h4
    · exact absurd (nI_le h4 ht0) b1
  rw [areC a2 hT (by omega) hc.1.1, areM a2 hT (by omega) hm.1.1, bo_s, bo_s]
  by_cases b4n : ¬ allTy T a2 a = true
  · rw [if_neg b4n, if_pos rfl, if_pos rfl]
    split
    · rw [bo_s, if_pos rfl]; exact ⟨_, _, _, rfl, rfl, hsame⟩
    · rw [bo_s, if_pos rfl]; exact ⟨_, _, _, rfl, rfl, hsame⟩
  have b4 : allTy T a2 a = true := Classical.not_not.mp b4n
  rw [if_pos b4, if_neg (show ¬ (1 : Int32) = 0 by decide), if_neg (show ¬ (1 : Int32) = 0 by decide), hm.1.2.1]
  by_cases b5n : 60 ≤ N
  · rw [if_neg (show ¬ nI N < 60 from nI_nlt (b := 60) (by omega) (by omega)), if_pos (show nI N = 60 by rw [show N = 60 by omega]; rfl), bo_s, if_pos rfl]
    exact ⟨_, _, _, rfl, rfl, hsame⟩
  have b5 : N < 60 := by omega
  rw [if_pos (show nI N < 60 from nI_lt (b := 60) b5 (by omega)), if_neg (show ¬ nI N = 60 from fun z => by have := nI_inj (b := 60) (by omega) (by omega) z; omega)]
  simp only [bd_r, gF_sA, hc.1.2.1, hm.1.2.1, gF_sF, ↓reduceIte, if_neg (show ¬ (1 : Nat) = 19 by omega), nI_clamp (show N < 2 ^ 31 by omega), bo_s, wr_in _ _ b5 (show 60 < 2 ^ 31 by omega), nI_1, sub1]
  rw [ck_h ((inb_nI (by omega)).mpr b5), ck_h ((inb_nI (by omega)).mpr b5), ck_h ((inb_nI (by omega)).mpr b5), if_neg (nI_ne_m1 (by omega)), F_X0_clear, bd_r, bo_s]
  have hcc : ∀ i, i < N → snocF N ct t i = ct i ∧ snocF N ar a i = ar i ∧ snocF N pk a2 i = pk i := fun i hi => ⟨snocF_n (by omega), snocF_n (by omega), snocF_n (by omega)⟩
  obtain ⟨p1, p2, p3, p4, p5, p6, p7, p8, p9⟩ := hp.up
  have hsy : ∀ r q, sy r q ≠ nI N := fun r q he => by have := sy_lt hN p7.2.2.2.2.2.2 (show N < 2 ^ 31 by omega) he; omega
  have hTT : TT R A (N + 1) (snocF N ar a) sy en = TT R A N ar sy en := TT_more hsy (fun i hi => (hcc i hi).2.1)
  refine ⟨_, _, _, rfl, rfl, T, N + 1, snocF N ct t, snocF N ar a, snocF N pk a2, fa, fp, A, nq, rq, R, ln, bs, sy, en, wt, uc, pc, tl, [], ?_, ?_, ?_, ?_, ?_, ?_, ?_⟩
  · refine ⟨⟨hT, by omega, fun i hi => ?_⟩, p2, p3, p4, p5, p6, p7.more hN hcc, by rw [hTT]; exact p8, by rw [hTT]; exact p9⟩
    by_cases e : i = N
    · rw [e, snocF_s, snocF_s, snocF_s]
      exact ⟨htT, ha4, allTy_iff.mp b4⟩
    · rw [snocF_n e, snocF_n e, snocF_n e]
      exact hw i (by omega)
  · obtain ⟨⟨g1, g2, g3⟩, h2⟩ := hc
    refine ⟨⟨g1, rfl, fun i hi => ?_⟩, h2⟩
    show upd (gA c 9) N (nI t) i = _ ∧ upd (gA c 10) N (nI a) i = _ ∧ upd (gA c 11) N a2 i = _
    by_cases e : i = N
    · rw [e, snocF_s, snocF_s, snocF_s, upd_s, upd_s, upd_s]
      exact ⟨rfl, rfl, rfl⟩
    · rw [snocF_n e, snocF_n e, snocF_n e, upd_n _ _ e, upd_n _ _ e, upd_n _ _ e]
      exact g3 i (by omega)
  · rcases ht with ht | ⟨ht1, ht2, ht3⟩
    · exact Or.inl ht
    · exact Or.inr ⟨ht1, by rw [hTT]; exact ht2.kept rfl (fun _ j1 j2 => by simp only [gA_sF, gA_sA]; repeat rw [if_neg (by omega)]), Mrk_more hsy (fun i hi => (hcc i hi).2.1) _ _ _ _ _ ht3⟩
  · exact ho.none rfl rfl
  · obtain ⟨⟨g1, g2, g3⟩, h2⟩ := hm
    refine ⟨⟨g1, rfl, fun i hi => ?_⟩, h2⟩
    show upd (gA m 1) N (nI t) i = _ ∧ upd (gA m 2) N (nI a) i = _ ∧ upd (gA m 3) N a2 i = _
    by_cases e : i = N
    · rw [e, snocF_s, snocF_s, snocF_s, upd_s, upd_s, upd_s]
      exact ⟨rfl, rfl, rfl⟩
    · rw [snocF_n e, snocF_n e, snocF_n e, upd_n _ _ e, upd_n _ _ e, upd_n _ _ e]
      exact g3 i (by omega)
  · rw [hTT]
    exact hh.kept (fun j j1 j2 => by simp only [gF_sF, gF_sA]; repeat rw [if_neg (by omega)]) (fun j j1 j2 => by simp only [gA_sF, gA_sA]; repeat rw [if_neg (by omega)])
  · exact OM.none rfl
theorem s_put (a0 : Int32) (h : Rel n c m) : ∃ r c' m', F_X8_put a0 c = some (r, c') ∧ F_X9_put a0 m = some (r, m') ∧ Rel (n + 1) c' m' := by
  have hsame : Rel (n + 1) c m := h.up
  obtain ⟨T, N, ct, ar, pk, fa, fp, A, nq, rq, R, ln, bs, sy, en, wt, uc, pc, tl, O, hp, hc, ht, ho, hm, hh, hom⟩ := h
  obtain ⟨p1, p2, p3, p4, p5, p6, p7, p8, p9⟩ := hp
  unfold F_X8_put F_X2_add F_X9_put
  rw [hc.2.2.2.1, hm.2.2.2.1]
  by_cases b5n : 160 ≤ nq
  · rw [if_neg (show ¬ nI nq < 160 from nI_nlt (b := 160) (by omega) (by omega)), if_pos (show nI nq = 160 by rw [show nq = 160 by omega]; rfl), bo_s]
    exact ⟨_, _, _, rfl, rfl, hsame⟩
  have b5 : nq < 160 := by omega
  rw [if_pos (show nI nq < 160 from nI_lt (b := 160) b5 (by omega)), if_neg (show ¬ nI nq = 160 from fun z => by have := nI_inj (b := 160) (by omega) (by omega) z; omega), ck_h ((inb_nI (by omega)).mpr b5)]
  simp only [bd_r, gF_sA, hc.2.2.2.1, hm.2.2.2.1, gF_sF, ↓reduceIte, if_neg (show ¬ (1 : Nat) = 19 by omega), nI_clamp (show nq < 2 ^ 31 by omega), bo_s, wr_in _ _ b5 (show 160 < 2 ^ 31 by omega), nI_1]
  refine ⟨_, _, _, rfl, rfl, T, N, ct, ar, pk, fa, fp, A, nq + 1, upd rq nq a0, R, ln, bs, sy, en, wt, uc, pc, tl, O, ?_, ?_, ?_, ?_, ?_, ?_, ?_⟩
  · refine ⟨p1, p2, p3, by omega, fun i hi => ?_, by omega, p7, p8, p9⟩
    rw [upd_n _ _ (by omega)]
    exact p5 i (by omega)
  · obtain ⟨h1, h2, h3, h4, h5, h6⟩ := hc
    refine ⟨h1, h2, h3, rfl, fun i hi => ?_, h6⟩
    show upd (gA c 12) nq a0 i = _
    by_cases e : i = nq
    · rw [e, upd_s, upd_s]
    · rw [upd_n _ _ e, upd_n _ _ e]
      exact h5 i (by omega)
  · exact ht.kept rfl rfl (fun j j1 j2 => by simp only [gA_sF, gA_sA]; repeat rw [if_neg (by omega)])
  · exact ho.kp rfl rfl (fun j j1 => by simp only [gA_sF, gA_sA]; repeat rw [if_neg (by omega)])
  · obtain ⟨h1, h2, h3, h4, h5, h6⟩ := hm
    refine ⟨h1, h2, h3, rfl, fun i hi => ?_, h6⟩
    show upd (gA m 4) nq a0 i = _
    by_cases e : i = nq
    · rw [e, upd_s, upd_s]
    · rw [upd_n _ _ e, upd_n _ _ e]
      exact h5 i (by omega)
  · exact hh.kept (fun j j1 j2 => by simp only [gF_sF, gF_sA]; repeat rw [if_neg (by omega)]) (fun j j1 j2 => by simp only [gA_sF, gA_sA]; repeat rw [if_neg (by omega)])
  · exact hom.kept (fun j j1 => by simp only [gF_sF, gF_sA]; repeat rw [if_neg (by omega)]) (fun j j1 => by simp only [gA_sF, gA_sA]; repeat rw [if_neg (by omega)])
end
