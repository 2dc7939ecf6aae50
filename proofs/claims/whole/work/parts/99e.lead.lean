/-! lead; and all calls together -/
section
variable {n T N A nq R : Nat} {ct ar : Nat → Nat} {pk rq : Nat → Int32} {fa fp : Int32} {ln bs : Nat → Nat} {sy : Nat → Nat → Int32} {en wt uc pc : Nat → Nat → Nat} {tl : Nat → Nat → List Nat} {O : List Oc} {c c' m m' : St}
theorem OM.no (h : OM R A N ar sy en fa O m) (hA : A ≤ 6) (hf : fa = -1) : O = [] := by
  rcases h.2 with h | ⟨k, rw', te, κ, kb, k0, -⟩
  · exact h
  · rw [hf] at k0
    exact absurd k0.symm (nI_ne_m1 (by omega))
theorem s_lead (h : Rel n c m) : ∃ r c' m', F_X8_lead c = some (r, c') ∧ F_X9_lead m = some (r, m') ∧ Rel (n + 1) c' m' := by
  obtain ⟨T, N, ct, ar, pk, fa, fp, A, nq, rq, R, ln, bs, sy, en, wt, uc, pc, tl, O, hp, hc, ht, ho, hm, hh, hom⟩ := h
  have hpt := hp.take
  obtain ⟨p1, p2, p3, p4, p5, p6, p7, p8, p9⟩ := hp
  obtain ⟨h1, h2, h3, h4, h5, h6, h7⟩ := id p7
  unfold F_X8_lead F_X2_take F_X4_hasFunction F_X9_lead
  rw [bd_r, bd_r, bo_s, show gF (sF c 5 0) 3 = fa from hc.2.1, hc.2.2.2.1, bd_r, bd_r]
  obtain ⟨m1, hm1⟩ : ∃ m1, sF (sF m 19 0) 21 (-1) = m1 := ⟨_, rfl⟩
  have f1 : ∀ j, j ≠ 19 → j ≠ 21 → gF m1 j = gF m j := fun j j1 j2 => by rw [← hm1, gF_sF, if_neg j2, gF_sF, if_neg j1]
  have a1 : ∀ j, gA m1 j = gA m j := fun j => by rw [← hm1]; rfl
  have g19 : gF m1 19 = 0 := by rw [← hm1]; rfl
  rw [hm1, f1 2 (by omega) (by omega), hm.2.1]
  by_cases b0 : fa = -1
  · have hO := hom.no p2 b0
    rw [hO] at ho
    rw [if_pos b0, if_pos b0, ck_0, bo_s, if_pos rfl, F_X9_lead_27, f1 2 (by omega) (by omega), hm.2.1, if_pos b0, F_X9_lead_40, bd_r, gF_sF, if_neg (show ¬ (2 : Nat) = 5 by omega), f1 2 (by omega) (by omega), hm.2.1, if_pos b0]
    refine ⟨_, _, _, rfl, rfl, T, N, ct, ar, pk, fa, fp, A, 0, noR, R, ln, bs, sy, en, wt, uc, pc, tl, [], hpt, hc.take, ht.kept rfl rfl (fun _ _ _ => rfl), ho.kp rfl rfl (fun _ _ => rfl), ?_, ?_, ?_⟩
    · exact hm.take rfl (fun j j1 => by rw [gF_sF, if_neg (by omega), f1 j (by omega) (by omega)]) (fun j j1 => by rw [gA_sF, a1])
    · exact hh.kept (fun j j1 j2 => by rw [gF_sF, if_neg (by omega), f1 j (by omega) (by omega)]) (fun j j1 j2 => by rw [gA_sF, a1])
    · exact OM.none g19
  have hfa : fa = nI A := by
    rcases p3 with ⟨e, _⟩ | e
    · exact absurd e b0
    · exact e
  rw [if_neg b0, if_neg b0, ck_1, bo_s, if_neg (show ¬ (1 : Int32) = 0 by decide), F_X0_clear, bd_r, bo_s]
  obtain ⟨c2, hc2⟩ : ∃ c2, sF (sF c 5 0) 15 0 = c2 := ⟨_, rfl⟩
  rw [hc2]
  have o2 : OutC [] c2 := by rw [← hc2]; exact ho.none rfl rfl
  have t2 : CTr N ar R A bs sy en c2 := by rw [← hc2]; exact ht.kept rfl rfl (fun _ _ _ => rfl)
  have hcb : CB T N ct ar pk fa fp 0 noR R ln bs sy en uc pc c2 := by rw [← hc2]; exact hc.take.kept (fun j j1 => by rw [gF_sF, if_neg (by omega)]) (fun _ _ => rfl) (fun _ _ => rfl)
  have hrc : RdC N ct ar pk A fp nq rq c2 := by rw [← hc2]; exact hc.rd p1 p2 hfa p4
  have hm1b : MB T N ct ar pk fa fp nq rq R ln sy en uc pc m1 := hm.kept (fun j j1 => f1 j (by omega) (by omega)) (fun j _ => a1 j)
  obtain ⟨c3, e1, e2, e3, e4⟩ := firstWrong_eq true hrc
  obtain ⟨m2, w1, w2, w3, w4⟩ := wrong_eq true (hm1b.rd p1 p2 hfa p4)
  have e1' : F_X2_firstWrong (nI nq) 1 c2 = _ := e1
  have w1' : F_X9_wrong 1 m1 = _ := w1
  rw [e1', w1', bo_s, bo_s]
  have hcb3 : CB T N ct ar pk fa fp 0 noR R ln bs sy en uc pc c3 := hcb.kept (fun j j1 => e2 j (by omega) (by omega)) (fun j j1 => e3 j (by omega)) (fun j j1 => by rw [e3 j (by omega)])
  have t3 : CTr N ar R A bs sy en c3 := t2.kept (e2 0 (by omega) (by omega)) (e2 9 (by omega) (by omega)) (fun j j1 j2 => e3 j (by omega))
  have o3 : OutC [] c3 := o2.kp (e2 15 (by omega) (by omega)) (e2 16 (by omega) (by omega)) (fun j j1 => e3 j (by omega))
  have g2 : gF m2 2 = fa := by rw [w2 2 (by omega)]; exact hm1b.2.1
  rw [F_X9_lead_27, g2, if_neg b0]
  cases hw : wrA N ct ar pk A fp true rq nq 0 with
  | some w =>
    have hwl : w < 2 ^ 31 := by
      have := wrA_le nq 0 w hw
      omega
    show ∃ r c' m', (if nI w = -1 then _ else some (-2 - nI w, c3)) = some (r, c') ∧ (if nI w < 0 then _ else F_X9_lead_40 (nI w) m2) = some (r, m') ∧ _
    rw [if_neg (nI_ne_m1 hwl), if_neg (nI_pos hwl), F_X9_lead_40, bd_r, gF_sF, if_neg (show ¬ (2 : Nat) = 5 by omega), g2, if_neg b0]
    refine ⟨_, _, _, rfl, rfl, T, N, ct, ar, pk, fa, fp, A, 0, noR, R, ln, bs, sy, en, wt, uc, pc, tl, [], hpt, hcb3, t3, o3, ?_, ?_, ?_⟩
    · exact hm1b.take rfl (fun j j1 => by rw [gF_sF, if_neg (by omega), w2 j (by omega)]) (fun j j1 => by rw [gA_sF, w3 j (by omega)])
    · exact hh.kept (fun j j1 j2 => by rw [gF_sF, if_neg (by omega), w2 j (by omega), f1 j (by omega) (by omega)]) (fun j j1 j2 => by rw [gA_sF, w3 j (by omega), a1])
    · exact OM.none (by rw [gF_sF, if_neg (by omega), w2 19 (by omega)]; exact g19)
  | none =>
    rw [hw] at e4
    have e4 := e4 rfl
    have hTm := row_Tm p4 p1.2.1 hw
    have hTK := row_TK p4 p1.2.1 hw
    show ∃ r c' m', (if (-1 : Int32) = -1 then _ else _) = some (r, c') ∧ (if (-1 : Int32) < 0 then _ else _) = some (r, m') ∧ _
    rw [if_pos rfl, if_pos (show (-1 : Int32) < 0 by decide)]
    -- the program
    obtain ⟨c4, l1, l2, l3, l4⟩ := load_eq (ar := ar) (en := enS ar A rq) hTm.1 (c := c3) (fun p hp' => ⟨by rw [e3 12 (by omega), ← hc2]; exact hc.2.2.2.2.1 p hp', (e4 p hp').2.2⟩)
    have hcb4 : CB T N ct ar pk fa fp 0 noR R ln bs sy en uc pc c4 := hcb3.kept (fun j j1 => l3 j (by omega)) (fun j j1 => l4 j (by omega)) (fun j j1 => by rw [l4 j (by omega)])
    obtain ⟨c5, r1, r2, r3, r4, r5, r6⟩ := refresh_rel hpt hcb4 (t3.kept (l3 0 (by omega)) (l3 9 (by omega)) (fun j j1 j2 => l4 j (by omega))) (o3.kp (l3 15 (by omega)) (l3 16 (by omega)) (fun j j1 => l4 j (by omega)))
    have hC5 : CT nq rq (enS ar A rq) ar [] c5 := l2.kept (fun j j1 j2 => r6.1 j (by omega) (by omega) (by omega)) (fun j j1 => r6.2 j (by omega))
    have hPa : PaC N ar A c5 := ⟨p1.2.1, fun i hi => ⟨(p1.2.2 i hi).2.1, (r2.1.2.2 i hi).2.1⟩, by rw [r2.2.1]; exact hfa⟩
    obtain ⟨s1, s2, s3⟩ := reaches_eq h1 hTm p1.2.1 p2 h6 h3 h2 p8 p9 r4 r2.2.2.2.2.2.1 hPa hC5 r5 r2.2.2.2.2.2.2.1 r2.2.2.2.2.2.2.2.1 r2.2.2.2.2.2.2.2.2
    rw [l1, bo_s, r1, bo_s]
    -- the reference
    obtain ⟨m3, d1, d2, d3, d4, d5, d6, d7, d8⟩ := read_eq p4 p1.2.1 p2 hw (fun i hi => (p1.2.2 i hi).2.1) (m := m2) (by rw [g2]; exact hfa) (by rw [w2 5 (by omega)]; exact hm1b.2.2.2.1) (fun i hi => by rw [w3 4 (by omega)]; exact hm1b.2.2.2.2.1 i hi) (fun i hi => by rw [w3 2 (by omega)]; exact (hm1b.1.2.2 i hi).2.1)
    have hRT := row_RT d2 d3 d4 d5
    have hm3 : MB T N ct ar pk fa fp 0 noR R ln sy en uc pc m3 := hm1b.take d6 (fun j j1 => by rw [d7 j (by omega) (by omega) (by omega) (by omega), w2 j (by omega)]) (fun j j1 => by rw [d8 j (by omega) (by omega) (by omega) (by omega), w3 j (by omega)])
    have hh3 : Hold m3 (TT R A N ar sy en) := hh.kept (fun j j1 j2 => by rw [d7 j (by omega) (by omega) (by omega) (by omega), w2 j (by omega), f1 j (by omega) (by omega)]) (fun j j1 j2 => by rw [d8 j (by omega) (by omega) (by omega) (by omega), w3 j (by omega), a1])
    obtain ⟨m4, y1, y2, y3, y4, y5, y6, y7, y8⟩ := go_eq (bs := bs) h1 hTm hTK p2 h2 h6 (hm3.2.2.2.2.2.ru h6) (hm3.1.con p1) hm3.2.2.2.2.2.1 (by rw [hm3.2.1]; exact hfa) hRT (-1)
    have hm4 : MB T N ct ar pk fa fp 0 noR R ln sy en uc pc m4 := hm3.kept (fun j j1 => y7 j (by omega)) (fun j j1 => y8 j (by omega))
    have hh4 : Hold m4 (TT R A N ar sy en) := hh3.kept (fun j j1 j2 => y7 j (by omega)) (fun j j1 j2 => y8 j (by omega))
    rw [d1, bo_s, y1, bo_s, y3]
    have hle : nI (LdT R A N nq ar rq (enS ar A rq) sy en).length ≤ (200 : Int32) := nI_le (b := 200) (by omega) (by omega)
    by_cases hs : ∀ o, o ∈ LdT R A N nq ar rq (enS ar A rq) sy en → shO nq rq ar o
    · obtain ⟨c6, u1, u2, u3, u4⟩ := s1 hs
      have y26 := (y5 rfl).1 hs
      rw [u1, bo_s, if_neg (show ¬ (1 : Int32) = 0 by decide), u2.1, y26, if_pos rfl, if_pos hle, F_X9_lead_97, bd_r, gF_sF, if_neg (show ¬ (26 : Nat) = 19 by omega), gF_sF, if_neg (show ¬ (20 : Nat) = 19 by omega), y26, if_pos rfl, y3, if_pos hle, List.length_map]
      refine ⟨_, _, _, rfl, rfl, T, N, ct, ar, pk, fa, fp, A, 0, noR, R, ln, bs, sy, en, wt, uc, pc, tl, _, hpt, ?_, ?_, u2, ?_, ?_, ?_⟩
      · exact r2.kept (fun j j1 => u3.1 j (by omega)) (fun j j1 => u3.2 j (by omega)) (fun j j1 => u4 j 0 (by omega) (by omega) (by omega))
      · exact Or.inr ⟨by rw [u3.1 0 (by omega)]; exact r3, r4.kp (u3.1 9 (by omega)) (fun j j1 j2 => u3.2 j (by omega))⟩
      · exact hm4.kept (fun j j1 => by rw [gF_sF, if_neg (by omega)]) (fun _ _ => rfl)
      · exact hh4.kept (fun j j1 j2 => by rw [gF_sF, if_neg (by omega)]) (fun _ _ _ => rfl)
      · refine ⟨by rw [List.length_map]; rfl, Or.inr ⟨nq, rq, enS ar A rq, _, _, hfa, hTm, hTK, RT.kept BW.nil hTK y2 rfl rfl (fun _ _ => rfl) (fun _ _ => rfl) (fun _ _ => rfl), rfl, by rw [List.length_map]; exact s3, hs, Or.inl y4⟩⟩
    · obtain ⟨c6, u1, u3, u4, u5⟩ := s2 hs
      have y26 := (y5 rfl).2 hs
      rw [u1, bo_s, if_pos rfl, F_X0_clear, bd_r, bo_s, y26, if_neg (show ¬ (1 : Int32) = 0 by decide), F_X9_lead_89, F_X9_lead_97, bd_r, gF_sF, if_neg (show ¬ (26 : Nat) = 19 by omega), y26, if_neg (show ¬ (1 : Int32) = 0 by decide), F_X9_lead_117]
      refine ⟨_, _, _, rfl, rfl, T, N, ct, ar, pk, fa, fp, A, 0, noR, R, ln, bs, sy, en, wt, uc, pc, tl, [], hpt, ?_, ?_, ?_, ?_, ?_, ?_⟩
      · exact r2.kept (fun j j1 => by rw [gF_sF, if_neg (by omega)]; exact u3.1 j (by omega)) (fun j j1 => u3.2 j (by omega)) (fun j j1 => u4 j 0 (by omega) (by omega) (by omega))
      · exact Or.inr ⟨(u3.1 0 (by omega)).trans r3, r4.kp (u3.1 9 (by omega)) (fun j j1 j2 => u3.2 j (by omega))⟩
      · exact ⟨rfl, u5, fun h => absurd rfl h, fun i o ho => by simp at ho⟩
      · exact hm4.kept (fun j j1 => by rw [gF_sF, if_neg (by omega)]) (fun _ _ => rfl)
      · exact hh4.kept (fun j j1 j2 => by rw [gF_sF, if_neg (by omega)]) (fun _ _ _ => rfl)
      · exact OM.none rfl
/-- call by call, the answers are the same -/
theorem sim : Sim Rel :=
  ⟨rel_start, fun _ _ _ _ h => h.up, fun _ _ _ _ h => s_type h, fun _ _ _ a0 a1 a2 _ h => s_con a0 a1 a2 h, fun _ _ _ a0 a1 _ h => s_begin a0 a1 h, fun _ _ _ a0 _ h => s_put a0 h, fun _ _ _ hn h => s_rule hn h, fun _ _ _ _ h => s_lead h, fun _ _ _ a0 a1 _ h => s_outcome a0 a1 h, fun _ _ _ _ h => s_size h, fun _ _ _ a0 a1 _ h => s_node a0 a1 h, fun _ _ _ _ h => s_covers h, fun _ _ _ a0 a1 _ h => s_clash a0 a1 h, fun _ _ _ a0 _ h => s_count a0 h⟩
end
