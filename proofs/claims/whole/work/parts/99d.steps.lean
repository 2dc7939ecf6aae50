/-! call by call: rule, lead -/
section
variable {n T N A nq R : Nat} {ct ar : Nat → Nat} {pk rq : Nat → Int32} {fa fp : Int32} {ln bs : Nat → Nat} {sy : Nat → Nat → Int32} {en wt uc pc : Nat → Nat → Nat} {tl : Nat → Nat → List Nat} {O : List Oc} {c c' m m' : St}
def noR : Nat → Int32 := fun _ => -1
theorem PD.take (h : PD n T N ct ar pk fa fp A nq rq R ln bs sy en wt uc pc tl) : PD (n + 1) T N ct ar pk fa fp A 0 noR R ln bs sy en wt uc pc tl := by
  obtain ⟨h1, h2, h3, h4, h5, h6, h7⟩ := h
  exact ⟨h1, h2, h3, by omega, fun _ _ => rfl, by omega, h7⟩
theorem CB.take (h : CB T N ct ar pk fa fp nq rq R ln bs sy en uc pc c) : CB T N ct ar pk fa fp 0 noR R ln bs sy en uc pc (sF c 5 0) := by
  obtain ⟨h1, h2, h3, h4, h5, h6, h7⟩ := h
  exact ⟨h1, h2, h3, rfl, fun i hi => by omega, h6, h7⟩
theorem MB.take (h : MB T N ct ar pk fa fp nq rq R ln sy en uc pc m) (e5 : gF m' 5 = 0) (e : ∀ j, j ≤ 4 → gF m' j = gF m j) (a : ∀ j, j ≤ 9 → gA m' j = gA m j) : MB T N ct ar pk fa fp 0 noR R ln sy en uc pc m' := by
  obtain ⟨h1, h2, h3, h4, h5, h6⟩ := h
  exact ⟨h1.kept (e 0 (by omega)) (e 1 (by omega)) (a 1 (by omega)) (a 2 (by omega)) (a 3 (by omega)), by rw [e 2 (by omega)]; exact h2, by rw [e 3 (by omega)]; exact h3, e5, fun i hi => by omega, h6.kp (e 4 (by omega)) (fun j j1 j2 => a j (by omega))⟩
theorem s_rule (hn : n < 512) (h : Rel n c m) : ∃ r c' m', F_X8_rule c = some (r, c') ∧ F_X9_rule m = some (r, m') ∧ Rel (n + 1) c' m' := by
  obtain ⟨T, N, ct, ar, pk, fa, fp, A, nq, rq, R, ln, bs, sy, en, wt, uc, pc, tl, O, hp, hc, ht, ho, hm, hh, hom⟩ := h
  have hpt := hp.take
  have hsm : Rel (n + 1) (sF c 5 0) (sF m 5 0) := ⟨T, N, ct, ar, pk, fa, fp, A, 0, noR, R, ln, bs, sy, en, wt, uc, pc, tl, O, hpt, hc.take, ht.kept rfl rfl (fun _ _ _ => rfl), ho.kp rfl rfl (fun _ _ => rfl), hm.take rfl (fun j j1 => by rw [gF_sF, if_neg (by omega)]) (fun _ _ => rfl), hh.kept (fun j j1 j2 => by rw [gF_sF, if_neg (by omega)]) (fun _ _ _ => rfl), hom.kept (fun j j1 => by rw [gF_sF, if_neg (by omega)]) (fun _ _ => rfl)⟩
  obtain ⟨p1, p2, p3, p4, p5, p6, p7, p8, p9⟩ := hp
  obtain ⟨h1, h2, h3, h4, h5, h6, h7⟩ := id p7
  unfold F_X8_rule F_X2_take F_X4_hasFunction F_X9_rule
  rw [bd_r, bd_r, bo_s, show gF (sF c 5 0) 3 = fa from hc.2.1, hm.2.1, hc.2.2.2.1, hm.2.2.2.2.2.1]
  by_cases b0 : fa = -1
  · rw [if_pos b0, if_pos b0, ck_0, bo_s, if_pos rfl, F_X9_rule_17, bd_r]
    exact ⟨_, _, _, rfl, rfl, hsm⟩
  have hfa : fa = nI A := by
    rcases p3 with ⟨e, _⟩ | e
    · exact absurd e b0
    · exact e
  rw [if_neg b0, if_neg b0, ck_1, bo_s, if_neg (show ¬ (1 : Int32) = 0 by decide), F_X3_hasRoom, show gF (sF c 5 0) 8 = nI R from hc.2.2.2.2.2.1.1]
  have hR24 := h6.1
  by_cases b1 : R = 24
  · rw [if_pos (show (24 : Int32) ≤ nI R by rw [b1]; decide), if_pos (show nI R = 24 by rw [b1]; rfl), ck_0, bo_s, if_pos rfl, F_X9_rule_17, bd_r]
    exact ⟨_, _, _, rfl, rfl, hsm⟩
  rw [if_neg (show ¬ (24 : Int32) ≤ nI R from nI_ge (b := 24) (by omega) (by omega)), if_neg (show ¬ nI R = 24 from fun z => b1 (nI_inj (b := 24) (by omega) (by omega) z))]
  have hst : F_X3_start (nI R) (sF c 5 0) = some (nI (bs R), sF c 5 0) := by
    unfold F_X3_start
    rw [rd_in _ (show R < 25 by omega) (by omega), bd_r]
    show some (gA c 17 R, sF c 5 0) = _
    rw [hc.2.2.2.2.2.1.2.1 R (Nat.le_refl R)]
  rw [hst, bo_s, nI_add, if_neg (show ¬ (512 : Int32) < nI (bs R + nq) from nI_nlt (b := bs R + nq) (a := 512) (by omega) (by omega)), ck_1, bo_s, if_neg (show ¬ (1 : Int32) = 0 by decide)]
  have hrc : RdC N ct ar pk A fp nq rq (sF c 5 0) := hc.rd p1 p2 hfa p4
  obtain ⟨c2, e1, e2, e3, e4⟩ := firstWrong_eq false hrc
  obtain ⟨m2, w1, w2, w3, w4⟩ := wrong_eq false (hm.rd p1 p2 hfa p4)
  have e1' : F_X2_firstWrong (nI nq) 0 (sF c 5 0) = _ := e1
  have w1' : F_X9_wrong 0 m = _ := w1
  rw [e1', w1', bo_s, bo_s]
  have hcb : CB T N ct ar pk fa fp 0 noR R ln bs sy en uc pc c2 := hc.take.kept (fun j j1 => e2 j (by omega) (by omega)) (fun j j1 => e3 j (by omega)) (fun j j1 => by rw [e3 j (by omega)])
  cases hw : wrA N ct ar pk A fp false rq nq 0 with
  | some w =>
    have hwl : w < 2 ^ 31 := by
      have := wrA_le nq 0 w hw
      omega
    show ∃ r c' m', (if nI w = -1 then _ else some (-2 - nI w, c2)) = some (r, c') ∧ (if nI w < 0 then _ else _) = some (r, m') ∧ _
    rw [if_neg (nI_ne_m1 hwl), if_neg (nI_pos hwl), bd_r]
    refine ⟨_, _, _, rfl, rfl, T, N, ct, ar, pk, fa, fp, A, 0, noR, R, ln, bs, sy, en, wt, uc, pc, tl, O, hpt, hcb, ?_, ?_, ?_, ?_, ?_⟩
    · exact ht.kept (e2 0 (by omega) (by omega)) (e2 9 (by omega) (by omega)) (fun j j1 j2 => by rw [e3 j (by omega)]; rfl)
    · exact ho.kp (e2 15 (by omega) (by omega)) (e2 16 (by omega) (by omega)) (fun j j1 => by rw [e3 j (by omega)]; rfl)
    · exact hm.take rfl (fun j j1 => by rw [gF_sF, if_neg (by omega), w2 j (by omega)]) (fun j j1 => by rw [gA_sF, w3 j (by omega)])
    · exact hh.kept (fun j j1 j2 => by rw [gF_sF, if_neg (by omega), w2 j (by omega)]) (fun j j1 j2 => by rw [gA_sF, w3 j (by omega)])
    · exact hom.kept (fun j j1 => by rw [gF_sF, if_neg (by omega), w2 j (by omega)]) (fun j j1 => by rw [gA_sF, w3 j (by omega)])
  | none =>
    rw [hw] at e4 w4
    have e4 := e4 rfl
    have w4 := w4 rfl
    show ∃ r c' m', (if (-1 : Int32) = -1 then _ else _) = some (r, c') ∧ (if (-1 : Int32) < 0 then _ else _) = some (r, m') ∧ _
    rw [if_pos rfl, if_pos (by decide), bd_r]
    obtain ⟨c3, a1, a2, a3, a4⟩ := addR_eq (n := nq) (rw := rq) (uc1 := uS ar A rq) (pc1 := pS ar A rq) (en1 := enS ar A rq) h6 (show R < 24 by omega) p4 (by omega) hcb.2.2.2.2.2.1 (row_uc hw) (fun q hq => ⟨by rw [e3 12 (by omega)]; exact hc.2.2.2.2.1 q hq, (e4 q hq).1, (e4 q hq).2.1, (e4 q hq).2.2⟩)
    rw [a1, bo_s, ck_1, bd_r, F_X0_clear, bd_r, bo_s]
    obtain ⟨m3, r1, r2, r3, r4, r5, r6⟩ := ruleM_kept (ln := ln) (sy := sy) (en := en) (uc := uc) (pc := pc) (m := m2) (show R < 24 by omega) (fun r hr => (h6.2.2.1 r hr).2) ((hm.rd p1 p2 hfa p4).kept (fun j j1 => w2 j (by omega)) (fun j j1 => w3 j (by omega))) (hm.2.2.2.2.2.kp (w2 4 (by omega)) (fun j j1 j2 => w3 j (by omega))) hw w4
    rw [r1]
    have hru := p7.snoc (rw := rq) (show R < 24 by omega) p4 p1.2.1 (by omega) hw p5
    have hm3 : MB T N ct ar pk fa fp 0 noR (R + 1) (snocF R ln nq) (snocF R sy rq) (snocF R en (enS ar A rq)) (snocF R uc (uS ar A rq)) (snocF R pc (pS ar A rq)) m3 := by
      obtain ⟨q1, q2, q3, q4, q5, q6⟩ := hm
      refine ⟨q1.kept ?_ ?_ ?_ ?_ ?_, ?_, ?_, r4, fun i hi => by omega, r2⟩
      · rw [r3 0 (by omega) (by omega) (by omega), w2 0 (by omega)]
      · rw [r3 1 (by omega) (by omega) (by omega), w2 1 (by omega)]
      · rw [r6 1 (by omega), w3 1 (by omega)]
      · rw [r6 2 (by omega), w3 2 (by omega)]
      · rw [r6 3 (by omega), w3 3 (by omega)]
      · rw [r3 2 (by omega) (by omega) (by omega), w2 2 (by omega)]; exact q2
      · rw [r3 3 (by omega) (by omega) (by omega), w2 3 (by omega)]; exact q3
    obtain ⟨m4, l1, l2, l3, l4, l5, l6, l7⟩ := lay_rel p1 p2 (Or.inr hfa) hru hm3
    rw [l1, bo_s, l2 4 (by omega), hm3.2.2.2.2.2.1, sub1]
    refine ⟨_, _, _, rfl, rfl, T, N, ct, ar, pk, fa, fp, A, 0, noR, R + 1, _, _, _, _, _, _, _, _, [], ⟨p1, p2, Or.inr hfa, by omega, fun _ _ => rfl, ?_, hru, l6, l7⟩, ?_, Or.inl rfl, ?_, ?_, l4, ?_⟩
    · rw [snocF_s]; omega
    · obtain ⟨q1, q2, q3, q4, q5, q6, q7, q8, q9⟩ := hcb
      refine ⟨q1.kept ?_ ?_ ?_ ?_ ?_, ?_, ?_, ?_, fun i hi => by omega, a2.kp rfl (fun _ _ _ => rfl), ?_, ?_, ?_⟩
      · exact a3 1 (by omega)
      · exact a3 2 (by omega)
      · exact a4 9 (by omega)
      · exact a4 10 (by omega)
      · exact a4 11 (by omega)
      · exact (a3 3 (by omega)).trans q2
      · exact (a3 4 (by omega)).trans q3
      · exact (a3 5 (by omega)).trans q4
      · show gA c3 44 0 = 0
        rw [a4 44 (by omega)]; exact q7
      · show gA c3 46 0 = 0
        rw [a4 46 (by omega)]; exact q8
      · show gA c3 47 0 = 0
        rw [a4 47 (by omega)]; exact q9
    · exact ho.none rfl ((a3 16 (by omega)).trans (e2 16 (by omega) (by omega)))
    · exact hm3.kept (fun j j1 => l2 j (by omega)) (fun j j1 => l3 j (by omega))
    · exact OM.none (by rw [l2 19 (by omega)]; exact r5)
end
