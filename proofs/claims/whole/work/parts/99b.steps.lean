/-! call by call: begin, size, node, covers, clash, count -/
section
variable {n T N A nq R : Nat} {ct ar : Nat → Nat} {pk rq : Nat → Int32} {fa fp : Int32} {ln bs : Nat → Nat} {sy : Nat → Nat → Int32} {en wt uc pc : Nat → Nat → Nat} {tl : Nat → Nat → List Nat} {O : List Oc} {c c' m m' : St}
theorem SgM.con (h : SgM T N ct ar pk m) (hW : SgW T N ct ar pk) : ConM N ct ar m := ⟨hW.2.1, fun c hc => (hW.2.2 c hc).2.1, h.2.1, fun c hc => ⟨(h.2.2 c hc).1, (h.2.2 c hc).2.1⟩⟩
theorem lay_rel (hS : SgW T N ct ar pk) (hA : A ≤ 6) (hfa : (fa = -1 ∧ R = 0) ∨ fa = nI A) (hru : RuW N ct ar pk A fp R ln bs sy en wt uc pc tl) (hm : MB T N ct ar pk fa fp nq rq R ln sy en uc pc m) :
    ∃ m', F_X9_lay m = some (0, m') ∧ (∀ j, j < 7 ∨ 14 < j → gF m' j = gF m j) ∧ (∀ j, j < 16 ∨ 25 < j → gA m' j = gA m j) ∧ Hold m' (TT R A N ar sy en) ∧ gF m' 14 = bI (CC R A N ct ar sy en) ∧ (TT R A N ar sy en).length ≤ 559 ∧ mxN (TT R A N ar sy en) ≤ 184 := by
  obtain ⟨h1, h2, h3, h4, h5, h6, h7⟩ := hru
  obtain ⟨g1, g2, g3, g4, g5, g6⟩ := hm
  have hT := hS.1
  exact lay_eq (bs := bs) h1 (fun c hc => by have := (hS.2.2 c hc).1; omega) h2 (g6.ru h6) (g1.con hS) g6.1 (fun h0 => by
    rcases hfa with ⟨_, e⟩ | e
    · omega
    · rw [g2]; exact e) hA h6.2.1 (fun r hr => (h6.2.2.1 r hr).1) h6.2.2.2
theorem refresh_rel (hp : PD n T N ct ar pk fa fp A nq rq R ln bs sy en wt uc pc tl) (hc : CB T N ct ar pk fa fp nq rq R ln bs sy en uc pc c) (ht : CTr N ar R A bs sy en c) (ho : OutC O c) :
    ∃ c', F_X8_refreshTree c = some (0, c') ∧ CB T N ct ar pk fa fp nq rq R ln bs sy en uc pc c' ∧ gF c' 0 = 0 ∧ TreeC N ar R A bs sy en c' ∧ OutC O c' ∧ FrT c c' := by
  obtain ⟨p1, p2, p3, p4, p5, p6, ⟨h1, h2, h3, h4, h5, h6, h7⟩, p8, p9⟩ := hp
  obtain ⟨c', e1, e2, e3, e4⟩ := refresh_eq (uc := uc) (pc := pc) h1 p1.2.1 h6 h2 p8 hc.2.2.2.2.2.1 ht
  exact ⟨c', e1, hc.kept (fun j j1 => e4.1 j (by omega) (by omega) (by omega)) (fun j j1 => e4.2 j (by omega)) (fun j j1 => by rw [e4.2 j (by omega)]), e2, e3, ho.kp (e4.1 15 (by omega) (by omega) (by omega)) (e4.1 16 (by omega) (by omega) (by omega)) (fun j j1 => e4.2 j (by omega)), e4⟩
theorem isB_bI (b : Bool) : isB (bI b) = true := by cases b <;> rfl
theorem s_size (h : Rel n c m) : ∃ r c' m', F_X8_size c = some (r, c') ∧ F_X9_size m = some (r, m') ∧ Rel (n + 1) c' m' := by
  obtain ⟨T, N, ct, ar, pk, fa, fp, A, nq, rq, R, ln, bs, sy, en, wt, uc, pc, tl, O, hp, hc, ht, ho, hm, hh, hom⟩ := h
  obtain ⟨c', e1, e2, e3, e4, e5, -⟩ := refresh_rel hp hc ht ho
  unfold F_X8_size F_X9_size
  rw [e1, bo_s, e4.1.1, hh.1]
  exact ⟨_, _, _, rfl, rfl, T, N, ct, ar, pk, fa, fp, A, nq, rq, R, ln, bs, sy, en, wt, uc, pc, tl, O, hp.up, e2, Or.inr ⟨e3, e4⟩, e5, hm, hh, hom⟩
theorem s_node (a0 a1 : Int32) (h : Rel n c m) : ∃ r c' m', F_X8_node a0 a1 c = some (r, c') ∧ F_X9_node_ a0 a1 m = some (r, m') ∧ Rel (n + 1) c' m' := by
  obtain ⟨T, N, ct, ar, pk, fa, fp, A, nq, rq, R, ln, bs, sy, en, wt, uc, pc, tl, O, hp, hc, ht, ho, hm, hh, hom⟩ := h
  obtain ⟨c', e1, e2, e3, e4, e5, -⟩ := refresh_rel hp hc ht ho
  have hpu := hp.up
  obtain ⟨p1, p2, p3, p4, p5, p6, ⟨h1, h2, h3, h4, h5, h6, h7⟩, p8, p9⟩ := hp
  obtain ⟨v, v1, v2⟩ := node_both h6 e2.2.2.2.2.2.1 hm.2.2.2.2.2 h4 e4.1 hh p8 (TT_nodes h1 p1.2.1 h2) a0 a1
  unfold F_X8_node
  rw [e1, bo_s, v1, bo_s, v2]
  exact ⟨_, _, _, rfl, rfl, T, N, ct, ar, pk, fa, fp, A, nq, rq, R, ln, bs, sy, en, wt, uc, pc, tl, O, hpu, e2, Or.inr ⟨e3, e4⟩, e5, hm, hh, hom⟩
theorem s_clash (a0 a1 : Int32) (h : Rel n c m) : ∃ r c' m', F_X8_clash a0 a1 c = some (r, c') ∧ F_X9_clash a0 a1 m = some (r, m') ∧ Rel (n + 1) c' m' := by
  have hsame : Rel (n + 1) c m := h.up
  obtain ⟨T, N, ct, ar, pk, fa, fp, A, nq, rq, R, ln, bs, sy, en, wt, uc, pc, tl, O, hp, hc, ht, ho, hm, hh, hom⟩ := h
  obtain ⟨p1, p2, p3, p4, p5, p6, ⟨h1, h2, h3, h4, h5, h6, h7⟩, p8, p9⟩ := hp
  obtain ⟨v, v1, v2⟩ := clash_both h1 p1.2.1 h6 h5 hc.2.2.2.2.2.1 hm.2.2.2.2.2 a0 a1
  exact ⟨v, c, m, v1, v2, hsame⟩
theorem SgC.ctc (h : SgC T N ct ar pk c) (hW : SgW T N ct ar pk) : CtC N ct c := ⟨hW.2.1, h.2.1, fun i hi => ⟨(h.2.2 i hi).1, by have := (hW.2.2 i hi).1; have := hW.1; omega⟩⟩
theorem s_covers (h : Rel n c m) : ∃ r c' m', F_X8_covers c = some (r, c') ∧ F_X9_covers m = some (r, m') ∧ Rel (n + 1) c' m' := by
  obtain ⟨T, N, ct, ar, pk, fa, fp, A, nq, rq, R, ln, bs, sy, en, wt, uc, pc, tl, O, hp, hc, ht, ho, hm, hh, hom⟩ := h
  obtain ⟨c', e1, e2, e3, e4, e5, -⟩ := refresh_rel hp hc ht ho
  have hpu := hp.up
  obtain ⟨p1, p2, p3, p4, p5, p6, p7, p8, p9⟩ := hp
  obtain ⟨m', l1, l2, l3, l4, l5, -, -⟩ := lay_rel p1 p2 p3 p7 hm
  obtain ⟨h1, h2, h3, h4, h5, h6, h7⟩ := p7
  obtain ⟨c2, f1, f2, f3⟩ := coversC_eq h1 p1.2.1 h6 h2 p8 p9 e2.2.2.2.2.2.1 (e2.1.ctc p1) e4.1
  unfold F_X8_covers F_X9_covers
  rw [e1, bo_s, f1, bo_s, l1, bo_s, l5, ck_h (isB_bI _), ck_h (isB_bI _)]
  refine ⟨_, _, _, rfl, rfl, T, N, ct, ar, pk, fa, fp, A, nq, rq, R, ln, bs, sy, en, wt, uc, pc, tl, O, hpu, ?_, ?_, ?_, ?_, l4, ?_⟩
  · exact e2.kept (fun j _ => f2 j) (fun j j1 => f3 j (by omega)) (fun j j1 => by rw [f3 j (by omega)])
  · exact Or.inr ⟨by rw [f2]; exact e3, e4.kp (f2 9) (fun j j1 j2 => f3 j (by omega))⟩
  · exact e5.kp (f2 15) (f2 16) (fun j j1 => f3 j (by omega))
  · exact hm.kept (fun j j1 => l2 j (by omega)) (fun j j1 => l3 j (by omega))
  · exact hom.kept (fun j j1 => l2 j (by omega)) (fun j j1 => l3 j (by omega))
theorem nd_le {x : Nd} (h : NdW R ln x) : x.1 ≤ 2 := by
  rcases h with ⟨h, _⟩ | ⟨h, _⟩ | h <;> omega
theorem s_count (a0 : Int32) (h : Rel n c m) : ∃ r c' m', F_X8_count a0 c = some (r, c') ∧ F_X9_count a0 m = some (r, m') ∧ Rel (n + 1) c' m' := by
  obtain ⟨T, N, ct, ar, pk, fa, fp, A, nq, rq, R, ln, bs, sy, en, wt, uc, pc, tl, O, hp, hc, ht, ho, hm, hh, hom⟩ := h
  obtain ⟨c', e1, e2, e3, e4, e5, -⟩ := refresh_rel hp hc ht ho
  have hR : Rel (n + 1) c' m := ⟨T, N, ct, ar, pk, fa, fp, A, nq, rq, R, ln, bs, sy, en, wt, uc, pc, tl, O, hp.up, e2, Or.inr ⟨e3, e4⟩, e5, hm, hh, hom⟩
  obtain ⟨p1, p2, p3, p4, p5, p6, ⟨h1, h2, h3, h4, h5, h6, h7⟩, p8, p9⟩ := hp
  have hnd := TT_nodes h1 p1.2.1 h2
  have k2 : F_X6_howMany 2 c' = some (nI (cntN 2 (TT R A N ar sy en)), c') := many_loop e4.1 (by omega) (fun x hx => nd_le (hnd x hx)) (k := 2) (by omega) (TT R A N ar sy en).length 5000 0 (by omega) (by omega)
  have k1 : F_X6_howMany 1 c' = some (nI (cntN 1 (TT R A N ar sy en)), c') := many_loop e4.1 (by omega) (fun x hx => nd_le (hnd x hx)) (k := 1) (by omega) (TT R A N ar sy en).length 5000 0 (by omega) (by omega)
  have k3 : F_X6_deepest c' = some (nI (mxN (TT R A N ar sy en)), c') := deep_loop e4.1 (by omega) (by omega) (TT R A N ar sy en).length 5000 0 (by omega) (by omega)
  unfold F_X8_count F_X9_count
  rw [e1, bo_s, k2, k1, k3, bo_s, bo_s, bo_s, e2.1.1, e2.1.2.1, e2.2.1, e2.2.2.2.1, e2.2.2.2.2.2.1.1, e5.1, hm.1.1, hm.1.2.1, hm.2.1, hm.2.2.2.1, hm.2.2.2.2.2.1, hom.1, hh.2.1, hh.2.2.1, hh.2.2.2.1]
  by_cases b0 : a0 = 0
  · rw [if_pos b0, if_pos b0]; exact ⟨_, _, _, rfl, rfl, hR⟩
  rw [if_neg b0, if_neg b0]
  by_cases b1 : a0 = 1
  · rw [if_pos b1, if_pos b1]; exact ⟨_, _, _, rfl, rfl, hR⟩
  rw [if_neg b1, if_neg b1]
  by_cases b2 : a0 = 2
  · rw [if_pos b2, if_pos b2]; exact ⟨_, _, _, rfl, rfl, hR⟩
  rw [if_neg b2, if_neg b2]
  by_cases b3 : a0 = 3
  · rw [if_pos b3, if_pos b3]; exact ⟨_, _, _, rfl, rfl, hR⟩
  rw [if_neg b3, if_neg b3]
  by_cases b4 : a0 = 4
  · rw [if_pos b4, if_pos b4]; exact ⟨_, _, _, rfl, rfl, hR⟩
  rw [if_neg b4, if_neg b4]
  by_cases b5 : a0 = 5
  · rw [if_pos b5, if_pos b5]; exact ⟨_, _, _, rfl, rfl, hR⟩
  rw [if_neg b5, if_neg b5]
  by_cases b6 : a0 = 6
  · rw [if_pos b6, if_pos b6]; exact ⟨_, _, _, rfl, rfl, hR⟩
  rw [if_neg b6, if_neg b6]
  by_cases b7 : a0 = 7
  · rw [if_pos b7, if_pos b7]; exact ⟨_, _, _, rfl, rfl, hR⟩
  rw [if_neg b7, if_neg b7]
  by_cases b8 : a0 = 8
  · rw [if_pos b8, if_pos b8]; exact ⟨_, _, _, rfl, rfl, hR⟩
  rw [if_neg b8, if_neg b8]
  exact ⟨_, _, _, rfl, rfl, hR⟩
theorem s_begin (a0 a1 : Int32) (h : Rel n c m) : ∃ r c' m', F_X8_begin a0 a1 c = some (r, c') ∧ F_X9_begin a0 a1 m = some (r, m') ∧ Rel (n + 1) c' m' := by
  have hsame : Rel (n + 1) c m := h.up
  obtain ⟨T, N, ct, ar, pk, fa, fp, A, nq, rq, R, ln, bs, sy, en, wt, uc, pc, tl, O, hp, hc, ht, ho, hm, hh, hom⟩ := h
  obtain ⟨hT, hN, hw⟩ := hp.1
  unfold F_X8_begin F_X4_setFunction F_X9_begin
  by_cases b0 : a0 < 0
  · rw [if_pos b0, if_pos b0, ck_0, bo_s, if_pos rfl]
    exact ⟨_, _, _, rfl, rfl, hsame⟩
  rw [if_neg b0, if_neg b0]
  by_cases b1 : 6 < a0
  · rw [if_pos b1, if_pos b1, ck_0, bo_s, if_pos rfl]
    exact ⟨_, _, _, rfl, rfl, hsame⟩
  rw [if_neg b1, if_neg b1]
  obtain ⟨a, ha, rfl⟩ := nI_of b0
  have ha6 : a ≤ 6 := by
    rcases Nat.lt_or_ge 6 a with h4 | h4
    · exact absurd (show (6 : Int32) < nI a from nI_lt (a := 6) h4 ha) b1
    · exact h4
  rw [areC a1 hT ha6 hc.1.1, areM a1 hT ha6 hm.1.1, bo_s, bo_s]
  by_cases b4n : ¬ allTy T a1 a = true
  · rw [if_neg b4n, if_pos rfl, if_pos rfl, ck_0, bo_s, if_pos rfl]
    exact ⟨_, _, _, rfl, rfl, hsame⟩
  have b4 : allTy T a1 a = true := Classical.not_not.mp b4n
  rw [if_pos b4, if_neg (show ¬ (1 : Int32) = 0 by decide), if_neg (show ¬ (1 : Int32) = 0 by decide)]
  simp only [bd_r, ck_1, bo_s]
  rw [if_neg (show ¬ (1 : Int32) = 0 by decide), F_X3_clear, bd_r, bo_s, F_X0_clear, bd_r, bo_s]
  obtain ⟨p1, p2, p3, p4, p5, p6, p7, p8, p9⟩ := hp.up
  obtain ⟨h1, h2, h3, h4, h5, h6, h7⟩ := p7
  have hru : RuW N ct ar pk a a1 0 (fun _ => 0) (fun _ => 0) (fun _ _ => -1) (fun _ _ => 0) (fun _ _ => 0) (fun _ _ => 0) (fun _ _ => 0) (fun _ _ => []) := ⟨fun r hr => by omega, fun r hr => by omega, fun r hr => by omega, fun r hr => by omega, fun r hr => by omega, ⟨by omega, rfl, fun r hr => by omega, Nat.zero_le _⟩, fun _ _ => Or.inl rfl⟩
  obtain ⟨m1, hm1⟩ : ∃ m1, sF (sF (sF (sF m 2 (nI a)) 3 a1) 4 0) 19 0 = m1 := ⟨_, rfl⟩
  rw [hm1]
  have hm1' : MB T N ct ar pk (nI a) a1 nq rq 0 (fun _ => 0) (fun _ _ => -1) (fun _ _ => 0) (fun _ _ => 0) (fun _ _ => 0) m1 := by
    rw [← hm1]
    obtain ⟨q1, q2, q3, q4, q5, q6⟩ := hm
    exact ⟨q1, rfl, rfl, q4, q5, rfl, fun r hr => by omega⟩
  have h19 : gF m1 19 = 0 := by rw [← hm1]; rfl
  obtain ⟨m', l1, l2, l3, l4, l5, l6, l7⟩ := lay_rel hp.1 ha6 (Or.inr rfl) hru hm1'
  rw [l1, bo_s]
  refine ⟨_, _, _, rfl, rfl, T, N, ct, ar, pk, nI a, a1, a, nq, rq, 0, fun _ => 0, fun _ => 0, fun _ _ => -1, fun _ _ => 0, fun _ _ => 0, fun _ _ => 0, fun _ _ => 0, fun _ _ => [], [], ?_, ?_, ?_, ?_, ?_, l4, ?_⟩
  · exact ⟨p1, ha6, Or.inr rfl, p4, p5, by show 0 + nq ≤ n + 1; omega, hru, l6, l7⟩
  · obtain ⟨q1, q2, q3, q4, q5, q6, q7⟩ := hc
    refine ⟨q1, rfl, rfl, q4, q5, ⟨rfl, fun r hr => ?_, fun r hr => by omega⟩, q7⟩
    have hr0 : r = 0 := by omega
    rw [hr0]
    show gA c 17 0 = nI 0
    rw [q6.2.1 0 (by omega), h6.2.1]
  · exact Or.inl rfl
  · exact ho.none rfl rfl
  · exact hm1'.kept (fun j j1 => l2 j (by omega)) (fun j j1 => l3 j (by omega))
  · exact OM.none (by rw [l2 19 (by omega)]; exact h19)
end
