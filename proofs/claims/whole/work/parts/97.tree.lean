/-! the class's tree as a whole -/
theorem mk_range : ∀ R, R ≤ 24 → 0 < R → (1 <<< (nI R &&& 31)) - 1 = mk (List.range R) := by
  intro R h1 h2
  have : ∀ R, R < 25 → 0 < R → (1 <<< (nI R &&& 31)) - 1 = mk (List.range R) := by decide +kernel
  exact this R (by omega) h2
section
variable {N : Nat} {ct ar : Nat → Nat} {pk : Nat → Int32} {R A : Nat} {fp : Int32} {ln bs : Nat → Nat} {sy : Nat → Nat → Int32} {en wt uc pc : Nat → Nat → Nat}
/-- the class's tree is the one of its rules -/
def TreeC (N : Nat) (ar : Nat → Nat) (R A : Nat) (bs : Nat → Nat) (sy : Nat → Nat → Int32) (en : Nat → Nat → Nat) (c : St) : Prop :=
  HoldC bs (TT R A N ar sy en) c ∧ Mrk N ar sy en bs (gA c 22) 300 (List.range R) (op0 en A) A 0
theorem range_GS (hR : R ≤ 24) : GS R (List.range R) := ⟨hR, List.pairwise_lt_range, fun _ hr => List.mem_range.mp hr⟩
theorem top_GTk (hW : ∀ r, r < R → PW N ct ar pk (ln r) (sy r) (en r) (wt r)) (hT : TopW R A fp ln en wt) {f : Nat → Int32} (hB : BsW R ln bs) (hf : ∀ x, x < 512 → f x = -1) : GTk R ln bs en f (List.range R) (op0 en A) := by
  refine ⟨List.replicate A false, fun r hr => ?_⟩
  have hr := List.mem_range.mp hr
  obtain ⟨t1, t2⟩ := hT r hr
  have ha : ∀ x, x < ln r → asked f (bs r) x = false := by
    intro x hx
    have := hB.lt hr hx
    have := hB.2.2.2
    unfold asked
    rw [hf _ (by omega)]
    rfl
  refine ⟨kdT (chl (en r) 0 A), ⟨?_, opn_kd _, fun q hq x hx1 hx2 => ?_⟩, ?_⟩
  · rw [chl_range']
    have := Ws_kd (a := asked f (bs r)) (e := en r) (n := ln r) (q := 0) A 0 A (by omega) (fun i hi => ⟨(t1 i hi).1, ha _ (t1 i hi).1⟩)
    rw [t2] at this
    exact this
  · unfold op0 chl at hq
    obtain ⟨i, hi, e⟩ := List.mem_map.mp hq
    have hi := List.mem_range.mp hi
    have h1 := (hW r hr _ (t1 i hi).1).2.1
    rw [e] at h1
    exact ha x (by omega)
  · unfold kdT
    rw [List.map_map]
    apply List.eq_replicate_iff.mpr
    refine ⟨by rw [List.length_map, chl_len], fun b hb => ?_⟩
    obtain ⟨x, -, hx⟩ := List.mem_map.mp hb
    exact hx.symm
/-- beside the tree all stays -/
def FrT (c c' : St) : Prop := (∀ j, j ≠ 0 → j ≠ 9 → j ≠ 10 → gF c' j = gF c j) ∧ ∀ j, j < 22 ∨ 32 < j → gA c' j = gA c j
theorem plant_eq (hW : ∀ r, r < R → PW N ct ar pk (ln r) (sy r) (en r) (wt r)) (hN : N ≤ 60) (hB : BsW R ln bs) (hT : TopW R A fp ln en wt) (hlen : (TT R A N ar sy en).length ≤ 559) {c : St} (hR : RlC R ln bs sy en uc pc c) :
    ∃ c', F_X1_plant c = some (0, c') ∧ TreeC N ar R A bs sy en c' ∧ (∀ j, j ≠ 9 → j ≠ 10 → gF c' j = gF c j) ∧ ∀ j, j < 22 ∨ 32 < j → gA c' j = gA c j := by
  have hR24 := hB.1
  unfold F_X1_plant F_X6_clear F_X3_forgetAsked
  rw [bd_r, bo_s, bd_r, bo_s, bd_r]
  obtain ⟨c1, hc1⟩ : ∃ c1, sF (sA (sF c 9 0) 22 (fl 512 (gA (sF c 9 0) 22) (-1))) 10 0 = c1 := ⟨_, rfl⟩
  rw [hc1]
  have f1 : ∀ j, j ≠ 9 → j ≠ 10 → gF c1 j = gF c j := fun j j1 j2 => by rw [← hc1, gF_sF, if_neg j2, gF_sA, gF_sF, if_neg j1]
  have a1 : ∀ j, j ≠ 22 → gA c1 j = gA c j := fun j j1 => by rw [← hc1, gA_sF, gA_sA, if_neg j1]; rfl
  have a22 : ∀ x, x < 512 → gA c1 22 x = -1 := fun x hx => by rw [← hc1]; exact if_pos hx
  have hR1 : RlC R ln bs sy en uc pc c1 := FrP.rl ⟨f1, fun j j1 => a1 j (by omega)⟩ hR
  have hX1 : HoldC bs [] c1 := ⟨by rw [← hc1]; rfl, fun i x hx => by simp at hx⟩
  have hW1 : WtC [] c1 := ⟨by rw [← hc1]; rfl, fun i x hx => by simp at hx⟩
  rw [hR1.1]
  by_cases h0 : R = 0
  · have hTT : TT R A N ar sy en = [] := if_pos h0
    rw [if_pos (show nI R ≤ 0 by rw [h0]; decide), F_X1_plant_46, F_X1_plant_48, if_neg (by decide), hW1.1, if_pos (by decide)]
    refine ⟨c1, rfl, ⟨by rw [hTT]; exact hX1, ?_⟩, f1, fun j j1 => a1 j (by omega)⟩
    rw [Mrk]
    have hp : pos (ndC sy (op0 en A) (List.range R)) (List.range R).length A 0 none = none ∨ ∃ s, pos (ndC sy (op0 en A) (List.range R)) (List.range R).length A 0 none = some (true, s) := by
      subst h0
      cases A with
      | zero => exact Or.inl rfl
      | succ A => exact Or.inr ⟨0, rfl⟩
    rcases hp with hp | ⟨s, hp⟩
    · rw [hp]
      trivial
    · rw [hp]
      dsimp only
      refine ⟨fun r hr => ?_, fun i hi => ?_⟩
      · rw [h0] at hr; cases hr
      · obtain ⟨-, r, hr, -⟩ := kids_mem.mp hi
        rw [h0] at hr; cases hr
  · have hTT : TT R A N ar sy en = Tr N ar sy en 300 (List.range R) (op0 en A) A (-1) 0 := if_neg h0
    rw [hTT] at hlen
    obtain ⟨c2, e1, e2, e3⟩ := await_eq hW1 (by simp) (List.range R) (-1) 0
    have e1' : F_X1_await (mk (List.range R)) (-1) 0 c1 = some (0, c2) := e1
    rw [if_neg (nI_nle (by omega) (by omega)), mk_range R hR24 (by omega), e1', bo_s]
    have hlr : (List.range R).length = R := List.length_range
    obtain ⟨c3, q1, q2, q3, q4, q5, q6, q7⟩ := plant_main (uc := uc) (pc := pc) hW hN hB 300 (List.range R) (op0 en A) A (-1) 0 [] [] c2 (range_GS hR24) (top_GW hT (by omega)) (fun r hr => by
      have hr := List.mem_range.mp hr
      have := (hB.2.2.1 r hr).2
      rw [top_rs hW hT hr, hlr]
      omega) (by rw [hlr]; simp; omega) (e3.frP.rl hR1) (top_GTk hW hT hB (fun x hx => by rw [e3.2 22 (by omega)]; exact a22 x hx)) e2 (hX1.kept (e3.1 9 (by omega)) (fun j j1 j2 => e3.2 j (by omega))) (by simp; omega) (by omega)
    obtain ⟨L, hL⟩ : ∃ L, (Tr N ar sy en 300 (List.range R) (op0 en A) A (-1) 0).length = L := ⟨_, rfl⟩
    rw [hL] at hlen q1
    have hq := q1 (4999 - L + 1)
    rw [show 4999 - L + 1 + L = 5000 by omega] at hq
    have hq' : F_X1_plant_46 c2 = F_X1_plant_48 (4999 - L + 1) (nI (0 + L)) c3 := hq
    rw [hq', F_X1_plant_48, if_neg (show ¬ (560 : Int32) ≤ _ from nI_ge (b := 560) (by omega) (by omega)), q2.1, if_pos (by decide)]
    refine ⟨c3, rfl, ⟨by rw [hTT]; simpa using q3, q7⟩, fun j j1 j2 => by rw [q4.1 j j1 j2, e3.1 j j2, f1 j j1 j2], fun j j1 => by rw [q4.2 j (by omega), e3.2 j (by omega), a1 j (by omega)]⟩
theorem refresh_eq (hW : ∀ r, r < R → PW N ct ar pk (ln r) (sy r) (en r) (wt r)) (hN : N ≤ 60) (hB : BsW R ln bs) (hT : TopW R A fp ln en wt) (hlen : (TT R A N ar sy en).length ≤ 559) {c : St} (hR : RlC R ln bs sy en uc pc c) (h0 : gF c 0 = 1 ∨ (gF c 0 = 0 ∧ TreeC N ar R A bs sy en c)) :
    ∃ c', F_X8_refreshTree c = some (0, c') ∧ gF c' 0 = 0 ∧ TreeC N ar R A bs sy en c' ∧ FrT c c' := by
  unfold F_X8_refreshTree
  rcases h0 with h0 | ⟨h0, h1⟩
  · obtain ⟨c1, e1, e2, e3, e4⟩ := plant_eq hW hN hB hT hlen hR
    rw [h0, if_neg (by decide), e1, bo_s, ck_0, bd_r]
    exact ⟨_, rfl, rfl, e2, fun j j1 j2 j3 => by rw [gF_sF, if_neg j1, e3 j j2 j3], fun j j1 => by rw [gA_sF, e4 j j1]⟩
  · rw [if_pos h0]
    exact ⟨c, rfl, h0, h1, fun _ _ _ _ => rfl, fun _ _ => rfl⟩
end
