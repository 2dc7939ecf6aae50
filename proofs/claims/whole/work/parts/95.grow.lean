/-! a node grows in the class -/
def sbj (bs : Nat → Nat) (x : Nd) : Int32 := if x.1 = 0 then nI x.2.1 else if x.1 = 1 then nI (bs x.2.1 + x.2.2.1) else -1
def NodC (bs : Nat → Nat) (c : St) (k : Nat) (x : Nd) : Prop :=
  gA c 23 k = nI x.1 ∧ gA c 24 k = sbj bs x ∧ gA c 25 k = nI x.2.2.2.1 ∧ gA c 26 k = x.2.2.2.2.1 ∧ gA c 27 k = nI x.2.2.2.2.2
def HoldC (bs : Nat → Nat) (X : List Nd) (c : St) : Prop := gF c 9 = nI X.length ∧ ∀ i x, X[i]? = some x → NodC bs c i x
theorem HoldC.kept {bs : Nat → Nat} {X : List Nd} {c c' : St} (h : HoldC bs X c) (h1 : gF c' 9 = gF c 9) (h2 : ∀ j, 23 ≤ j → j ≤ 27 → gA c' j = gA c j) : HoldC bs X c' := by
  unfold HoldC NodC
  rw [h1, h2 23 (by omega) (by omega), h2 24 (by omega) (by omega), h2 25 (by omega) (by omega), h2 26 (by omega) (by omega), h2 27 (by omega) (by omega)]
  exact h
theorem addT_eq {bs : Nat → Nat} {X : List Nd} {c : St} (h : HoldC bs X c) (hX : X.length < 560) (x : Nd) :
    ∃ c', F_X6_add (nI x.1) (sbj bs x) x.2.2.2.2.1 (nI x.2.2.2.2.2) (nI x.2.2.2.1) c = some (0, c') ∧ HoldC bs (X ++ [x]) c' ∧ (∀ j, j ≠ 9 → gF c' j = gF c j) ∧ ∀ j, j < 23 ∨ 27 < j → gA c' j = gA c j := by
  unfold F_X6_add
  obtain ⟨w, hw⟩ : ∃ w, X.length = w := ⟨_, rfl⟩
  have h9 := h.1
  rw [hw] at h9 hX
  rw [h9, if_pos (show nI w < 560 from nI_lt (b := 560) hX (by omega)), wr_in _ _ hX (by omega), bd_r]
  obtain ⟨c1, hc1⟩ : ∃ c1, sA c 23 (upd (gA c 23) w (nI x.1)) = c1 := ⟨_, rfl⟩
  have g1 : gF c1 9 = nI w := by rw [← hc1]; exact h9
  rw [hc1, g1, wr_in _ _ hX (by omega), bd_r]
  obtain ⟨c2, hc2⟩ : ∃ c2, sA c1 24 (upd (gA c1 24) w (sbj bs x)) = c2 := ⟨_, rfl⟩
  have g2 : gF c2 9 = nI w := by rw [← hc2]; exact g1
  rw [hc2, g2, wr_in _ _ hX (by omega), bd_r]
  obtain ⟨c3, hc3⟩ : ∃ c3, sA c2 26 (upd (gA c2 26) w x.2.2.2.2.1) = c3 := ⟨_, rfl⟩
  have g3 : gF c3 9 = nI w := by rw [← hc3]; exact g2
  rw [hc3, g3, wr_in _ _ hX (by omega), bd_r]
  obtain ⟨c4, hc4⟩ : ∃ c4, sA c3 27 (upd (gA c3 27) w (nI x.2.2.2.2.2)) = c4 := ⟨_, rfl⟩
  have g4 : gF c4 9 = nI w := by rw [← hc4]; exact g3
  rw [hc4, g4, wr_in _ _ hX (by omega), bd_r]
  obtain ⟨c5, hc5⟩ : ∃ c5, sA c4 25 (upd (gA c4 25) w (nI x.2.2.2.1)) = c5 := ⟨_, rfl⟩
  have g5 : gF c5 9 = nI w := by rw [← hc5]; exact g4
  rw [hc5, g5, nI_1, bd_r]
  refine ⟨_, rfl, ⟨?_, fun i y hy => ?_⟩, fun j j1 => ?_, fun j j1 => ?_⟩
  · rw [List.length_append, hw]; rfl
  · have b1 : gA (sF c5 9 (nI (w + 1))) 23 = upd (gA c 23) w (nI x.1) := by rw [← hc5, ← hc4, ← hc3, ← hc2, ← hc1]; rfl
    have b2 : gA (sF c5 9 (nI (w + 1))) 24 = upd (gA c 24) w (sbj bs x) := by rw [← hc5, ← hc4, ← hc3, ← hc2, ← hc1]; rfl
    have b3 : gA (sF c5 9 (nI (w + 1))) 25 = upd (gA c 25) w (nI x.2.2.2.1) := by rw [← hc5, ← hc4, ← hc3, ← hc2, ← hc1]; rfl
    have b4 : gA (sF c5 9 (nI (w + 1))) 26 = upd (gA c 26) w x.2.2.2.2.1 := by rw [← hc5, ← hc4, ← hc3, ← hc2, ← hc1]; rfl
    have b5 : gA (sF c5 9 (nI (w + 1))) 27 = upd (gA c 27) w (nI x.2.2.2.2.2) := by rw [← hc5, ← hc4, ← hc3, ← hc2, ← hc1]; rfl
    unfold NodC
    rw [b1, b2, b3, b4, b5]
    by_cases hi : i < X.length
    · rw [List.getElem?_append_left hi] at hy
      rw [upd_n _ _ (by omega), upd_n _ _ (by omega), upd_n _ _ (by omega), upd_n _ _ (by omega), upd_n _ _ (by omega)]
      exact h.2 i y hy
    · rw [List.getElem?_append_right (by omega)] at hy
      have hz : i - X.length < 1 := (List.getElem?_eq_some_iff.mp hy).1
      have hi2 : i = w := by omega
      subst hi2
      rw [hw, Nat.sub_self] at hy
      cases hy
      rw [upd_s, upd_s, upd_s, upd_s, upd_s]
      exact ⟨rfl, rfl, rfl, rfl, rfl⟩
  · rw [gF_sF, if_neg j1, ← hc5, ← hc4, ← hc3, ← hc2, ← hc1]; rfl
  · rw [gA_sF, ← hc5, gA_sA, if_neg (by omega), ← hc4, gA_sA, if_neg (by omega), ← hc3, gA_sA, if_neg (by omega), ← hc2, gA_sA, if_neg (by omega), ← hc1, gA_sA, if_neg (by omega)]
/-- beside the tree, the groups that wait, the marks and the cursors all stays -/
def FrP (c c' : St) : Prop := (∀ j, j ≠ 9 → j ≠ 10 → gF c' j = gF c j) ∧ ∀ j, j < 22 ∨ j = 28 ∨ 32 < j → gA c' j = gA c j
theorem FrP.refl (c : St) : FrP c c := ⟨fun _ _ _ => rfl, fun _ _ => rfl⟩
theorem FrP.trans {a b c : St} (h : FrP a b) (h2 : FrP b c) : FrP a c := ⟨fun j j1 j2 => by rw [h2.1 j j1 j2, h.1 j j1 j2], fun j j1 => by rw [h2.2 j j1, h.2 j j1]⟩
theorem FrP.rl {R : Nat} {ln bs : Nat → Nat} {sy : Nat → Nat → Int32} {en uc pc : Nat → Nat → Nat} {c c' : St} (h : FrP c c') (hR : RlC R ln bs sy en uc pc c) : RlC R ln bs sy en uc pc c' := by
  unfold RlC
  rw [h.1 8 (by omega) (by omega), h.2 17 (by omega), h.2 18 (by omega), h.2 19 (by omega), h.2 20 (by omega), h.2 21 (by omega)]
  exact hR
theorem bits_two {R : Nat} {g : List Nat} (hG : GS R g) (h2 : 1 < g.length) (σ : St) : ∃ v, F_J6_bitCount_0f7a4 (mk g) σ = some (v, σ) ∧ ¬ v ≤ 1 := by
  have m0 : nth g 0 ∈ g := gD_mem (by omega)
  have m1 : nth g 1 ∈ g := gD_mem h2
  have hnd : g.Nodup := hG.2.1.imp (fun h => Nat.ne_of_lt h)
  refine bc_two (fun i hi hb => ?_) (i := nth g 0) (j := nth g 1) (fun z => ?_) (hG.lt _ m0) (hG.lt _ m1) ?_ ?_ σ
  · rw [bt_mk g hG.lt i hi] at hb
    exact hG.lt i (of_decide_eq_true hb)
  · have := nd_inj hnd (by omega) h2 z
    omega
  · have := hG.lt _ m0
    rw [bt_mk g hG.lt _ (by omega), decide_eq_true m0]
  · have := hG.lt _ m1
    rw [bt_mk g hG.lt _ (by omega), decide_eq_true m1]
theorem FrW.frP {c c' : St} (h : FrW c c') : FrP c c' := ⟨fun j _ j2 => h.1 j j2, fun j j1 => h.2 j (by omega)⟩
section
variable {R N : Nat} {g : List Nat} {ln bs : Nat → Nat} {sy : Nat → Nat → Int32} {en uc pc : Nat → Nat → Nat} {op : Nat → List Nat} {K : Nat} {W : Wt} {X : List Nd} {lab : Int32} {dep : Nat} {c : St}
theorem grow_leaf (hG : GS R g) (h0 : 0 < g.length) (hB : BsW R ln bs) (he : ∀ r, r ∈ g → ∀ q, q < ln r → q < en r q) (hK : ∀ r, r ∈ g → (op r).length = K ∧ ∀ s, s < K → nth (op r) s < ln r) (hR : RlC R ln bs sy en uc pc c) (hT : GTk R ln bs en (gA c 22) g op) (hW : WtC W c) (hX : HoldC bs X c) (hl : X.length < 560) (hp : pos (ndC sy op g) g.length K 0 none = none) (h1 : g.length = 1) :
    ∃ c', F_X1_grow (mk g) lab (nI dep) c = some (0, c') ∧ WtC W c' ∧ HoldC bs (X ++ [(0, nth g 0, 0, 0, lab, dep)]) c' ∧ FrP c c' ∧ gA c' 22 = gA c 22 := by
  obtain ⟨f, hz⟩ := takeC_eq hG h0 hB he hK hR hT
  rw [hp] at hz
  obtain ⟨c1, hc1⟩ : ∃ c1, sA c 32 f = c1 := ⟨_, rfl⟩
  rw [hc1] at hz
  dsimp only at hz
  have hg1 : g = [nth g 0] := by
    cases g with
    | nil => cases h1
    | cons x l =>
      cases l with
      | nil => rfl
      | cons y l => simp at h1
  have hbc : F_J6_bitCount_0f7a4 (mk g) c1 = some (1, c1) := by
    rw [hg1, mk_one]
    exact bc_one _ (hG.lt _ (gD_mem h0)) c1
  obtain ⟨c2, e1, e2, e3, e4⟩ := addT_eq (c := c1) (X := X) (bs := bs) (by rw [← hc1]; exact hX) hl (0, nth g 0, 0, 0, lab, dep)
  have e1' : F_X6_add 0 (nI (nth g 0)) lab (nI dep) 0 c1 = some (0, c2) := e1
  refine ⟨c2, ?_, ?_, e2, ⟨fun j j1 j2 => ?_, fun j j1 => ?_⟩, ?_⟩
  · unfold F_X1_grow
    rw [hz, bo_s, bd_r, if_neg (fun z => mk_ne0 hG.lt h0 z.symm), if_pos rfl, hbc, bo_s, if_pos (by decide), first_mk hG h0, bo_s, e1', bo_s]
  · refine hW.kept ?_ (fun j j1 j2 => ?_)
    · rw [e3 10 (by omega), ← hc1]; rfl
    · rw [e4 j (by omega), ← hc1, gA_sA, if_neg (by omega)]
  · rw [e3 j j1, ← hc1]; rfl
  · rw [e4 j (by omega), ← hc1, gA_sA, if_neg (by omega)]
  · rw [e4 22 (by omega), ← hc1, gA_sA, if_neg (by omega)]
theorem grow_each (hG : GS R g) (h0 : 0 < g.length) (hB : BsW R ln bs) (he : ∀ r, r ∈ g → ∀ q, q < ln r → q < en r q) (hK : ∀ r, r ∈ g → (op r).length = K ∧ ∀ s, s < K → nth (op r) s < ln r) (hR : RlC R ln bs sy en uc pc c) (hT : GTk R ln bs en (gA c 22) g op) (hW : WtC W c) (hX : HoldC bs X c) (hl : X.length < 560) (hWg : W.length + g.length ≤ 24) (hp : pos (ndC sy op g) g.length K 0 none = none) (h1 : g.length ≠ 1) :
    ∃ c', F_X1_grow (mk g) lab (nI dep) c = some (0, c') ∧ WtC (W ++ g.reverse.map fun r => ([r], -1, dep + 1)) c' ∧ HoldC bs (X ++ [(2, 0, 0, g.length, lab, dep)]) c' ∧ FrP c c' ∧ gA c' 22 = gA c 22 := by
  have hR24 := hG.1
  obtain ⟨f, hz⟩ := takeC_eq hG h0 hB he hK hR hT
  rw [hp] at hz
  obtain ⟨c1, hc1⟩ : ∃ c1, sA c 32 f = c1 := ⟨_, rfl⟩
  rw [hc1] at hz
  dsimp only at hz
  obtain ⟨v, hv, hv1⟩ := bits_two hG (by omega) c1
  have hW1 : WtC W c1 := by rw [← hc1]; exact hW
  have h8 : gF c1 8 = nI R := by rw [← hc1]; exact hR.1
  obtain ⟨c2, q1, q2, q3⟩ := each_loop hG (W := W) (dep := dep) hWg R 5000 c1 (Nat.le_refl _) (by omega) (by rw [hiL_all hG.2.2]; simpa using hW1)
  have q1' : F_X1_partEach (mk g) (nI dep) c1 = some (0, c2) := by
    unfold F_X1_partEach
    rw [h8, sub_hI, bd_r]
    exact q1
  obtain ⟨c3, e1, e2, e3, e4⟩ := addT_eq (c := c2) (X := X) (bs := bs) (hX.kept (by rw [q3.1 9 (by omega), ← hc1]; rfl) (fun j j1 j2 => by rw [q3.2 j (by omega), ← hc1, gA_sA, if_neg (by omega)])) hl (2, 0, 0, g.length, lab, dep)
  have e1' : F_X6_add 2 (-1) lab (nI dep) (nI g.length) c2 = some (0, c3) := e1
  have hw2 : gF c2 10 - gF c1 10 = nI g.length := by
    rw [q2.1, hW1.1, pk_sub (by rw [List.length_append]; omega)]
    congr 1
    simp
  refine ⟨c3, ?_, ?_, e2, ⟨fun j j1 j2 => ?_, fun j j1 => ?_⟩, ?_⟩
  · unfold F_X1_grow
    rw [hz, bo_s, bd_r, if_neg (fun z => mk_ne0 hG.lt h0 z.symm), if_pos rfl, hv, bo_s, if_neg hv1, q1', bo_s, hw2, e1', bo_s]
  · exact q2.kept (e3 10 (by omega)) (fun j j1 j2 => e4 j (by omega))
  · rw [e3 j j1, q3.1 j j2, ← hc1]; rfl
  · rw [e4 j (by omega), q3.2 j (by omega), ← hc1, gA_sA, if_neg (by omega)]
  · rw [e4 22 (by omega), q3.2 22 (by omega), ← hc1, gA_sA, if_neg (by omega)]
theorem grow_need (hG : GS R g) (h0 : 0 < g.length) (hB : BsW R ln bs) (he : ∀ r, r ∈ g → ∀ q, q < ln r → q < en r q) (hK : ∀ r, r ∈ g → (op r).length = K ∧ ∀ s, s < K → nth (op r) s < ln r) (hR : RlC R ln bs sy en uc pc c) (hT : GTk R ln bs en (gA c 22) g op) (hW : WtC W c) (hX : HoldC bs X c) (hl : X.length < 560) (hWg : W.length + g.length ≤ 24) {s : Nat} (hp : pos (ndC sy op g) g.length K 0 none = some (false, s)) :
    ∃ c', F_X1_grow (mk g) lab (nI dep) c = some (0, c') ∧ WtC (W ++ (runs (ndB sy op s) g.length g).reverse.map fun l => (l, -1, dep + 1)) c' ∧ HoldC bs (X ++ [(2, 0, 0, (runs (ndB sy op s) g.length g).length, lab, dep)]) c' ∧ FrP c c' ∧ gA c' 22 = gA c 22 := by
  have hR24 := hG.1
  obtain ⟨f, hz⟩ := takeC_eq hG h0 hB he hK hR hT
  rw [hp] at hz
  obtain ⟨c1, hc1⟩ : ∃ c1, sA c 32 f = c1 := ⟨_, rfl⟩
  rw [hc1] at hz
  dsimp only at hz
  obtain ⟨-, -, hps⟩ := pos_some K 0 none false s hp (fun y hy => by cases hy)
  obtain ⟨hps1, hps2⟩ := hps rfl
  have hng24 : ∀ r, r ∈ ngM sy op g s → r < 24 := fun r hr => hG.lt r (List.mem_filter.mp hr).1
  have hW1 : WtC W c1 := by rw [← hc1]; exact hW
  have h8 : gF c1 8 = nI R := by rw [← hc1]; exact hR.1
  obtain ⟨c2, q1, q2, q3⟩ := need_part hG hng24 (f := ndB sy op s) (fun r hr => by
    unfold ndB
    apply decide_eq_decide.mpr
    unfold ngM
    rw [List.mem_filter, decide_eq_true_eq]
    exact ⟨fun z => ⟨hr, z⟩, fun z => z.2⟩) (W := W) (dep := dep) h0 hWg R 5000 0 0 c1 (Nat.le_refl _) (by omega) (Or.inl ⟨hiL_all hG.2.2, rfl, hW1⟩)
  have q1' : F_X1_partByNeed (mk g) (mk (ngM sy op g s)) (nI dep) c1 = some (0, c2) := by
    unfold F_X1_partByNeed
    rw [h8, sub_hI, bd_r]
    exact q1
  obtain ⟨L, hL⟩ : ∃ L, runs (ndB sy op s) g.length g = L := ⟨_, rfl⟩
  rw [hL] at q2 ⊢
  obtain ⟨c3, e1, e2, e3, e4⟩ := addT_eq (c := c2) (X := X) (bs := bs) (hX.kept (by rw [q3.1 9 (by omega), ← hc1]; rfl) (fun j j1 j2 => by rw [q3.2 j (by omega), ← hc1, gA_sA, if_neg (by omega)])) hl (2, 0, 0, L.length, lab, dep)
  have e1' : F_X6_add 2 (-1) lab (nI dep) (nI L.length) c2 = some (0, c3) := e1
  have hw2 : gF c2 10 - gF c1 10 = nI L.length := by
    rw [q2.1, hW1.1, pk_sub (by rw [List.length_append]; omega)]
    congr 1
    simp
  refine ⟨c3, ?_, ?_, e2, ⟨fun j j1 j2 => ?_, fun j j1 => ?_⟩, ?_⟩
  · unfold F_X1_grow
    rw [hz, bo_s, bd_r, if_neg (fun z => hps2 ((ng_all hG.lt).mp z)), if_neg (mk_ne0 hng24 hps1), q1', bo_s, hw2, e1', bo_s]
  · exact q2.kept (e3 10 (by omega)) (fun j j1 j2 => e4 j (by omega))
  · rw [e3 j j1, q3.1 j j2, ← hc1]; rfl
  · rw [e4 j (by omega), q3.2 j (by omega), ← hc1, gA_sA, if_neg (by omega)]
  · rw [e4 22 (by omega), q3.2 22 (by omega), ← hc1, gA_sA, if_neg (by omega)]
theorem grow_ask (hN : N ≤ 60) (hG : GS R g) (h0 : 0 < g.length) (hB : BsW R ln bs) (he : ∀ r, r ∈ g → ∀ q, q < ln r → q < en r q) (hK : ∀ r, r ∈ g → (op r).length = K ∧ ∀ s, s < K → nth (op r) s < ln r) (hR : RlC R ln bs sy en uc pc c) (hT : GTk R ln bs en (gA c 22) g op) (hW : WtC W c) (hX : HoldC bs X c) (hl : X.length < 560) (hWg : W.length + g.length ≤ 24) {s : Nat} (hp : pos (ndC sy op g) g.length K 0 none = some (true, s)) {k : Nat → Nat} (hk : ∀ r, r ∈ g → nth (op r) s < ln r ∧ sy r (nth (op r) s) = nI (k r) ∧ k r < N) :
    ∃ c', F_X1_grow (mk g) lab (nI dep) c = some (0, c') ∧ WtC (W ++ (kidsC sy op s N g).reverse.map fun i => (subG sy op s (nI i) g, nI i, dep + 1)) c' ∧ HoldC bs (X ++ [(1, nth g 0, nth (op (nth g 0)) s, (kidsC sy op s N g).length, lab, dep)]) c' ∧ FrP c c' ∧ (∀ r, r ∈ g → gA c' 22 (bs r + nth (op r) s) = nI dep) ∧ ∀ x, (∀ r, r ∈ g → x ≠ bs r + nth (op r) s) → gA c' 22 x = gA c 22 x := by
  have hR24 := hG.1
  obtain ⟨f, hz⟩ := takeC_eq hG h0 hB he hK hR hT
  rw [hp] at hz
  obtain ⟨c1, hc1⟩ : ∃ c1, sA c 32 f = c1 := ⟨_, rfl⟩
  rw [hc1] at hz
  dsimp only at hz
  obtain ⟨hz1, hz2⟩ := hz
  have hW1 : WtC W c1 := by rw [← hc1]; exact hW
  have hR1 : RlC R ln bs sy en uc pc c1 := by rw [← hc1]; exact hR
  have hC1 : CrC bs g (fun r => nth (op r) s) c1 := fun r hr => by rw [← hc1, gA_sA_s]; exact hz2 r hr
  have hm0 : nth g 0 ∈ g := gD_mem h0
  have hlt0 := hG.lt _ hm0
  obtain ⟨c2, q1, q2, q3, q4, q5, q6⟩ := askP_eq hG hN hB hk (W := W) (dep := dep) hWg hR1 hC1 hW1
  obtain ⟨L, hL⟩ : ∃ L, kidsC sy op s N g = L := ⟨_, rfl⟩
  rw [hL] at q2 ⊢
  obtain ⟨c3, e1, e2, e3, e4⟩ := addT_eq (c := c2) (X := X) (bs := bs) (hX.kept (by rw [q3 9 (by omega), ← hc1]; rfl) (fun j j1 j2 => by rw [q4 j (by omega), ← hc1, gA_sA, if_neg (by omega)])) hl (1, nth g 0, nth (op (nth g 0)) s, L.length, lab, dep)
  have e1' : F_X6_add 1 (nI (bs (nth g 0) + nth (op (nth g 0)) s)) lab (nI dep) (nI L.length) c2 = some (0, c3) := e1
  have hw2 : gF c2 10 - gF c1 10 = nI L.length := by
    rw [q2.1, hW1.1, pk_sub (by rw [List.length_append]; omega)]
    congr 1
    simp
  refine ⟨c3, ?_, ?_, e2, ⟨fun j j1 j2 => ?_, fun j j1 => ?_⟩, fun r hr => ?_, fun x hx => ?_⟩
  · unfold F_X1_grow
    rw [hz1, bo_s, bd_r, if_pos rfl, first_mk hG h0, bo_s, rd_in _ (by omega) (by omega), hC1 _ hm0, bd_r, q1, bo_s, hw2, e1', bo_s]
  · exact q2.kept (e3 10 (by omega)) (fun j j1 j2 => e4 j (by omega))
  · rw [e3 j j1, q3 j j2, ← hc1]; rfl
  · rw [e4 j (by omega), q4 j (by omega), ← hc1, gA_sA, if_neg (by omega)]
  · rw [e4 22 (by omega)]; exact q5 r hr
  · rw [e4 22 (by omega), q6 x hx, ← hc1, gA_sA, if_neg (by omega)]
end
