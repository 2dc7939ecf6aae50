/-! what is the same on both sides -/
def PD (n T N : Nat) (ct ar : Nat → Nat) (pk : Nat → Int32) (fa fp : Int32) (A nq : Nat) (rq : Nat → Int32) (R : Nat) (ln bs : Nat → Nat) (sy : Nat → Nat → Int32) (en wt uc pc : Nat → Nat → Nat) (tl : Nat → Nat → List Nat) : Prop :=
  SgW T N ct ar pk ∧ A ≤ 6 ∧ ((fa = -1 ∧ R = 0) ∨ fa = nI A) ∧ nq ≤ 160 ∧ (∀ i, nq ≤ i → rq i = -1) ∧ bs R + nq ≤ n ∧ RuW N ct ar pk A fp R ln bs sy en wt uc pc tl ∧ (TT R A N ar sy en).length ≤ 559 ∧ mxN (TT R A N ar sy en) ≤ 184
/-- the program, but its tree and its outcomes -/
def CB (T N : Nat) (ct ar : Nat → Nat) (pk : Nat → Int32) (fa fp : Int32) (nq : Nat) (rq : Nat → Int32) (R : Nat) (ln bs : Nat → Nat) (sy : Nat → Nat → Int32) (en uc pc : Nat → Nat → Nat) (c : St) : Prop :=
  SgC T N ct ar pk c ∧ gF c 3 = fa ∧ gF c 4 = fp ∧ gF c 5 = nI nq ∧ (∀ i, i < nq → gA c 12 i = rq i) ∧ RlC R ln bs sy en uc pc c ∧ gA c 44 0 = 0 ∧ gA c 46 0 = 0 ∧ gA c 47 0 = 0
def CTr (N : Nat) (ar : Nat → Nat) (R A : Nat) (bs : Nat → Nat) (sy : Nat → Nat → Int32) (en : Nat → Nat → Nat) (c : St) : Prop := gF c 0 = 1 ∨ (gF c 0 = 0 ∧ TreeC N ar R A bs sy en c)
/-- the reference, but its tree and its outcomes -/
def MB (T N : Nat) (ct ar : Nat → Nat) (pk : Nat → Int32) (fa fp : Int32) (nq : Nat) (rq : Nat → Int32) (R : Nat) (ln : Nat → Nat) (sy : Nat → Nat → Int32) (en uc pc : Nat → Nat → Nat) (m : St) : Prop :=
  SgM T N ct ar pk m ∧ gF m 2 = fa ∧ gF m 3 = fp ∧ gF m 5 = nI nq ∧ (∀ i, i < nq → gA m 4 i = rq i) ∧ RlM R ln sy en uc pc m
/-- the outcomes of the reference -/
def OM (R A N : Nat) (ar : Nat → Nat) (sy : Nat → Nat → Int32) (en : Nat → Nat → Nat) (fa : Int32) (O : List Oc) (m : St) : Prop :=
  gF m 19 = nI O.length ∧ (O = [] ∨ ∃ (k : Nat) (rw : Nat → Int32) (te κ kb : Nat → Nat), fa = nI A ∧ TmW k N A rw te ar ∧ TKW k N A rw te ar κ kb ∧ RT k rw ar κ kb [] m ∧ O = (LdT R A N k ar rw te sy en).map (ocO k rw ar) ∧ O.length ≤ 24 ∧ (∀ o, o ∈ LdT R A N k ar rw te sy en → shO k rw ar o) ∧ (gF m 21 = -1 ∨ ∃ j, j < O.length ∧ gF m 21 = nI j ∧ ∀ o, (LdT R A N k ar rw te sy en)[j]? = some o → FF k rw ar o m))
/-- the relation -/
def Rel (n : Nat) (c m : St) : Prop :=
  ∃ (T N : Nat) (ct ar : Nat → Nat) (pk : Nat → Int32) (fa fp : Int32) (A nq : Nat) (rq : Nat → Int32) (R : Nat) (ln bs : Nat → Nat) (sy : Nat → Nat → Int32) (en wt uc pc : Nat → Nat → Nat) (tl : Nat → Nat → List Nat) (O : List Oc),
    PD n T N ct ar pk fa fp A nq rq R ln bs sy en wt uc pc tl ∧ CB T N ct ar pk fa fp nq rq R ln bs sy en uc pc c ∧ CTr N ar R A bs sy en c ∧ OutC O c ∧ MB T N ct ar pk fa fp nq rq R ln sy en uc pc m ∧ Hold m (TT R A N ar sy en) ∧ OM R A N ar sy en fa O m
section
variable {n T N A nq R : Nat} {ct ar : Nat → Nat} {pk rq : Nat → Int32} {fa fp : Int32} {ln bs : Nat → Nat} {sy : Nat → Nat → Int32} {en wt uc pc : Nat → Nat → Nat} {tl : Nat → Nat → List Nat} {O : List Oc} {c c' m m' : St}
theorem PD.up (h : PD n T N ct ar pk fa fp A nq rq R ln bs sy en wt uc pc tl) : PD (n + 1) T N ct ar pk fa fp A nq rq R ln bs sy en wt uc pc tl := by
  obtain ⟨h1, h2, h3, h4, h5, h6, h7⟩ := h
  exact ⟨h1, h2, h3, h4, h5, by omega, h7⟩
theorem SgC.kept (h : SgC T N ct ar pk c) (e1 : gF c' 1 = gF c 1) (e2 : gF c' 2 = gF c 2) (e9 : gA c' 9 = gA c 9) (e10 : gA c' 10 = gA c 10) (e11 : gA c' 11 = gA c 11) : SgC T N ct ar pk c' := by
  unfold SgC at h ⊢
  rw [e1, e2, e9, e10, e11]
  exact h
theorem SgM.kept (h : SgM T N ct ar pk m) (e1 : gF m' 0 = gF m 0) (e2 : gF m' 1 = gF m 1) (e9 : gA m' 1 = gA m 1) (e10 : gA m' 2 = gA m 2) (e11 : gA m' 3 = gA m 3) : SgM T N ct ar pk m' := by
  unfold SgM at h ⊢
  rw [e1, e2, e9, e10, e11]
  exact h
theorem RlC.kp (h : RlC R ln bs sy en uc pc c) (e8 : gF c' 8 = gF c 8) (e : ∀ j, 17 ≤ j → j ≤ 21 → gA c' j = gA c j) : RlC R ln bs sy en uc pc c' := by
  unfold RlC at h ⊢
  rw [e8, e 17 (by omega) (by omega), e 18 (by omega) (by omega), e 19 (by omega) (by omega), e 20 (by omega) (by omega), e 21 (by omega) (by omega)]
  exact h
theorem RlM.kp (h : RlM R ln sy en uc pc m) (e8 : gF m' 4 = gF m 4) (e : ∀ j, 5 ≤ j → j ≤ 9 → gA m' j = gA m j) : RlM R ln sy en uc pc m' := by
  unfold RlM at h ⊢
  rw [e8, e 5 (by omega) (by omega), e 6 (by omega) (by omega), e 7 (by omega) (by omega), e 8 (by omega) (by omega), e 9 (by omega) (by omega)]
  exact h
theorem CB.kept (h : CB T N ct ar pk fa fp nq rq R ln bs sy en uc pc c) (e : ∀ j, (1 ≤ j ∧ j ≤ 5) ∨ j = 8 → gF c' j = gF c j) (a : ∀ j, (9 ≤ j ∧ j ≤ 12) ∨ (17 ≤ j ∧ j ≤ 21) → gA c' j = gA c j) (b : ∀ j, j = 44 ∨ j = 46 ∨ j = 47 → gA c' j 0 = gA c j 0) : CB T N ct ar pk fa fp nq rq R ln bs sy en uc pc c' := by
  obtain ⟨h1, h2, h3, h4, h5, h6, h7, h8, h9⟩ := h
  refine ⟨h1.kept (e 1 (by omega)) (e 2 (by omega)) (a 9 (by omega)) (a 10 (by omega)) (a 11 (by omega)), ?_, ?_, ?_, ?_, h6.kp (e 8 (by omega)) (fun j j1 j2 => a j (by omega)), ?_, ?_, ?_⟩
  · rw [e 3 (by omega)]; exact h2
  · rw [e 4 (by omega)]; exact h3
  · rw [e 5 (by omega)]; exact h4
  · rw [a 12 (by omega)]; exact h5
  · rw [b 44 (by omega)]; exact h7
  · rw [b 46 (by omega)]; exact h8
  · rw [b 47 (by omega)]; exact h9
theorem TreeC.kp (h : TreeC N ar R A bs sy en c) (e : gF c' 9 = gF c 9) (a : ∀ j, 22 ≤ j → j ≤ 27 → gA c' j = gA c j) : TreeC N ar R A bs sy en c' := by
  refine ⟨h.1.kept e (fun j j1 j2 => a j (by omega) j2), ?_⟩
  rw [a 22 (by omega) (by omega)]
  exact h.2
theorem CTr.kept (h : CTr N ar R A bs sy en c) (e0 : gF c' 0 = gF c 0) (e : gF c' 9 = gF c 9) (a : ∀ j, 22 ≤ j → j ≤ 27 → gA c' j = gA c j) : CTr N ar R A bs sy en c' := by
  rcases h with h | ⟨h1, h2⟩
  · exact Or.inl (by rw [e0]; exact h)
  · exact Or.inr ⟨by rw [e0]; exact h1, h2.kp e a⟩
theorem MB.kept (h : MB T N ct ar pk fa fp nq rq R ln sy en uc pc m) (e : ∀ j, j ≤ 5 → gF m' j = gF m j) (a : ∀ j, j ≤ 9 → gA m' j = gA m j) : MB T N ct ar pk fa fp nq rq R ln sy en uc pc m' := by
  obtain ⟨h1, h2, h3, h4, h5, h6⟩ := h
  refine ⟨h1.kept (e 0 (by omega)) (e 1 (by omega)) (a 1 (by omega)) (a 2 (by omega)) (a 3 (by omega)), ?_, ?_, ?_, ?_, h6.kp (e 4 (by omega)) (fun j j1 j2 => a j (by omega))⟩
  · rw [e 2 (by omega)]; exact h2
  · rw [e 3 (by omega)]; exact h3
  · rw [e 5 (by omega)]; exact h4
  · rw [a 4 (by omega)]; exact h5
theorem OM.kept (h : OM R A N ar sy en fa O m) (e : ∀ j, j = 15 ∨ j = 16 ∨ j = 19 ∨ (21 ≤ j ∧ j ≤ 25) → gF m' j = gF m j) (a : ∀ j, (26 ≤ j ∧ j ≤ 28) ∨ j = 30 → gA m' j = gA m j) : OM R A N ar sy en fa O m' := by
  obtain ⟨h1, h2⟩ := h
  refine ⟨by rw [e 19 (by omega)]; exact h1, ?_⟩
  rcases h2 with h2 | ⟨k, rw', te, κ, kb, k0, k1, k2, k3, k4, k5, k6, k7⟩
  · exact Or.inl h2
  · refine Or.inr ⟨k, rw', te, κ, kb, k0, k1, k2, RT.kept BW.nil k2 k3 (e 15 (by omega)) (e 16 (by omega)) (fun y _ => by rw [a 26 (by omega)]) (fun y _ => by rw [a 27 (by omega)]) (fun y _ => by rw [a 28 (by omega)]), k4, k5, k6, ?_⟩
    rcases k7 with k7 | ⟨j, j1, j2, j3⟩
    · exact Or.inl (by rw [e 21 (by omega)]; exact k7)
    · exact Or.inr ⟨j, j1, by rw [e 21 (by omega)]; exact j2, fun o ho => (j3 o ho).kept (fun i i1 i2 => e i (by omega)) (a 30 (by omega))⟩
theorem OutC.kp (h : OutC O c) (e15 : gF c' 15 = gF c 15) (e16 : gF c' 16 = gF c 16) (a : ∀ j, (40 ≤ j ∧ j ≤ 43) ∨ j = 48 → gA c' j = gA c j) : OutC O c' := h.kept ⟨e15, e16, fun j j1 j2 => a j (by omega), a 48 (by omega)⟩
theorem OutC.none (h : OutC O c) (e15 : gF c' 15 = 0) (e16 : gF c' 16 = gF c 16) : OutC [] c' := by
  refine ⟨e15, by rw [e16]; exact h.2.1, fun h => absurd rfl h, fun i o ho => by simp at ho⟩
theorem OM.none (e19 : gF m 19 = 0) : OM R A N ar sy en fa [] m := ⟨e19, Or.inl rfl⟩
theorem Rel.up (h : Rel n c m) : Rel (n + 1) c m := by
  obtain ⟨T, N, ct, ar, pk, fa, fp, A, nq, rq, R, ln, bs, sy, en, wt, uc, pc, tl, O, h1, h2⟩ := h
  exact ⟨T, N, ct, ar, pk, fa, fp, A, nq, rq, R, ln, bs, sy, en, wt, uc, pc, tl, O, h1.up, h2⟩
theorem rel_start : Rel 0 σC0 σM0 := by
  refine ⟨0, 0, fun _ => 0, fun _ => 0, fun _ => 0, -1, 0, 0, 0, fun _ => -1, 0, fun _ => 0, fun _ => 0, fun _ _ => -1, fun _ _ => 0, fun _ _ => 0, fun _ _ => 0, fun _ _ => 0, fun _ _ => [], [], ?_, ?_, ?_, ?_, ?_, ?_, ?_⟩
  · refine ⟨⟨by omega, by omega, fun i hi => by omega⟩, by omega, Or.inl ⟨rfl, rfl⟩, by omega, fun _ _ => rfl, Nat.le_refl 0, ?_, ?_, ?_⟩
    · exact ⟨fun r hr => by omega, fun r hr => by omega, fun r hr => by omega, fun r hr => by omega, fun r hr => by omega, ⟨by omega, rfl, fun r hr => by omega, Nat.zero_le _⟩, fun _ _ => Or.inl rfl⟩
    · rw [TT, if_pos rfl]; decide
    · rw [TT, if_pos rfl]; decide
  · refine ⟨⟨rfl, rfl, fun i hi => by omega⟩, rfl, rfl, rfl, fun i hi => by omega, ⟨rfl, fun r hr => ?_, fun r hr => by omega⟩, rfl, rfl, rfl⟩
    rfl
  · refine Or.inr ⟨rfl, ?_, ?_⟩
    · rw [TT, if_pos rfl]
      exact ⟨rfl, fun i x hx => by simp at hx⟩
    · exact trivial
  · exact ⟨rfl, Or.inl rfl, fun h => absurd rfl h, fun i o ho => by simp at ho⟩
  · exact ⟨⟨rfl, rfl, fun i hi => by omega⟩, rfl, rfl, rfl, fun i hi => by omega, ⟨rfl, fun r hr => by omega⟩⟩
  · rw [TT, if_pos rfl]
    exact ⟨rfl, rfl, rfl, rfl, fun i x hx => by simp at hx⟩
  · exact OM.none rfl
end
