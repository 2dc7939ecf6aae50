/-! the class's terms -/
section
variable {n N A : Nat} {rw : Nat → Int32} {en : Nat → Nat} {ar : Nat → Nat}
theorem Vs_all (h : TmW n N A rw en ar) (hN : N ≤ 60) (har : ∀ c, c < N → ar c ≤ 4) : ∀ (β : Bd), BW n N ar β → Vs n rw en ar β ((chl en 0 A).map (mtp rw)) (Vl n rw ar β) := by
  intro β
  induction hl : β.length generalizing β with
  | zero =>
    intro _
    have : β = [] := List.eq_nil_of_length_eq_zero hl
    subst this
    exact Vs_top h hN
  | succ k ih =>
    intro hB
    rcases List.eq_nil_or_concat β with z | ⟨β', y, z⟩
    · subst z; cases hl
    · subst z
      obtain ⟨x, c⟩ := y
      rw [List.concat_eq_append] at hl hB ⊢
      rw [List.length_append] at hl
      obtain ⟨b1, b2, b3⟩ := hB β' x c [] rfl
      have hx : x < 8 + n + sz ar β' := by rcases b3 with q | q <;> omega
      have hxr : ¬ rowId n x := fun z => by have := z.1; have := z.2; rcases b3 with q | q <;> omega
      have hi := ih β' (by simpa using hl) hB.pre
      rw [Vl_snoc]
      exact Vs_bind hB.pre (by unfold cn; rw [if_neg hxr, b2]; rfl) hxr _ _ (Vl_facts h.1 β' hB.pre har).1 hx hi
def PaC (N : Nat) (ar : Nat → Nat) (A : Nat) (c : St) : Prop := N ≤ 60 ∧ (∀ i, i < N → ar i ≤ 4 ∧ gA c 10 i = nI (ar i)) ∧ gF c 3 = nI A
theorem PaC.kept {c c' : St} (h : PaC N ar A c) (h1 : gF c' 3 = gF c 3) (h2 : gA c' 10 = gA c 10) : PaC N ar A c' := by
  unfold PaC
  rw [h1, h2]
  exact h
theorem parts_eq {c : St} (h : PaC N ar A c) {i : Nat} (hi : i < N) : F_X4_parts (nI i) c = some (nI (ar i), c) := by
  have hN := h.1
  unfold F_X4_parts
  rw [if_neg (nI_ne_m1 (by omega)), rd_in _ (by omega) (by omega), (h.2.1 i hi).2, bd_r]
def CT (n : Nat) (rw : Nat → Int32) (en : Nat → Nat) (ar : Nat → Nat) (β : Bd) (c : St) : Prop :=
  gF c 11 = nI (8 + n + sz ar β) ∧ gF c 12 = nI β.length ∧ gF c 13 = nI (Vl n rw ar β).length ∧
  (∀ p, p < n → gA c 33 (8 + p) = rw p ∧ gA c 34 (8 + p) = nI (8 + p + 1) ∧ gA c 35 (8 + p) = nI (8 + en p)) ∧
  (∀ t, nmId n ar β t → gA c 36 t = nI ((Vl n rw ar β).count t) ∧ (lk ar β (8 + n) t = none → gA c 33 t = -9) ∧ ∀ i f, lk ar β (8 + n) t = some (i, f) → gA c 33 t = nI i ∧ gA c 34 t = nI f) ∧
  (∀ t, 8 + n ≤ t → t < 8 + n + sz ar β → gA c 35 t = nI (t + 1)) ∧ ∀ j b, β[j]? = some b → gA c 38 j = nI b.1
theorem CT.kept {β : Bd} {c c' : St} (h : CT n rw en ar β c) (h1 : ∀ j, 11 ≤ j → j ≤ 13 → gF c' j = gF c j) (h2 : ∀ j, (33 ≤ j ∧ j ≤ 36) ∨ j = 38 → gA c' j = gA c j) : CT n rw en ar β c' := by
  unfold CT
  rw [h1 11 (by omega) (by omega), h1 12 (by omega) (by omega), h1 13 (by omega) (by omega), h2 33 (by omega), h2 34 (by omega), h2 35 (by omega), h2 36 (by omega), h2 38 (by omega)]
  exact h
theorem bind_loop {b m v x : Nat} (hb : b + m ≤ 808) (hx : x < b) :
    ∀ (d w k : Nat) (c : St), k + d = m → d < w → gF c 11 = nI (b + k) → gA c 36 x = nI v → ∃ c', F_X5_bind_78 w (nI x) (nI m) (nI k) c = F_X5_bind_149 (nI x) (nI m) c' ∧ gF c' 11 = nI (b + m) ∧ (∀ j, j ≠ 11 → gF c' j = gF c j) ∧ (∀ j, j ≠ 33 → j ≠ 35 → j ≠ 36 → gA c' j = gA c j) ∧ (∀ y, b + k ≤ y → y < b + m → gA c' 33 y = -9 ∧ gA c' 35 y = nI (y + 1) ∧ gA c' 36 y = nI v) ∧ ∀ j y, y < b + k → gA c' j y = gA c j y := by
  intro d
  induction d with
  | zero =>
    intro w k c hk hw h11 hv
    obtain ⟨w, rfl⟩ : ∃ z, w = z + 1 := ⟨w - 1, by omega⟩
    have : k = m := by omega
    subst this
    rw [F_X5_bind_78, if_pos (nI_le (Nat.le_refl _) (by omega))]
    exact ⟨c, rfl, h11, fun _ _ => rfl, fun _ _ _ _ => rfl, fun y h1 h2 => by omega, fun _ _ _ => rfl⟩
  | succ d ih =>
    intro w k c hk hw h11 hv
    obtain ⟨w, rfl⟩ : ∃ z, w = z + 1 := ⟨w - 1, by omega⟩
    rw [F_X5_bind_78, if_neg (nI_ge (by omega) (by omega)), h11, wr_in _ _ (by omega) (by omega), bd_r]
    obtain ⟨c1, hc1⟩ : ∃ c1, sA c 33 (upd (gA c 33) (b + k) (-9)) = c1 := ⟨_, rfl⟩
    have g1 : gF c1 11 = nI (b + k) := by rw [← hc1]; exact h11
    rw [hc1, g1, wr_in _ _ (by omega) (by omega), nI_1, bd_r]
    obtain ⟨c2, hc2⟩ : ∃ c2, sA c1 35 (upd (gA c1 35) (b + k) (nI (b + k + 1))) = c2 := ⟨_, rfl⟩
    have g2 : gF c2 11 = nI (b + k) := by rw [← hc2]; exact g1
    have v2 : gA c2 36 x = nI v := by rw [← hc2, ← hc1]; exact hv
    rw [hc2, rd_in _ (by omega) (by omega), v2, bd_r, g2, wr_in _ _ (by omega) (by omega), bd_r]
    obtain ⟨c3, hc3⟩ : ∃ c3, sA c2 36 (upd (gA c2 36) (b + k) (nI v)) = c3 := ⟨_, rfl⟩
    have g3 : gF c3 11 = nI (b + k) := by rw [← hc3]; exact g2
    rw [hc3, g3, nI_1, bd_r, nI_1]
    obtain ⟨c4, hc4⟩ : ∃ c4, sF c3 11 (nI (b + k + 1)) = c4 := ⟨_, rfl⟩
    rw [hc4]
    have b33 : gA c4 33 = upd (gA c 33) (b + k) (-9) := by rw [← hc4, ← hc3, ← hc2, ← hc1]; rfl
    have b35 : gA c4 35 = upd (gA c 35) (b + k) (nI (b + k + 1)) := by rw [← hc4, ← hc3, ← hc2, ← hc1]; rfl
    have b36 : gA c4 36 = upd (gA c 36) (b + k) (nI v) := by rw [← hc4, ← hc3, ← hc2, ← hc1]; rfl
    have a4 : ∀ j, j ≠ 33 → j ≠ 35 → j ≠ 36 → gA c4 j = gA c j := fun j j1 j2 j3 => by rw [← hc4, gA_sF, ← hc3, gA_sA, if_neg j3, ← hc2, gA_sA, if_neg j2, ← hc1, gA_sA, if_neg j1]
    obtain ⟨c', r1, r2, r3, r4, r5, r6⟩ := ih w (k + 1) c4 (by omega) (by omega) (by rw [← hc4]; rfl) (by rw [b36, upd_n _ _ (by omega)]; exact hv)
    refine ⟨c', r1, r2, fun j j1 => ?_, fun j j1 j2 j3 => by rw [r4 j j1 j2 j3, a4 j j1 j2 j3], fun y h1 h2 => ?_, fun j y hy => ?_⟩
    · rw [r3 j j1, ← hc4, gF_sF, if_neg j1, ← hc3, ← hc2, ← hc1]; rfl
    · by_cases hy : y = b + k
      · rw [r6 33 y (by omega), r6 35 y (by omega), r6 36 y (by omega), b33, b35, b36, hy, upd_s, upd_s, upd_s]
        exact ⟨rfl, rfl, rfl⟩
      · exact r5 y (by omega) h2
    · rw [r6 j y (by omega)]
      by_cases j1 : j = 33
      · rw [j1, b33, upd_n _ _ (by omega)]
      · by_cases j2 : j = 35
        · rw [j2, b35, upd_n _ _ (by omega)]
        · by_cases j3 : j = 36
          · rw [j3, b36, upd_n _ _ (by omega)]
          · rw [a4 j j1 j2 j3]
/-- beside the terms all stays -/
def FrB (c c' : St) : Prop := (∀ j, j < 11 ∨ 13 < j → gF c' j = gF c j) ∧ ∀ j, j < 33 ∨ j = 37 ∨ 38 < j → gA c' j = gA c j
theorem FrB.refl (c : St) : FrB c c := ⟨fun _ _ => rfl, fun _ _ => rfl⟩
theorem FrB.trans {a b c : St} (h : FrB a b) (h2 : FrB b c) : FrB a c := ⟨fun j j1 => by rw [h2.1 j j1, h.1 j j1], fun j j1 => by rw [h2.2 j j1, h.2 j j1]⟩
theorem lk_snoc_ne {β : Bd} {x i t : Nat} (ht : t ≠ x) : lk ar (β ++ [(x, i)]) (8 + n) t = lk ar β (8 + n) t := by
  rw [lk_app]
  cases lk ar β (8 + n) t with
  | none => dsimp only; rw [if_neg (fun z => ht z.symm)]
  | some r => rfl
theorem bind_eq {β : Bd} {c : St} (hT : RwT n rw) (hP : PaC N ar A c) (hB : BW n N ar β) (hC : CT n rw en ar β c) {x i : Nat} (hx : nmId n ar β x) (hfree : lk ar β (8 + n) x = none) (hi : i < N) (hl : β.length < 160) :
    ∃ c', F_X5_bind (nI x) (nI i) c = some (0, c') ∧ CT n rw en ar (β ++ [(x, i)]) c' ∧ FrB c c' := by
  have hn := hT.1
  have hai := (hP.2.1 i hi).1
  obtain ⟨v1, v2, v3, v4⟩ := Vl_facts hT β hB (fun c hc => (hP.2.1 c hc).1)
  have hxb : x < 8 + n + sz ar β := by rcases hx with q | q <;> omega
  obtain ⟨c1, c2, c3, c4, c5, c6, c7⟩ := hC
  obtain ⟨b, hb⟩ : ∃ b, 8 + n + sz ar β = b := ⟨_, rfl⟩
  rw [hb] at c1 c6 hxb v1
  unfold F_X5_bind
  rw [parts_eq hP hi, bo_s, c2, if_neg (show ¬ (160 : Int32) ≤ _ from nI_ge (b := 160) hl (by omega)), c1, nI_add, if_pos (show nI (b + ar i) ≤ 808 from nI_le (b := 808) (by omega) (by omega)), wr_in _ _ hl (by omega), bd_r]
  obtain ⟨s1, hs1⟩ : ∃ s1, sA c 38 (upd (gA c 38) β.length (nI x)) = s1 := ⟨_, rfl⟩
  have g1 : gF s1 12 = nI β.length := by rw [← hs1]; exact c2
  rw [hs1, g1, nI_1, bd_r]
  obtain ⟨s2, hs2⟩ : ∃ s2, sF s1 12 (nI (β.length + 1)) = s2 := ⟨_, rfl⟩
  rw [hs2, wr_in _ _ (by omega) (by omega), bd_r]
  obtain ⟨s3, hs3⟩ : ∃ s3, sA s2 33 (upd (gA s2 33) x (nI i)) = s3 := ⟨_, rfl⟩
  have g3 : gF s3 11 = nI b := by rw [← hs3, ← hs2, ← hs1]; exact c1
  rw [hs3, g3, wr_in _ _ (by omega) (by omega), bd_r]
  obtain ⟨s4, hs4⟩ : ∃ s4, sA s3 34 (upd (gA s3 34) x (nI b)) = s4 := ⟨_, rfl⟩
  have b33 : gA s4 33 = upd (gA c 33) x (nI i) := by rw [← hs4, ← hs3, ← hs2, ← hs1]; rfl
  have b34 : gA s4 34 = upd (gA c 34) x (nI b) := by rw [← hs4, ← hs3, ← hs2, ← hs1]; rfl
  have b38 : gA s4 38 = upd (gA c 38) β.length (nI x) := by rw [← hs4, ← hs3, ← hs2, ← hs1]; rfl
  have a4 : ∀ j, j ≠ 33 → j ≠ 34 → j ≠ 38 → gA s4 j = gA c j := fun j j1 j2 j3 => by rw [← hs4, gA_sA, if_neg j2, ← hs3, gA_sA, if_neg j1, ← hs2, gA_sF, ← hs1, gA_sA, if_neg j3]
  have f4 : ∀ j, j ≠ 12 → gF s4 j = gF c j := fun j j1 => by rw [← hs4, gF_sA, ← hs3, gF_sA, ← hs2, gF_sF, if_neg j1, ← hs1]; rfl
  have f412 : gF s4 12 = nI (β.length + 1) := by rw [← hs4, ← hs3, ← hs2]; rfl
  obtain ⟨v, hv⟩ : ∃ v, (Vl n rw ar β).count x = v := ⟨_, rfl⟩
  have hvx : gA c 36 x = nI v := by rw [(c5 x hx).1, hv]
  obtain ⟨s5, r1, r2, r3, r4, r5, r6⟩ := bind_loop (b := b) (m := ar i) (v := v) (x := x) (by omega) hxb (ar i) 5000 0 s4 (by omega) (by omega) (by rw [f4 11 (by omega)]; exact c1) (by rw [a4 36 (by omega) (by omega) (by omega)]; exact hvx)
  have r1' : F_X5_bind_78 5000 (nI x) (nI (ar i)) 0 s4 = _ := r1
  have h36 : gA s5 36 x = nI v := by rw [r6 36 x (by omega), a4 36 (by omega) (by omega) (by omega)]; exact hvx
  rw [hs4, r1', F_X5_bind_149, rd_in _ (by omega) (by omega), h36, bd_r, r3 13 (by omega), f4 13 (by omega), c3, pk_mul, nI_add, bd_r]
  obtain ⟨j1, j2, j3, j4⟩ := count_ex x b (ar i) 0 hxb _ v1
  have hVl : Vl n rw ar (β ++ [(x, i)]) = (Vl n rw ar β).flatMap (exl x b (ar i)) := by rw [Vl_snoc, hb]
  refine ⟨_, rfl, ⟨?_, ?_, ?_, fun p hp => ?_, fun t ht => ?_, fun t h1 h2 => ?_, fun j y hy => ?_⟩, fun j j1 => ?_, fun j j1 => ?_⟩
  · rw [gF_sF, if_neg (by omega), r2, sz_app, sz_one, ← Nat.add_assoc, hb]
  · rw [gF_sF, if_neg (by omega), r3 12 (by omega), f412, List.length_append]; rfl
  · rw [gF_sF, if_pos rfl, hVl, j3, hv]
  · rw [gA_sF, gA_sF, gA_sF, r6 33 _ (by omega), r4 34 (by omega) (by omega) (by omega), r6 35 _ (by omega), b33, b34, a4 35 (by omega) (by omega) (by omega)]
    have hne : 8 + p ≠ x := by rcases hx with q | q <;> omega
    rw [upd_n _ _ hne, upd_n _ _ hne]
    exact c4 p hp
  · rw [gA_sF, gA_sF, gA_sF, r4 34 (by omega) (by omega) (by omega), b34]
    by_cases htx : t = x
    · subst htx
      obtain ⟨k1, k2, -, -⟩ := count_ex t b (ar i) t hxb _ v1
      rw [r6 36 t (by omega), a4 36 (by omega) (by omega) (by omega), hvx, hVl, k1 hxb, hv, r6 33 t (by omega), b33, upd_s, upd_s]
      have hlk : lk ar (β ++ [(t, i)]) (8 + n) t = some (i, b) := by
        rw [lk_app, hfree]
        dsimp only
        rw [if_pos rfl, hb]
      rw [hlk]
      refine ⟨rfl, fun z => (by cases z), fun i' f' z => ?_⟩
      cases z
      exact ⟨rfl, rfl⟩
    · rw [lk_snoc_ne htx, upd_n _ _ htx]
      obtain ⟨k1, k2, -, -⟩ := count_ex x b (ar i) t hxb _ v1
      by_cases htb : t < b
      · have ht2 : nmId n ar β t := by
          rcases ht with q | q
          · exact Or.inl q
          · exact Or.inr ⟨q.1, by omega⟩
        rw [r6 36 t (by omega), r6 33 t (by omega), a4 36 (by omega) (by omega) (by omega), b33, upd_n _ _ htx, hVl, k1 htb]
        exact c5 t ht2
      · have ht3 : t < b + ar i := by
          rcases ht with q | q
          · omega
          · have := q.2; rw [sz_app, sz_one] at this; omega
        obtain ⟨w1, w2, w3⟩ := r5 t (by omega) ht3
        rw [w1, w3, hVl, k2 (by omega) ht3, hv]
        refine ⟨rfl, fun _ => rfl, fun i' f' z => ?_⟩
        have := hB.lk z
        omega
  · rw [gA_sF]
    by_cases htb : t < b
    · rw [r6 35 t (by omega), a4 35 (by omega) (by omega) (by omega)]
      exact c6 t h1 (by omega)
    · rw [sz_app, sz_one] at h2
      exact (r5 t (by omega) (by omega)).2.1
  · rw [gA_sF, r4 38 (by omega) (by omega) (by omega), b38]
    by_cases hj : j < β.length
    · rw [List.getElem?_append_left hj] at hy
      rw [upd_n _ _ (by omega)]
      exact c7 j y hy
    · rw [List.getElem?_append_right (by omega)] at hy
      have hz : j - β.length < 1 := (List.getElem?_eq_some_iff.mp hy).1
      have hj2 : j = β.length := by omega
      subst hj2
      rw [Nat.sub_self] at hy
      cases hy
      rw [upd_s]
  · rw [gF_sF, if_neg (by omega), r3 j (by omega), f4 j (by omega)]
  · rw [gA_sF, r4 j (by omega) (by omega) (by omega), a4 j (by omega) (by omega) (by omega)]
theorem unbind_one {β : Bd} {c : St} (hT : RwT n rw) (hP : PaC N ar A c) {x i : Nat} (hB : BW n N ar (β ++ [(x, i)])) (hC : CT n rw en ar (β ++ [(x, i)]) c) (hl : β.length < 160) (k : Int32 → Int32 → St → Rs) (K : St → Rs) :
    ∃ c', (bd (rd 160 (gA c 38) (nI β.length)) (fun y3 => bd (rd 808 (gA c 33) y3) (fun y4 => bo (F_X4_parts y4 c) (fun r5 s6 => bd (rd 808 (gA s6 36) y3) (fun y8 => bd (sF s6 13 ((gF c 13) - (r5 * y8))) (fun s9 => bd (rd 808 (gA s9 34) y3) (fun y10 => bd (sF s9 11 y10) (fun s11 => bd (sA s11 33 (wr 808 (gA s11 33) y3 (-9))) (fun s12 => bd (sF s12 12 (nI β.length)) (fun s13 => K s13)))))))))) = K c' ∧ CT n rw en ar β c' ∧ FrB c c' := by
  have hn := hT.1
  obtain ⟨b1, b2, b3⟩ := hB β x i [] rfl
  have hai := (hP.2.1 i b1).1
  obtain ⟨v1, v2, v3, v4⟩ := Vl_facts hT β hB.pre (fun c hc => (hP.2.1 c hc).1)
  obtain ⟨c1, c2, c3, c4, c5, c6, c7⟩ := hC
  have hxb : x < 8 + n + sz ar β := by rcases b3 with q | q <;> omega
  obtain ⟨b, hb⟩ : ∃ b, 8 + n + sz ar β = b := ⟨_, rfl⟩
  have hVl : Vl n rw ar (β ++ [(x, i)]) = (Vl n rw ar β).flatMap (exl x b (ar i)) := by rw [Vl_snoc, hb]
  rw [hb] at hxb v1
  have hlk : lk ar (β ++ [(x, i)]) (8 + n) x = some (i, b) := by
    rw [lk_app, b2]
    dsimp only
    rw [if_pos rfl, hb]
  have hxn : nmId n ar (β ++ [(x, i)]) x := by
    rcases b3 with q | q
    · exact Or.inl q
    · exact Or.inr ⟨q.1, by rw [sz_app]; omega⟩
  obtain ⟨d1, d2, d3⟩ := c5 x hxn
  obtain ⟨d4, d5⟩ := d3 i b hlk
  obtain ⟨k1, k2, k3, k4⟩ := count_ex x b (ar i) x hxb _ v1
  rw [hVl, k1 hxb] at d1
  rw [hVl, k3] at c3
  obtain ⟨v, hv⟩ : ∃ v, (Vl n rw ar β).count x = v := ⟨_, rfl⟩
  rw [hv] at d1 c3
  have h38 : gA c 38 β.length = nI x := c7 β.length (x, i) (by rw [List.getElem?_append_right (Nat.le_refl _), Nat.sub_self]; rfl)
  rw [rd_in _ hl (by omega), h38, bd_r, rd_in _ (by omega) (by omega), d4, bd_r, parts_eq hP b1, bo_s, rd_in _ (by omega) (by omega), d1, bd_r, c3, pk_mul, pk_sub (by omega), show (Vl n rw ar β).length + ar i * v - ar i * v = (Vl n rw ar β).length by omega, bd_r]
  obtain ⟨s1, hs1⟩ : ∃ s1, sF c 13 (nI (Vl n rw ar β).length) = s1 := ⟨_, rfl⟩
  have e34 : gA s1 34 x = nI b := by rw [← hs1]; exact d5
  rw [hs1, rd_in _ (by omega) (by omega), e34, bd_r, bd_r]
  obtain ⟨s2, hs2⟩ : ∃ s2, sF s1 11 (nI b) = s2 := ⟨_, rfl⟩
  rw [hs2, wr_in _ _ (by omega) (by omega), bd_r, bd_r]
  refine ⟨_, rfl, ⟨?_, rfl, ?_, fun p hp => ?_, fun t ht => ?_, fun t h1 h2 => ?_, fun j y hy => ?_⟩, fun j j1 => ?_, fun j j1 => ?_⟩
  · rw [gF_sF, if_neg (by omega), gF_sA, ← hs2, hb]; rfl
  · rw [gF_sF, if_neg (by omega), gF_sA, ← hs2, gF_sF, if_neg (by omega), ← hs1]; rfl
  · have hne : 8 + p ≠ x := by rcases b3 with q | q <;> omega
    rw [gA_sF, gA_sA_s, upd_n _ _ hne, ← hs2, ← hs1]
    exact c4 p hp
  · have ht2 : nmId n ar (β ++ [(x, i)]) t := by
      rcases ht with q | q
      · exact Or.inl q
      · exact Or.inr ⟨q.1, by rw [sz_app]; omega⟩
    have htb : t < b := by rcases ht with q | q <;> omega
    obtain ⟨q1, -, -, -⟩ := count_ex x b (ar i) t hxb _ v1
    obtain ⟨e1, e2, e3⟩ := c5 t ht2
    rw [hVl, q1 htb] at e1
    have w33 : gA (sF (sA s2 33 (upd (gA s2 33) x (-9))) 12 (nI β.length)) 33 = upd (gA c 33) x (-9) := by rw [← hs2, ← hs1]; rfl
    have w34 : gA (sF (sA s2 33 (upd (gA s2 33) x (-9))) 12 (nI β.length)) 34 = gA c 34 := by rw [← hs2, ← hs1]; rfl
    have w36 : gA (sF (sA s2 33 (upd (gA s2 33) x (-9))) 12 (nI β.length)) 36 = gA c 36 := by rw [← hs2, ← hs1]; rfl
    rw [w33, w34, w36]
    by_cases htx : t = x
    · subst htx
      rw [upd_s, b2]
      exact ⟨e1, fun _ => rfl, fun i' f' z => by cases z⟩
    · rw [upd_n _ _ htx]
      rw [lk_snoc_ne htx] at e2 e3
      exact ⟨e1, e2, e3⟩
  · rw [gA_sF, gA_sA, if_neg (by omega), ← hs2, ← hs1]
    exact c6 t h1 (by rw [sz_app]; omega)
  · rw [gA_sF, gA_sA, if_neg (by omega), ← hs2, ← hs1]
    have hj : j < β.length := (List.getElem?_eq_some_iff.mp hy).1
    exact c7 j y (by rw [List.getElem?_append_left hj]; exact hy)
  · rw [gF_sF, if_neg (by omega), gF_sA, ← hs2, gF_sF, if_neg (by omega), ← hs1, gF_sF, if_neg (by omega)]
  · rw [gA_sF, gA_sA, if_neg (by omega), ← hs2, ← hs1]; rfl
theorem unbind_eq {β0 : Bd} (hT : RwT n rw) : ∀ (γ : Bd) (c : St), PaC N ar A c → BW n N ar (β0 ++ γ) → CT n rw en ar (β0 ++ γ) c → (β0 ++ γ).length ≤ 160 → ∃ c', F_X5_unbindTo (nI β0.length) c = some (0, c') ∧ CT n rw en ar β0 c' ∧ FrB c c' := by
  have key : ∀ (d w : Nat) (γ : Bd) (c : St), γ.length = d → d < w → PaC N ar A c → BW n N ar (β0 ++ γ) → CT n rw en ar (β0 ++ γ) c → (β0 ++ γ).length ≤ 160 → ∃ c', F_X5_unbindTo_7 w (nI β0.length) (hI (β0.length + d)) c = some (0, c') ∧ CT n rw en ar β0 c' ∧ FrB c c' := by
    intro d
    induction d with
    | zero =>
      intro w γ c hγ hw hP hB hC hl
      obtain ⟨w, rfl⟩ : ∃ z, w = z + 1 := ⟨w - 1, by omega⟩
      have : γ = [] := List.eq_nil_of_length_eq_zero hγ
      subst this
      rw [List.append_nil] at hC hl
      refine ⟨c, ?_, hC, FrB.refl c⟩
      rw [F_X5_unbindTo_7, Nat.add_zero]
      cases h0 : β0.length with
      | zero => rw [if_pos (by decide)]
      | succ k => rw [hI_s, if_pos (nI_lt (by omega) (by omega))]
    | succ d ih =>
      intro w γ c hγ hw hP hB hC hl
      obtain ⟨w, rfl⟩ : ∃ z, w = z + 1 := ⟨w - 1, by omega⟩
      rcases List.eq_nil_or_concat γ with z | ⟨γ', y, z⟩
      · subst z; cases hγ
      · subst z
        obtain ⟨x, i⟩ := y
        rw [List.concat_eq_append] at hγ hB hC hl
        rw [List.length_append] at hγ
        rw [← List.append_assoc] at hB hC hl
        have hg : γ'.length = d := by simpa using hγ
        have hbl : (β0 ++ γ').length = β0.length + d := by rw [List.length_append, hg]
        rw [List.length_append] at hl
        obtain ⟨c1, e1, e2, e3⟩ := unbind_one hT hP hB hC (by simp at hl ⊢; omega) (fun _ _ _ => none) (F_X5_unbindTo_7 w (nI β0.length) (hI (β0.length + d)))
        rw [hbl] at e1
        have hll : β0.length + d < 161 := by rw [← hbl]; simp at hl; omega
        obtain ⟨c', r1, r2, r3⟩ := ih w γ' c1 hg (by omega) (hP.kept (e3.1 3 (by omega)) (e3.2 10 (by omega))) hB.pre e2 (by rw [hbl]; omega)
        refine ⟨c', ?_, r2, e3.trans r3⟩
        rw [F_X5_unbindTo_7, show β0.length + (d + 1) = (β0.length + d) + 1 by omega, hI_s, if_neg (nI_nlt (by omega) (by omega)), if_neg (nI_pos (by omega)), show nI (β0.length + d) + (-1) = hI (β0.length + d) by rw [← hI_s, hI_m1], e1]
        exact r1
  intro γ c hP hB hC hl
  unfold F_X5_unbindTo
  rw [hC.2.1, sub_hI, bd_r, List.length_append]
  exact key γ.length 5000 γ c rfl (by rw [List.length_append] at hl; omega) hP hB hC hl
end
