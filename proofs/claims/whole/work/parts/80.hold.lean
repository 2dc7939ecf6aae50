/-! what the reference holds, step by step -/
theorem nN_gF (m : St) (k : Nat) (a b c d : Int32) {j : Nat} (h : j < 10 ∨ 13 < j) : gF (nN m k a b c d) j = gF m j := by
  unfold nN aN
  simp only [gF_sF, gF_sA]
  rw [if_neg (by omega), if_neg (by omega), if_neg (by omega), if_neg (by omega)]
theorem nN_gA (m : St) (k : Nat) (a b c d : Int32) {j : Nat} (h : j < 19 ∨ 25 < j) : gA (nN m k a b c d) j = gA m j := by
  unfold nN aN
  simp only [gA_sF, gA_sA]
  rw [if_neg (by omega), if_neg (by omega), if_neg (by omega), if_neg (by omega), if_neg (by omega), if_neg (by omega), if_neg (by omega)]
theorem Hold.or {m : St} {X : List Nd} (h : Hold m X) (hX : X.length < 4000) (hm : mxN X < 4000) {d : Nat} (lab : Int32) (hd : d < 4000) : Hold (nN m X.length 2 0 lab (nI d)) (X ++ [(2, 0, 0, 0, lab, d)]) := by
  obtain ⟨h1, h2, h3, h4, h5⟩ := h
  refine ⟨?_, ?_, ?_, ?_, ?_⟩
  · show nI (X.length + 1) = _
    rw [List.length_append]
    rfl
  · show gF m 11 + 1 = _
    rw [h2, cntN_app]
    exact nI_1 _
  · show gF m 12 + 0 = _
    rw [h3, cntN_app]
    exact nI_add _ 0
  · show (if gF m 13 < nI d then nI d else gF m 13) = _
    rw [h4, mx_step (by omega) (by omega), mxN_app]
    show nI (max (mxN X) d) = nI (max (mxN X) (max d 0))
    rw [Nat.max_eq_left (Nat.zero_le d)]
  · intro i x hx
    by_cases hi : i < X.length
    · rw [List.getElem?_append_left hi] at hx
      exact (h5 i x hx).kept (fun j _ _ => aN_at m X.length 2 0 lab (nI d) (j := j) (by omega))
    · rw [List.getElem?_append_right (by omega)] at hx
      have hz : i - X.length < 1 := (List.getElem?_eq_some_iff.mp hx).1
      have hi2 : i = X.length := by omega
      subst hi2
      rw [Nat.sub_self] at hx
      cases hx
      exact ⟨upd_s _ _ _, upd_s _ _ _, upd_s _ _ _, upd_s _ _ _, upd_s _ _ _, upd_s _ _ _, upd_s _ _ _⟩
/-- a branch: node, then its rule and spot -/
theorem Hold.branch {m : St} {X : List Nd} (h : Hold m X) (hX : X.length < 4000) (hm : mxN X < 4000) {d : Nat} (lab : Int32) (hd : d < 4000) (r q : Nat) :
    Hold (sA (sA (nN m X.length 1 0 lab (nI d)) 21 (upd (gA (nN m X.length 1 0 lab (nI d)) 21) X.length (nI r))) 22 (upd (gA (nN m X.length 1 0 lab (nI d)) 22) X.length (nI q))) (X ++ [(1, r, q, 0, lab, d)]) := by
  obtain ⟨h1, h2, h3, h4, h5⟩ := h
  refine ⟨?_, ?_, ?_, ?_, ?_⟩
  · show nI (X.length + 1) = _
    rw [List.length_append]
    rfl
  · show gF m 11 + 0 = _
    rw [h2, cntN_app]
    exact nI_add _ 0
  · show gF m 12 + 1 = _
    rw [h3, cntN_app]
    exact nI_1 _
  · show (if gF m 13 < nI d then nI d else gF m 13) = _
    rw [h4, mx_step (by omega) (by omega), mxN_app]
    show nI (max (mxN X) d) = nI (max (mxN X) (max d 0))
    rw [Nat.max_eq_left (Nat.zero_le d)]
  · intro i x hx
    by_cases hi : i < X.length
    · rw [List.getElem?_append_left hi] at hx
      refine (h5 i x hx).kept (fun j _ _ => ?_)
      have e := aN_at m X.length 1 0 lab (nI d) (i := i) (j := j) (by omega)
      simp only [gA_sA]
      by_cases j2 : j = 22
      · subst j2
        rw [if_pos rfl, upd_n _ _ (by omega)]
        exact e
      · rw [if_neg j2]
        by_cases j1 : j = 21
        · subst j1
          rw [if_pos rfl, upd_n _ _ (by omega)]
          exact e
        · rw [if_neg j1]
          exact e
    · rw [List.getElem?_append_right (by omega)] at hx
      have hz : i - X.length < 1 := (List.getElem?_eq_some_iff.mp hx).1
      have hi2 : i = X.length := by omega
      subst hi2
      rw [Nat.sub_self] at hx
      cases hx
      exact ⟨upd_s _ _ _, upd_s _ _ _, upd_s _ _ _, upd_s _ _ _, upd_s _ _ _, upd_s _ _ _, upd_s _ _ _⟩
/-- how many children a node has, set anew -/
theorem Hold.kids {m : St} {X Y : List Nd} {a b c e : Nat} {lab : Int32} {d : Nat} (h : Hold m (X ++ (a, b, c, d, lab, e) :: Y)) (n : Nat) :
    Hold (sA m 23 (upd (gA m 23) X.length (nI n))) (X ++ (a, b, c, n, lab, e) :: Y) := by
  obtain ⟨h1, h2, h3, h4, h5⟩ := h
  have hc : ∀ k, cntN k (X ++ (a, b, c, n, lab, e) :: Y) = cntN k (X ++ (a, b, c, d, lab, e) :: Y) := by
    intro k
    rw [cntN_app, cntN_app]
    congr 1
    unfold cntN
    by_cases z : a = k <;> simp [z]
  have hmx : mxN (X ++ (a, b, c, n, lab, e) :: Y) = mxN (X ++ (a, b, c, d, lab, e) :: Y) := by
    rw [mxN_app, mxN_app]
    rfl
  refine ⟨?_, ?_, ?_, ?_, ?_⟩
  · show gF m 10 = _
    rw [h1]
    simp
  · show gF m 11 = _
    rw [h2, hc]
  · show gF m 12 = _
    rw [h3, hc]
  · show gF m 13 = _
    rw [h4, hmx]
  · intro i x hx
    by_cases hi : i = X.length
    · subst hi
      have h6 := h5 X.length (a, b, c, d, lab, e) (by rw [List.getElem?_append_right (Nat.le_refl _), Nat.sub_self]; rfl)
      rw [List.getElem?_append_right (Nat.le_refl _), Nat.sub_self] at hx
      cases hx
      obtain ⟨k1, k2, k3, k4, k5, k6, k7⟩ := h6
      exact ⟨k1, k2, k3, k4, upd_s _ _ _, k6, k7⟩
    · have hx2 : (X ++ (a, b, c, d, lab, e) :: Y)[i]? = some x := by
        by_cases hl : i < X.length
        · rw [List.getElem?_append_left hl] at hx ⊢
          exact hx
        · rw [List.getElem?_append_right (by omega)] at hx ⊢
          obtain ⟨z, hz⟩ : ∃ z, i - X.length = z + 1 := ⟨i - X.length - 1, by omega⟩
          rw [hz] at hx ⊢
          exact hx
      refine (h5 i x hx2).kept (fun j _ _ => ?_)
      simp only [gA_sA]
      by_cases j2 : j = 23
      · subst j2
        rw [if_pos rfl, upd_n _ _ hi]
      · rw [if_neg j2]
/-- leaves of an or, one behind the other -/
theorem leaves_loop (rc : Int32 → Int32 → Int32 → Int32 → St → Rs) {a : Nat} {g : List Nat} {k dep : Nat} (hE : a + g.length ≤ 4800) (hd : dep + 1 < 4000) :
    ∀ (d w i : Nat) (m : St) (X : List Nd), i + d = g.length → d < w → seg (gA m 17) a g → Hold m X → X.length + d < 4000 → mxN X < 4000 →
      ∃ m', F_X9_laid_101 rc w (nI a) (nI g.length) (nI dep) (nI k) (nI (a + i)) m = F_X9_laid_133 rc (nI g.length) (nI k) m' ∧ Hold m' (X ++ (g.drop i).map fun r => (0, r, 0, 0, -1, dep + 1)) ∧ (∀ j, j < 10 ∨ 13 < j → gF m' j = gF m j) ∧ (∀ j, j < 19 ∨ 25 < j → gA m' j = gA m j) := by
  intro d
  induction d with
  | zero =>
    intro w i m X hi hw hg hH hX hm
    obtain ⟨w, rfl⟩ : ∃ z, w = z + 1 := ⟨w - 1, by omega⟩
    refine ⟨m, ?_, ?_, fun _ _ => rfl, fun _ _ => rfl⟩
    · rw [F_X9_laid_101, nI_add, if_pos (nI_le (by omega) (by omega))]
    · rw [List.drop_eq_nil_of_le (by omega), List.map_nil, List.append_nil]
      exact hH
  | succ d ih =>
    intro w i m X hi hw hg hH hX hm
    obtain ⟨w, rfl⟩ : ∃ z, w = z + 1 := ⟨w - 1, by omega⟩
    have hil : i < g.length := by omega
    obtain ⟨r, hr⟩ : ∃ r, nth g i = r := ⟨_, rfl⟩
    have hset : gA m 17 (a + i) = nI r := by rw [hg i hil, hr]
    have hH2 := hH.leaf (by omega) hm (r := r) (d := dep + 1) (-1) hd
    have hmx : mxN (X ++ [(0, r, 0, 0, -1, dep + 1)]) < 4000 := by
      rw [mxN_app]
      show max (mxN X) (max (dep + 1) 0) < 4000
      omega
    obtain ⟨m', e1, e2, e3, e4⟩ := ih w (i + 1) (nN m X.length 0 (nI r) (-1) (nI (dep + 1))) _ (by omega) (by omega) (by rw [nN_gA _ _ _ _ _ _ (by omega)]; exact hg) hH2 (by simp; omega) hmx
    refine ⟨m', ?_, ?_, fun j hj => ?_, fun j hj => ?_⟩
    · rw [F_X9_laid_101, nI_add, if_neg (nI_ge (by omega) (by omega)), ck_in (by omega) (by omega), bd_r, nI_clamp (by omega), hset, nI_1, node_eq 0 (nI r) (-1) (nI (dep + 1)) hH.1 (by omega), bo_s, nI_1]
      exact e1
    · rw [List.drop_eq_getElem_cons hil, ← gD hil, hr, List.map_cons]
      rw [List.append_assoc] at e2
      exact e2
    · rw [e3 j hj, nN_gF _ _ _ _ _ _ hj]
    · rw [e4 j hj, nN_gA _ _ _ _ _ _ hj]
