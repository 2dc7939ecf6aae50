/-! what is told: free names get numbers as they come -/
def num1 (n : Nat) (rw : Nat → Int32) (ar : Nat → Nat) (β : Bd) (seen : List Nat) (t : Nat) : Int32 × List Nat := match cn n rw ar β t with
  | some i => (nI i, seen)
  | none => if t ∈ seen then (-(nI (seen.idxOf t + 1)), seen) else (-(nI (seen.length + 1)), seen ++ [t])
def nmb (n : Nat) (rw : Nat → Int32) (ar : Nat → Nat) (β : Bd) : List Nat → List Nat → List Int32
  | _, [] => []
  | seen, t :: L => (num1 n rw ar β seen t).1 :: nmb n rw ar β (num1 n rw ar β seen t).2 L
theorem nmb_len (n : Nat) (rw : Nat → Int32) (ar : Nat → Nat) (β : Bd) : ∀ (L seen : List Nat), (nmb n rw ar β seen L).length = L.length := by
  intro L
  induction L with
  | nil => intro seen; rfl
  | cons t L ih => intro seen; rw [nmb, List.length_cons, ih, List.length_cons]
theorem neg_ne0 {k : Nat} (h0 : 0 < k) (h : k < 2 ^ 31) : ¬ -(nI k) = 0 := by
  intro z
  have h1 : -(-(nI k)) = -0 := by rw [z]
  rw [Int32.neg_neg] at h1
  exact nI_ne0 h0 h h1
section
variable {n N A : Nat} {rw : Nat → Int32} {en : Nat → Nat} {ar : Nat → Nat} {β : Bd}
/-- the numbers of the free names -/
def AlC (seen : List Nat) (f : Nat → Int32) : Prop := ∀ t, t < 808 → f t = if t ∈ seen then -(nI (seen.idxOf t + 1)) else 0
theorem write_loop (hW : TmW n N A rw en ar) (hN : N ≤ 60) (har : ∀ c, c < N → ar c ≤ 4) (hB : BW n N ar β) (hb : 8 + n + sz ar β ≤ 808) {fr len : Nat} (hlen : len ≤ 400) (hfr : fr + 400 ≤ 9600) (hVl : (Vl n rw ar β).length = len) :
    ∀ (L X seen : List Nat) (i w : Nat) (c : St), Vs n rw en ar β (X.map (can n rw)) L → (∀ x, x ∈ X → Raw n ar β x) → i + L.length = len → L.length < w → seen.length ≤ i → PaC N ar A c → CT n rw en ar β c → UnC X c → AlC seen (gA c 37) → gF c 16 = nI 9600 →
    ∃ c', F_X5_write_32 w (nI fr) (nI seen.length) (nI i) c = some (0, c') ∧ (∀ j v, (nmb n rw ar β seen L)[j]? = some v → gA c' 48 (fr + i + j) = v) ∧ (∀ y, y < fr + i ∨ fr + i + L.length ≤ y → gA c' 48 y = gA c 48 y) ∧ (∀ j, j ≠ 14 → gF c' j = gF c j) ∧ ∀ j, j ≠ 37 → j ≠ 39 → j ≠ 48 → gA c' j = gA c j := by
  intro L
  induction L with
  | nil =>
    intro X seen i w c hV hX hi hw hse hP hC hU hA h16
    obtain ⟨w, rfl⟩ : ∃ z, w = z + 1 := ⟨w - 1, by omega⟩
    have hi' : i = len := by simpa using hi
    rw [F_X5_write_32, hC.2.2.1, hVl, if_pos (nI_le (by omega) (by omega))]
    exact ⟨c, rfl, fun j v hv => by simp [nmb] at hv, fun _ _ => rfl, fun _ _ => rfl, fun _ _ _ _ => rfl⟩
  | cons t L ih =>
    intro X seen i w c hV hX hi hw hse hP hC hU hA h16
    obtain ⟨w, rfl⟩ : ∃ z, w = z + 1 := ⟨w - 1, by omega⟩
    rw [List.length_cons] at hi hw
    have hsl := Vs.len _ _ hV
    rw [List.length_map, List.length_cons] at hsl
    obtain ⟨S', e1, e2⟩ := hV
    cases X with
    | nil => cases e1
    | cons x X =>
      rw [List.map_cons] at e1
      injection e1 with e3 e4
      rw [← e4] at e2
      have hxr := hX x List.mem_cons_self
      have hvid := can_VId hW hxr
      rw [e3] at hvid
      have hlt := VId_lt hvid
      obtain ⟨u1, u2⟩ := hU
      rw [List.length_cons] at u1 hsl
      have ux := u2 0 x rfl
      rw [show (x :: X).length - 1 - 0 = X.length by simp] at ux
      rw [F_X5_write_32, hC.2.2.1, hVl, if_neg (nI_ge (by omega) (by omega)), u1, if_neg (nI_nle (by omega) (by omega)), sub1, bd_r]
      obtain ⟨c1, hc1⟩ : ∃ c1, sF c 14 (nI X.length) = c1 := ⟨_, rfl⟩
      have f1 : ∀ j, j ≠ 14 → gF c1 j = gF c j := fun j j1 => by rw [← hc1, gF_sF, if_neg j1]
      have a1 : ∀ j, gA c1 j = gA c j := fun j => by rw [← hc1]; rfl
      have g14 : gF c1 14 = nI X.length := by rw [← hc1]; rfl
      have hC1 : CT n rw en ar β c1 := hC.kept (fun j j1 j2 => f1 j (by omega)) (fun j _ => a1 j)
      have hP1 : PaC N ar A c1 := hP.kept (f1 3 (by omega)) (a1 10)
      have hU1 : UnC X c1 := ⟨g14, fun j y hy => by
        have hj : j < X.length := (List.getElem?_eq_some_iff.mp hy).1
        rw [a1, ← u2 (j + 1) y hy]
        congr 1
        simp
        omega⟩
      rw [hc1, g14, rd_in _ (by omega) (by omega), a1, ux, bd_r, meant_eq hW hN hB hC1 hb hxr, bo_s, e3, rd_in _ (by omega) (by omega), head_eq hC1 hvid, bd_r]
      have hwr : ∀ (v : Int32) (c2 : St) (seen' : List Nat), gF c2 16 = nI 9600 → (∃ X', Vs n rw en ar β (X'.map (can n rw)) L ∧ (∀ x, x ∈ X' → Raw n ar β x) ∧ UnC X' c2) → seen'.length ≤ i + 1 → PaC N ar A c2 → CT n rw en ar β c2 → AlC seen' (gA c2 37) → (∀ j, j ≠ 14 → gF c2 j = gF c j) → (∀ j, j ≠ 37 → j ≠ 39 → gA c2 j = gA c j) →
          ∃ c', F_X5_write_166 (F_X5_write_32 w) (nI fr) (nI seen'.length) (nI i) v (nI (fr + i)) c2 = some (0, c') ∧ (∀ j u, (v :: nmb n rw ar β seen' L)[j]? = some u → gA c' 48 (fr + i + j) = u) ∧ (∀ y, y < fr + i ∨ fr + i + (L.length + 1) ≤ y → gA c' 48 y = gA c 48 y) ∧ (∀ j, j ≠ 14 → gF c' j = gF c j) ∧ ∀ j, j ≠ 37 → j ≠ 39 → j ≠ 48 → gA c' j = gA c j := by
        intro v c2 seen' k16 kV kse kP kC kA kf ka
        obtain ⟨X', v1, v2, v3⟩ := kV
        rw [F_X5_write_166, k16, nI_clamp (by omega), wr_in _ _ (by omega) (by omega), bd_r, nI_1]
        obtain ⟨c3, hc3⟩ : ∃ c3, sA c2 48 (upd (gA c2 48) (fr + i) v) = c3 := ⟨_, rfl⟩
        have a3 : ∀ j, j ≠ 48 → gA c3 j = gA c2 j := fun j j1 => by rw [← hc3, gA_sA, if_neg j1]
        have f3 : ∀ j, gF c3 j = gF c2 j := fun j => by rw [← hc3]; rfl
        have a48 : gA c3 48 = upd (gA c2 48) (fr + i) v := by rw [← hc3]; exact gA_sA_s _ _ _
        rw [hc3]
        obtain ⟨c', r1, r2, r3, r4, r5⟩ := ih X' seen' (i + 1) w c3 v1 v2 (by omega) (by omega) kse (kP.kept (f3 3) (a3 10 (by omega))) (kC.kept (fun j _ _ => f3 j) (fun j j1 => a3 j (by omega))) ⟨by rw [f3]; exact v3.1, fun j y hy => by rw [a3 39 (by omega)]; exact v3.2 j y hy⟩ (by rw [a3 37 (by omega)]; exact kA) (by rw [f3]; exact k16)
        refine ⟨c', r1, fun j u hu => ?_, fun y hy => ?_, fun j j1 => by rw [r4 j j1, f3, kf j j1], fun j j1 j2 j3 => by rw [r5 j j1 j2 j3, a3 j j3, ka j j1 j2]⟩
        · cases j with
          | zero =>
            cases hu
            rw [r3 _ (by omega), a48, Nat.add_zero, upd_s]
          | succ j =>
            have := r2 j u hu
            rw [show fr + i + (j + 1) = fr + (i + 1) + j by omega]
            exact this
        · rw [r3 y (by omega), a48, upd_n _ _ (by omega), ka 48 (by omega) (by omega)]
      rw [List.length_cons]
      cases hz : cn n rw ar β t with
      | none =>
        dsimp only
        rw [if_pos (by decide), rd_in _ (by omega) (by omega), a1, hA t (by omega), bd_r]
        have hkd : kd n rw en ar β t = [] := by unfold kd; rw [hz]
        rw [hkd, List.nil_append] at e2
        by_cases hm : t ∈ seen
        · have hix : seen.idxOf t < seen.length := List.idxOf_lt_length_of_mem hm
          have hn1 : num1 n rw ar β seen t = (-(nI (seen.idxOf t + 1)), seen) := by unfold num1; rw [hz]; dsimp only; rw [if_pos hm]
          rw [if_pos hm, if_neg (neg_ne0 (by omega) (by omega)), F_X5_write_142, if_pos (by decide), rd_in _ (by omega) (by omega), a1, hA t (by omega), if_pos hm, bd_r, nI_add, nmb, hn1]
          exact hwr _ c1 seen (by rw [f1 16 (by omega)]; exact h16) ⟨X, e2, fun y hy => hX y (List.mem_cons_of_mem _ hy), hU1⟩ (by omega) hP1 hC1 (by rw [a1]; exact hA) f1 (fun j _ _ => a1 j)
        · have hn1 : num1 n rw ar β seen t = (-(nI (seen.length + 1)), seen ++ [t]) := by unfold num1; rw [hz]; dsimp only; rw [if_neg hm]
          rw [if_neg hm, if_pos rfl, nI_1, wr_in _ _ (by omega) (by omega), bd_r]
          obtain ⟨c2, hc2⟩ : ∃ c2, sA c1 37 (upd (gA c 37) t (-(nI (seen.length + 1)))) = c2 := ⟨_, rfl⟩
          have a2 : ∀ j, j ≠ 37 → gA c2 j = gA c1 j := fun j j1 => by rw [← hc2, gA_sA, if_neg j1]
          have f2 : ∀ j, gF c2 j = gF c1 j := fun j => by rw [← hc2]; rfl
          have a37 : gA c2 37 = upd (gA c 37) t (-(nI (seen.length + 1))) := by rw [← hc2, gA_sA_s]
          have h37 : gA c2 37 t = -(nI (seen.length + 1)) := by rw [a37, upd_s]
          have hsl2 : (seen ++ [t]).length = seen.length + 1 := by simp
          rw [hc2, F_X5_write_142, if_pos (by decide), rd_in _ (by omega) (by omega), h37, bd_r, nI_add, nmb, hn1]
          have := hwr (-(nI (seen.length + 1))) c2 (seen ++ [t]) (by rw [f2, f1 16 (by omega)]; exact h16) ⟨X, e2, fun y hy => hX y (List.mem_cons_of_mem _ hy), by rw [f2]; exact hU1.1, fun j y hy => by rw [a2 39 (by omega)]; exact hU1.2 j y hy⟩ (by omega) (hP1.kept (f2 3) (a2 10 (by omega))) (hC1.kept (fun j _ _ => f2 j) (fun j j1 => a2 j (by omega))) (by
            intro y hy
            rw [a37]
            by_cases hyt : y = t
            · subst hyt
              rw [upd_s, if_pos (by simp), List.idxOf_append, if_neg hm]
              simp
            · rw [upd_n _ _ hyt, hA y hy]
              by_cases hys : y ∈ seen
              · rw [if_pos hys, if_pos (List.mem_append_left _ hys), List.idxOf_append, if_pos hys]
              · rw [if_neg hys, if_neg (by simp [hys, hyt])]) (fun j j1 => by rw [f2, f1 j j1]) (fun j j1 j2 => by rw [a2 j j1, a1])
          rw [hsl2] at this
          exact this
      | some i0 =>
        dsimp only
        have hi0 := cn_lt hW hN hB hvid hz
        have hai := har i0 hi0
        obtain ⟨p1, p2, p3⟩ := rch_facts hW hN hB hC1 hb hvid hz
        have hkd : kd n rw en ar β t = ((List.range (ar i0)).map (rch n en ar β t)).map (can n rw) := by
          unfold kd
          rw [hz]
          dsimp only
          rw [List.map_map]
          apply List.map_congr_left
          intro k hk
          exact (p3 k (List.mem_range.mp hk)).2.symm
        rw [hkd, ← List.map_append] at e2
        have hsl2 := Vs.len _ _ e2
        rw [List.length_map, List.length_append, List.length_map, List.length_range] at hsl2
        obtain ⟨c2, l1, l2, l3, l4⟩ := leave_eq (c := c1) (X := X) (m := ar i0) (g := rch n en ar β t) (by omega) (by omega) p2 hU1
        have hn1 : num1 n rw ar β seen t = (nI i0, seen) := by unfold num1; rw [hz]
        rw [if_neg (nI_pos (by omega)), rd_in _ (by omega) (by omega), p1, bd_r, parts_eq hP1 hi0, bo_s, l1, bo_s, F_X5_write_142, if_neg (nI_pos (by omega)), nI_add, nmb, hn1]
        refine hwr _ c2 seen (by rw [l3 16 (by omega), f1 16 (by omega)]; exact h16) ⟨_, e2, fun y hy => ?_, l2⟩ (by omega) (hP1.kept (l3 3 (by omega)) (l4 10 (by omega))) (hC1.kept (fun j j1 j2 => l3 j (by omega)) (fun j j1 => l4 j (by omega))) (by rw [l4 37 (by omega), a1]; exact hA) (fun j j1 => by rw [l3 j j1, f1 j j1]) (fun j j1 j2 => by rw [l4 j j2, a1])
        rcases List.mem_append.mp hy with k | k
        · obtain ⟨q, hq, e5⟩ := List.mem_map.mp k
          rw [← e5]
          exact (p3 q (List.mem_range.mp hq)).1
        · exact hX y (List.mem_cons_of_mem _ k)
theorem write_eq (hW : TmW n N A rw en ar) (hN : N ≤ 60) (hA6 : A ≤ 6) (har : ∀ c, c < N → ar c ≤ 4) (hB : BW n N ar β) (hb : 8 + n + sz ar β ≤ 808) {fr : Nat} (hlen : (Vl n rw ar β).length ≤ 400) (hfr : fr + 400 ≤ 9600) {c : St} (hP : PaC N ar A c) (hC : CT n rw en ar β c) (h16 : gF c 16 = nI 9600) :
    ∃ c', F_X5_write (nI fr) c = some (0, c') ∧ (∀ j v, (nmb n rw ar β [] (Vl n rw ar β))[j]? = some v → gA c' 48 (fr + j) = v) ∧ (∀ y, y < fr ∨ fr + (Vl n rw ar β).length ≤ y → gA c' 48 y = gA c 48 y) ∧ (∀ j, j ≠ 14 → gF c' j = gF c j) ∧ ∀ j, j ≠ 37 → j ≠ 39 → j ≠ 48 → gA c' j = gA c j := by
  have hV := Vs_all hW hN har β hB
  have hsl := Vs.len _ _ hV
  rw [List.length_map, chl_len] at hsl
  unfold F_X5_write
  rw [bd_r, bd_r]
  obtain ⟨c1, hc1⟩ : ∃ c1, sF (sA c 37 (fl 808 (gA c 37) 0)) 14 0 = c1 := ⟨_, rfl⟩
  have a1 : ∀ j, j ≠ 37 → gA c1 j = gA c j := fun j j1 => by rw [← hc1, gA_sF, gA_sA, if_neg j1]
  have f1 : ∀ j, j ≠ 14 → gF c1 j = gF c j := fun j j1 => by rw [← hc1, gF_sF, if_neg j1]; rfl
  have hP1 : PaC N ar A c1 := hP.kept (f1 3 (by omega)) (a1 10 (by omega))
  have hC1 : CT n rw en ar β c1 := hC.kept (fun j j1 j2 => f1 j (by omega)) (fun j j1 => a1 j (by omega))
  have hpa : F_X4_parts (-1) c1 = some (nI A, c1) := by
    unfold F_X4_parts
    rw [if_pos rfl, hP1.2.2]
  rw [hc1, hpa, bo_s]
  obtain ⟨c2, l1, l2, l3, l4⟩ := leave_eq (c := c1) (X := []) (m := A) (g := fun k => 8 + ch en 0 k) (by simp; omega) (by omega) (top_row hW hC1) ⟨by rw [← hc1]; rfl, fun i x hx => by simp at hx⟩
  have l1' : F_X5_leave 8 (nI A) c1 = some (0, c2) := l1
  rw [List.append_nil] at l2
  rw [l1', bo_s]
  have hmap : ((List.range A).map fun k => 8 + ch en 0 k).map (can n rw) = (chl en 0 A).map (mtp rw) := by
    unfold chl
    rw [List.map_map, List.map_map]
    apply List.map_congr_left
    intro k hk
    have := hW.2.2.1 k (List.mem_range.mp hk)
    have hri : rowId n (8 + ch en 0 k) := ⟨by omega, by omega⟩
    show can n rw (8 + ch en 0 k) = mtp rw (ch en 0 k)
    unfold can
    rw [if_pos hri, show 8 + ch en 0 k - 8 = ch en 0 k by omega]
  rw [← hmap] at hV
  obtain ⟨c', r1, r2, r3, r4, r5⟩ := write_loop hW hN har hB hb (fr := fr) (len := (Vl n rw ar β).length) hlen hfr rfl (Vl n rw ar β) _ [] 0 5000 c2 hV (fun x hx => by
    obtain ⟨k, hk, e⟩ := List.mem_map.mp hx
    have := hW.2.2.1 k (List.mem_range.mp hk)
    rw [← e]
    exact Or.inl ⟨by omega, by omega⟩) (by omega) (by omega) (Nat.le_refl _) (hP1.kept (l3 3 (by omega)) (l4 10 (by omega))) (hC1.kept (fun j j1 j2 => l3 j (by omega)) (fun j j1 => l4 j (by omega))) l2 (by
    intro t ht
    rw [l4 37 (by omega), ← hc1]
    show fl 808 (gA c 37) 0 t = _
    rw [if_neg (by simp)]
    exact if_pos ht) (by rw [l3 16 (by omega), f1 16 (by omega)]; exact h16)
  have r1' : F_X5_write_32 5000 (nI fr) 0 0 c2 = some (0, c') := r1
  refine ⟨c', r1', fun j v hv => by have := r2 j v hv; rw [Nat.add_zero] at this; exact this, fun y hy => ?_, fun j j1 => by rw [r4 j j1, l3 j j1, f1 j j1], fun j j1 j2 j3 => by rw [r5 j j1 j2 j3, l4 j j2, a1 j j1]⟩
  rw [r3 y (by omega), l4 48 (by omega), a1 48 (by omega)]
end
