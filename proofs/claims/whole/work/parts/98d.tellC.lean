/-! parts of terms, and what is written of them -/
section
variable {n N A : Nat} {rw : Nat → Int32} {en : Nat → Nat} {ar : Nat → Nat} {β : Bd} {c : St}
def VId (n : Nat) (rw : Nat → Int32) (ar : Nat → Nat) (β : Bd) (t : Nat) : Prop := (rowId n t ∧ ¬ rw (t - 8) < 0) ∨ nmId n ar β t
theorem nm_row {t : Nat} (h : nmId n ar β t) : ¬ rowId n t := fun z => by
  have h1 := z.1
  have h2 := z.2
  rcases h with q | q <;> omega
theorem head_eq (hC : CT n rw en ar β c) {t : Nat} (h : VId n rw ar β t) : gA c 33 t = match cn n rw ar β t with
    | some i => nI i
    | none => -9 := by
  unfold cn
  rcases h with ⟨h1, h2⟩ | h
  · rw [if_pos h1]
    obtain ⟨p, rfl⟩ : ∃ p, t = 8 + p := ⟨t - 8, by have := h1.1; omega⟩
    have hp : p < n := by have := h1.2; omega
    rw [show 8 + p - 8 = p by omega] at h2 ⊢
    obtain ⟨i, hi, e⟩ := nI_of h2
    rw [(hC.2.2.2.1 p hp).1, e, nI_clamp hi]
  · rw [if_neg (nm_row h)]
    obtain ⟨h1, h2, h3⟩ := hC.2.2.2.2.1 t h
    cases hz : lk ar β (8 + n) t with
    | none => exact h2 hz
    | some r => exact (h3 r.1 r.2 hz).1
theorem cn_lt (hW : TmW n N A rw en ar) (hN : N ≤ 60) (hB : BW n N ar β) {t i : Nat} (h : VId n rw ar β t) (hc : cn n rw ar β t = some i) : i < N := by
  unfold cn at hc
  rcases h with ⟨h1, h2⟩ | h
  · rw [if_pos h1] at hc
    obtain ⟨p, rfl⟩ : ∃ p, t = 8 + p := ⟨t - 8, by have := h1.1; omega⟩
    have hp : p < n := by have := h1.2; omega
    rw [show 8 + p - 8 = p by omega] at h2 hc
    obtain ⟨-, -, h5⟩ := hW.2.2.2 p hp
    rcases h5 with ⟨a1, a2⟩ | ⟨k, a1, a2, a3, a4⟩
    · exact absurd a1 h2
    · rw [a2, nI_clamp (by omega)] at hc
      cases hc
      exact a1
  · rw [if_neg (nm_row h)] at hc
    cases hz : lk ar β (8 + n) t with
    | none => rw [hz] at hc; cases hc
    | some r =>
      rw [hz] at hc
      cases hc
      exact (hB.lk (c := r.1) (f := r.2) hz).1
theorem VId_lt {t : Nat} (h : VId n rw ar β t) : t < 8 + n + sz ar β := by
  rcases h with ⟨h1, -⟩ | h
  · have := h1.2; omega
  · rcases h with q | q <;> omega
theorem free_eq (hW : TmW n N A rw en ar) (hN : N ≤ 60) (hB : BW n N ar β) (hC : CT n rw en ar β c) (hb : 8 + n + sz ar β ≤ 808) {t : Nat} (h : VId n rw ar β t) : F_X5_isFree (nI t) c = some (bI (cn n rw ar β t).isNone, c) := by
  have hlt := VId_lt h
  unfold F_X5_isFree
  rw [rd_in _ (by omega) (by omega), head_eq hC h, bd_r]
  cases hz : cn n rw ar β t with
  | none => rw [if_pos (by rfl)]; rfl
  | some i =>
    have hi := cn_lt hW hN hB h hz
    dsimp only
    rw [if_neg (fun z => nI_pos (n := i) (by omega) (by rw [z]; decide))]
    rfl
/-- what a cell means -/
def can (n : Nat) (rw : Nat → Int32) (x : Nat) : Nat := if rowId n x then mtp rw (x - 8) else x
def Raw (n : Nat) (ar : Nat → Nat) (β : Bd) (x : Nat) : Prop := rowId n x ∨ nmId n ar β x
theorem can_VId (hW : TmW n N A rw en ar) {x : Nat} (h : Raw n ar β x) : VId n rw ar β (can n rw x) := by
  unfold can
  rcases h with h | h
  · rw [if_pos h]
    unfold mtp
    have hp : x - 8 < n := by have := h.2; have := h.1; omega
    by_cases hv : rw (x - 8) < 0
    · rw [if_pos hv]
      exact Or.inr (Or.inl (hW.1.2 _ hp hv))
    · rw [if_neg hv]
      exact Or.inl ⟨⟨by omega, by omega⟩, by rw [show 8 + (x - 8) - 8 = x - 8 by omega]; exact hv⟩
  · rw [if_neg (nm_row h)]
    exact Or.inr h
theorem meant_eq (hW : TmW n N A rw en ar) (hN : N ≤ 60) (hB : BW n N ar β) (hC : CT n rw en ar β c) (hb : 8 + n + sz ar β ≤ 808) {x : Nat} (h : Raw n ar β x) : F_X5_meant (nI x) c = some (nI (can n rw x), c) := by
  unfold F_X5_meant can
  rcases h with h | h
  · rw [if_pos h]
    obtain ⟨p, rfl⟩ : ∃ p, x = 8 + p := ⟨x - 8, by have := h.1; omega⟩
    have hp : p < n := by have := h.2; omega
    rw [rd_in _ (by omega) (by omega), (hC.2.2.2.1 p hp).1, bd_r, show 8 + p - 8 = p by omega]
    unfold mtp
    by_cases hv : rw p < 0
    · have h8 := hW.1.2 p hp hv
      obtain ⟨j, hj, e1, e2, e3⟩ := neg_name hv
      rw [e1, nI_clamp hj] at h8
      have hm8 := e2.mpr h8
      have hm9 : ¬ rw p ≤ -9 := by
        intro z
        have := Int32.le_trans hm8 z
        exact absurd this (by decide)
      rw [if_neg (Int32.not_le.mpr hv), if_neg hm9, if_pos hv, e1, nI_clamp hj]
    · rw [if_pos (Int32.not_lt.mp hv), if_neg hv]
  · rw [if_neg (nm_row h)]
    have hlt : x < 8 + n + sz ar β := by rcases h with q | q <;> omega
    rw [rd_in _ (by omega) (by omega), head_eq hC (Or.inr h), bd_r]
    cases hz : cn n rw ar β x with
    | none => rw [if_neg (by decide), if_pos (by decide)]
    | some i =>
      have hi := cn_lt hW hN hB (Or.inr h) hz
      dsimp only
      rw [if_pos (nI_pos' (by omega))]
/-- cells that stand one behind the other -/
def Row (c : St) (g : Nat → Nat) (m : Nat) : Prop := ∀ k, k < m → g k < 808 ∧ gA c 35 (g k) = nI (g (k + 1))
theorem part_loop {g : Nat → Nat} {m : Nat} (hR : Row c g m) (hm : m < 100) : ∀ (d w k : Nat), k + d = m → d < w → F_X5_part_22 w (nI m) (nI (g k)) (nI k) c = F_X5_part_43 (nI (g m)) c := by
  intro d
  induction d with
  | zero =>
    intro w k hk hw
    obtain ⟨w, rfl⟩ : ∃ z, w = z + 1 := ⟨w - 1, by omega⟩
    rw [F_X5_part_22, if_pos (nI_le (by omega) (by omega)), show k = m by omega]
  | succ d ih =>
    intro w k hk hw
    obtain ⟨w, rfl⟩ : ∃ z, w = z + 1 := ⟨w - 1, by omega⟩
    obtain ⟨h1, h2⟩ := hR k (by omega)
    rw [F_X5_part_22, if_neg (nI_ge (by omega) (by omega)), rd_in _ h1 (by omega), h2, bd_r, nI_1]
    exact ih w (k + 1) (by omega) (by omega)
/-- the cells of an id's parts -/
def rch (n : Nat) (en : Nat → Nat) (ar : Nat → Nat) (β : Bd) (t k : Nat) : Nat := if rowId n t then 8 + ch en (t - 8 + 1) k else match lk ar β (8 + n) t with
  | some r => r.2 + k
  | none => 0
theorem rch_facts (hW : TmW n N A rw en ar) (hN : N ≤ 60) (hB : BW n N ar β) (hC : CT n rw en ar β c) (hb : 8 + n + sz ar β ≤ 808) {t i : Nat} (h : VId n rw ar β t) (hc : cn n rw ar β t = some i) :
    gA c 34 t = nI (rch n en ar β t 0) ∧ Row c (rch n en ar β t) (ar i) ∧ (∀ k, k < ar i → Raw n ar β (rch n en ar β t k) ∧ can n rw (rch n en ar β t k) = chT n rw en ar β t k) := by
  unfold cn at hc
  rcases h with ⟨h1, h2⟩ | h
  · rw [if_pos h1] at hc
    obtain ⟨p, rfl⟩ : ∃ p, t = 8 + p := ⟨t - 8, by have := h1.1; omega⟩
    have hp : p < n := by have := h1.2; omega
    have e8 : 8 + p - 8 = p := by omega
    rw [e8] at h2 hc
    obtain ⟨-, -, h5⟩ := hW.2.2.2 p hp
    rcases h5 with ⟨a1, a2⟩ | ⟨k, a1, a2, a3, a4⟩
    · exact absurd a1 h2
    · rw [a2, nI_clamp (by omega)] at hc
      cases hc
      have hr : ∀ j, rch n en ar β (8 + p) j = 8 + ch en (p + 1) j := fun j => by unfold rch; rw [if_pos h1, e8]
      refine ⟨?_, fun j hj => ?_, fun j hj => ?_⟩
      · rw [hr, (hC.2.2.2.1 p hp).2.1]
        rfl
      · have := a4 j hj
        rw [hr, hr, (hC.2.2.2.1 _ this).2.2]
        exact ⟨by omega, rfl⟩
      · have := a4 j hj
        have hri : rowId n (8 + ch en (p + 1) j) := ⟨by omega, by omega⟩
        rw [hr]
        refine ⟨Or.inl hri, ?_⟩
        unfold can chT
        rw [if_pos hri, if_pos h1, e8, show 8 + ch en (p + 1) j - 8 = ch en (p + 1) j by omega]
  · have hnr := nm_row h
    rw [if_neg hnr] at hc
    cases hz : lk ar β (8 + n) t with
    | none => rw [hz] at hc; cases hc
    | some r =>
      obtain ⟨i', f⟩ := r
      rw [hz] at hc
      have hii : i' = i := Option.some.inj hc
      subst hii
      obtain ⟨b1, b2, b3, b4, b5⟩ := hB.lk hz
      obtain ⟨-, -, h3⟩ := hC.2.2.2.2.1 t h
      have hr : ∀ j, rch n en ar β t j = f + j := fun j => by unfold rch; rw [if_neg hnr, hz]
      refine ⟨?_, fun j hj => ?_, fun j hj => ?_⟩
      · rw [hr]; exact (h3 _ _ hz).2
      · rw [hr, hr, hC.2.2.2.2.2.1 (f + j) (by omega) (by omega)]
        exact ⟨by omega, rfl⟩
      · rw [hr]
        have hnm : nmId n ar β (f + j) := Or.inr ⟨by omega, by omega⟩
        refine ⟨Or.inr hnm, ?_⟩
        unfold can chT
        rw [if_neg (nm_row hnm), if_neg hnr, hz]
theorem part_eq (hW : TmW n N A rw en ar) (hN : N ≤ 60) (har : ∀ c, c < N → ar c ≤ 4) (hB : BW n N ar β) (hC : CT n rw en ar β c) (hb : 8 + n + sz ar β ≤ 808) {t i k : Nat} (h : VId n rw ar β t) (hc : cn n rw ar β t = some i) (hk : k < ar i) : F_X5_part (nI t) (nI k) c = some (nI (chT n rw en ar β t k), c) := by
  obtain ⟨h1, h2, h3⟩ := rch_facts hW hN hB hC hb h hc
  have hi := har i (cn_lt hW hN hB h hc)
  have hlt := VId_lt h
  unfold F_X5_part F_X5_part_18
  rw [if_neg (nI_ne_m1 (by omega)), rd_in _ (by omega) (by omega), h1, bd_r]
  have h4 := part_loop (fun j hj => h2 j (by omega)) (m := k) (by omega) k 5000 0 (by omega) (by omega)
  have h4' : F_X5_part_22 5000 (nI k) (nI (rch n en ar β t 0)) 0 c = _ := h4
  rw [h4', F_X5_part_43, meant_eq hW hN hB hC hb (h3 k hk).1, bo_s, (h3 k hk).2]
theorem top_row (hW : TmW n N A rw en ar) (hC : CT n rw en ar β c) : Row c (fun k => 8 + ch en 0 k) A := by
  intro k hk
  have := hW.2.2.1 k hk
  have hn := hW.1.1
  exact ⟨show 8 + ch en 0 k < 808 by omega, by rw [(hC.2.2.2.1 _ this).2.2]; rfl⟩
theorem partT_eq (hW : TmW n N A rw en ar) (hN : N ≤ 60) (hA : A ≤ 6) (hB : BW n N ar β) (hC : CT n rw en ar β c) (hb : 8 + n + sz ar β ≤ 808) {k : Nat} (hk : k < A) : F_X5_part (-1) (nI k) c = some (nI (mtp rw (ch en 0 k)), c) := by
  have hkn := hW.2.2.1 k hk
  have hri : rowId n (8 + ch en 0 k) := ⟨by omega, by omega⟩
  unfold F_X5_part F_X5_part_18
  rw [if_pos rfl]
  have h4 := part_loop (fun j hj => top_row hW hC j (by omega)) (m := k) (by omega) k 5000 0 (by omega) (by omega)
  have h4' : F_X5_part_22 5000 (nI k) 8 0 c = _ := h4
  rw [h4', F_X5_part_43, meant_eq hW hN hB hC hb (Or.inl hri), bo_s]
  unfold can
  rw [if_pos hri, show 8 + ch en 0 k - 8 = ch en 0 k by omega]
/-! the cells that are still to be written, the next on top -/
def UnC (X : List Nat) (c : St) : Prop := gF c 14 = nI X.length ∧ ∀ i x, X[i]? = some x → gA c 39 (X.length - 1 - i) = nI x
theorem leave_loop {g : Nat → Nat} {m l : Nat} (hl : l + m ≤ 400) (hm : m < 100) :
    ∀ (d w j : Nat) (c : St), j + d = m → d < w → Row c g m → gF c 14 = nI l → (∀ i, i < j → gA c 39 (l + (m - 1 - i)) = nI (g i)) → ∃ c', F_X5_leave_7 w (nI m) (nI (g j)) (hI d) c = F_X5_leave_42 (nI m) c' ∧ (∀ i, i < m → gA c' 39 (l + (m - 1 - i)) = nI (g i)) ∧ (∀ k, gF c' k = gF c k) ∧ (∀ k, k ≠ 39 → gA c' k = gA c k) ∧ ∀ y, y < l → gA c' 39 y = gA c 39 y := by
  intro d
  induction d with
  | zero =>
    intro w j c hj hw hR h14 hd
    obtain ⟨w, rfl⟩ : ∃ z, w = z + 1 := ⟨w - 1, by omega⟩
    rw [F_X5_leave_7, if_pos hI_neg0]
    exact ⟨c, rfl, fun i hi => hd i (by omega), fun _ => rfl, fun _ _ => rfl, fun _ _ => rfl⟩
  | succ d ih =>
    intro w j c hj hw hR h14 hd
    obtain ⟨w, rfl⟩ : ∃ z, w = z + 1 := ⟨w - 1, by omega⟩
    rw [F_X5_leave_7, hI_s, if_neg (nI_pos (by omega)), h14, nI_add, wr_in _ _ (by omega) (by omega), bd_r]
    obtain ⟨c1, hc1⟩ : ∃ c1, sA c 39 (upd (gA c 39) (l + d) (nI (g j))) = c1 := ⟨_, rfl⟩
    have a39 : gA c1 39 = upd (gA c 39) (l + d) (nI (g j)) := by rw [← hc1]; exact gA_sA_s _ _ _
    have a1 : ∀ k, k ≠ 39 → gA c1 k = gA c k := fun k k1 => by rw [← hc1, gA_sA, if_neg k1]
    obtain ⟨h1, h2⟩ := hR j (by omega)
    rw [hc1, rd_in _ h1 (by omega), a1 35 (by omega), h2, bd_r, ← hI_s d, hI_m1]
    obtain ⟨c', r1, r2, r3, r4, r5⟩ := ih w (j + 1) c1 (by omega) (by omega) (fun k hk => by rw [a1 35 (by omega)]; exact hR k hk) (by rw [← hc1]; exact h14) (fun i hi => by
      rw [a39]
      by_cases hij : i = j
      · rw [hij, show l + (m - 1 - j) = l + d by omega, upd_s]
      · rw [upd_n _ _ (by omega)]; exact hd i (by omega))
    exact ⟨c', r1, r2, fun k => by rw [r3, ← hc1]; rfl, fun k k1 => by rw [r4 k k1, a1 k k1], fun y hy => by rw [r5 y hy, a39, upd_n _ _ (by omega)]⟩
theorem leave_eq {g : Nat → Nat} {m : Nat} {X : List Nat} (hl : X.length + m ≤ 400) (hm : m < 100) (hR : Row c g m) (hU : UnC X c) : ∃ c', F_X5_leave (nI (g 0)) (nI m) c = some (0, c') ∧ UnC ((List.range m).map g ++ X) c' ∧ (∀ k, k ≠ 14 → gF c' k = gF c k) ∧ ∀ k, k ≠ 39 → gA c' k = gA c k := by
  obtain ⟨c1, r1, r2, r3, r4, r5⟩ := leave_loop hl hm m 5000 0 c (by omega) (by omega) hR hU.1 (fun i hi => by omega)
  unfold F_X5_leave
  rw [bd_r, sub_hI, r1, F_X5_leave_42, r3 14, hU.1, nI_add, bd_r]
  have hlen : ((List.range m).map g ++ X).length = X.length + m := by simp; omega
  refine ⟨_, rfl, ⟨by rw [hlen]; rfl, fun i x hx => ?_⟩, fun k k1 => by rw [gF_sF, if_neg k1, r3], fun k k1 => by rw [gA_sF, r4 k k1]⟩
  rw [gA_sF, hlen]
  by_cases hi : i < m
  · rw [List.getElem?_append_left (by simpa using hi)] at hx
    have hx2 : g i = x := by
      rw [List.getElem?_map, List.getElem?_range hi] at hx
      injection hx
    have := r2 i hi
    rw [show X.length + m - 1 - i = X.length + (m - 1 - i) by omega, this, hx2]
  · rw [List.getElem?_append_right (by simpa using hi)] at hx
    have hlr : ((List.range m).map g).length = m := by simp
    rw [hlr] at hx
    have hi2 : i - m < X.length := (List.getElem?_eq_some_iff.mp hx).1
    have := hU.2 (i - m) x hx
    rw [show X.length + m - 1 - i = X.length - 1 - (i - m) by omega, r5 _ (by omega), this]
end
