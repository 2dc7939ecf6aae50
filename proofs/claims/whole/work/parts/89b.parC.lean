/-! the class reads a row -/
/-- what reading needs to know of the state -/
def RdC (N : Nat) (ct ar : Nat → Nat) (pk : Nat → Int32) (A : Nat) (fp : Int32) (n : Nat) (rw : Nat → Int32) (c : St) : Prop :=
  N ≤ 60 ∧ A ≤ 6 ∧ n ≤ 160 ∧ gF c 2 = nI N ∧ (∀ i, i < N → ct i < 12 ∧ ar i ≤ 4 ∧ gA c 9 i = nI (ct i) ∧ gA c 10 i = nI (ar i) ∧ gA c 11 i = pk i) ∧ gF c 3 = nI A ∧ gF c 4 = fp ∧ ∀ i, i < n → gA c 12 i = rw i
theorem RdC.kept {N : Nat} {ct ar : Nat → Nat} {pk : Nat → Int32} {A : Nat} {fp : Int32} {n : Nat} {rw : Nat → Int32} {c c' : St} (h : RdC N ct ar pk A fp n rw c) (h1 : ∀ j, j < 6 → gF c' j = gF c j) (h2 : ∀ j, j < 13 → gA c' j = gA c j) : RdC N ct ar pk A fp n rw c' := by
  unfold RdC
  rw [h1 2 (by omega), h1 3 (by omega), h1 4 (by omega), h2 9 (by omega), h2 10 (by omega), h2 11 (by omega), h2 12 (by omega)]
  exact h
theorem partsF {N : Nat} {ct ar : Nat → Nat} {pk : Nat → Int32} {A : Nat} {fp : Int32} {n : Nat} {rw : Nat → Int32} {c : St} (h : RdC N ct ar pk A fp n rw c) : F_X4_parts (-1) c = some (nI A, c) := by
  unfold F_X4_parts
  rw [if_pos rfl, h.2.2.2.2.2.1]
theorem partsN {N : Nat} {ct ar : Nat → Nat} {pk : Nat → Int32} {A : Nat} {fp : Int32} {n : Nat} {rw : Nat → Int32} {c : St} (h : RdC N ct ar pk A fp n rw c) {i : Nat} (hi : i < N) : F_X4_parts (nI i) c = some (nI (ar i), c) := by
  have hN := h.1
  unfold F_X4_parts
  rw [if_neg (nI_ne_m1 (by omega)), rd_in _ (by omega) (by omega), (h.2.2.2.2.1 i hi).2.2.2.1, bd_r]
/-- numbers below p are variables or constructors -/
def Kn (N : Nat) (rw : Nat → Int32) (p : Nat) : Prop := ∀ q, q < p → ¬ rw q < 0 → ∃ i, i < N ∧ rw q = nI i
theorem holding_eq {N : Nat} {ct ar : Nat → Nat} {pk : Nat → Int32} {A : Nat} {fp : Int32} {n : Nat} {rw : Nat → Int32} {c : St} (h : RdC N ct ar pk A fp n rw c) {g : Nat} (hg : g ≤ n) (h6 : gF c 6 = hI g) : F_X2_holding c = some (if g = 0 then -1 else rw (g - 1), c) := by
  have hn := h.2.2.1
  unfold F_X2_holding
  rw [h6]
  by_cases g0 : g = 0
  · rw [g0, if_pos (by rfl), if_pos rfl]
  · obtain ⟨q, rfl⟩ : ∃ q, g = q + 1 := ⟨g - 1, by omega⟩
    rw [if_neg (hI_ne g0 (by omega)), hI_s, rd_in _ (by omega) (by omega), h.2.2.2.2.2.2.2 q (by omega), bd_r, if_neg g0]
    rfl
theorem av_pos {N : Nat} {ar : Nat → Nat} {A : Nat} {rw : Nat → Int32} {p q k : Nat} (hK : Kn N rw p) (hq : q < p) (hk : k < av ar A rw (q + 1)) : ∃ i, i < N ∧ rw q = nI i := by
  refine hK q hq (fun z => ?_)
  have : av ar A rw (q + 1) = 0 := by
    unfold av
    rw [if_neg (by omega)]
    exact if_pos z
  omega
theorem av_con {ar : Nat → Nat} {A : Nat} {rw : Nat → Int32} {q i : Nat} (hi : rw q = nI i) (hN : i < 60) : av ar A rw (q + 1) = ar i := by
  unfold av aw
  rw [if_neg (by omega)]
  show (if rw q < 0 then 0 else ar (rw q).toNatClampNeg) = _
  rw [hi, if_neg (nI_pos (by omega)), nI_clamp (by omega)]
theorem whole_eq {N : Nat} {ct ar : Nat → Nat} {pk : Nat → Int32} {A : Nat} {fp : Int32} {n : Nat} {rw : Nat → Int32} {c : St} (h : RdC N ct ar pk A fp n rw c) {g k : Nat} {L : Sl} (hg : g ≤ n) (h6 : gF c 6 = hI g) (h7 : gF c 7 = nI k) (hC : Cn ar A rw g k L) (hk : g = 0 ∨ k < av ar A rw g) : F_X2_isWhole c = some (bI L.isEmpty, c) := by
  have hn := h.2.2.1
  have hA := h.2.1
  unfold F_X2_isWhole
  rw [h6]
  by_cases g0 : g = 0
  · subst g0
    have hav : av ar A rw 0 = A := if_pos rfl
    rw [if_pos (by rfl), partsF h, bo_s, h7]
    by_cases hkA : k < A
    · rw [if_pos (nI_lt hkA (by omega)), ck_0, (hC.next (by rw [hav]; exact hkA)).1]
      rfl
    · have := hC.1
      rw [if_neg (nI_nlt (by omega) (by omega)), ck_1, hC.2, hav, show A - k = 0 by omega]
      rfl
  · rw [if_neg (hI_ne g0 (by omega)), ck_0, (hC.next (hk.resolve_left g0)).1]
    rfl
theorem wanted_eq {N : Nat} {ct ar : Nat → Nat} {pk : Nat → Int32} {A : Nat} {fp : Int32} {n : Nat} {rw : Nat → Int32} {c : St} (h : RdC N ct ar pk A fp n rw c) {g k p : Nat} (hg : g ≤ p) (hp : p ≤ n) (hK : Kn N rw p) (hk : k < av ar A rw g) : F_X4_wanted (if g = 0 then -1 else rw (g - 1)) (nI k) c = some (nI (wty pk fp rw (g, k)), c) := by
  have hN := h.1
  unfold F_X4_wanted wty
  by_cases g0 : g = 0
  · subst g0
    rw [if_pos rfl, if_pos rfl, if_pos rfl, h.2.2.2.2.2.2.1, F_X4_wanted_20, unpack_eq, bo_s]
  · obtain ⟨q, rfl⟩ : ∃ q, g = q + 1 := ⟨g - 1, by omega⟩
    obtain ⟨i, hi, e⟩ := av_pos hK (by omega) hk
    have e2 : rw (q + 1 - 1) = nI i := e
    rw [if_neg g0, e2, if_neg (show ¬ (q + 1, k).1 = 0 from g0), if_neg (nI_ne_m1 (by omega)), rd_in _ (by omega) (by omega), (h.2.2.2.2.1 i hi).2.2.2.2, bd_r, F_X4_wanted_20, unpack_eq, bo_s, nI_clamp (by omega)]
theorem fits_72 {w : Nat} {j : Nat} {c : St} (hj : j < 8) : F_X2_fits_72 (nI w) (nI j) c = some (bI (decide (gA c 16 j = nI w)), c) := by
  unfold F_X2_fits_72
  rw [rd_in _ hj (by omega), bd_r]
  by_cases h : gA c 16 j = nI w
  · rw [if_pos h, decide_eq_true h]; rfl
  · rw [if_neg h, decide_eq_false h]; rfl
theorem fits_eq {N : Nat} {ct ar : Nat → Nat} {pk : Nat → Int32} {A : Nat} {fp : Int32} {n : Nat} {rw : Nat → Int32} {c : St} (h : RdC N ct ar pk A fp n rw c) (tm : Bool) (v : Int32) {w : Nat} (hw : w < 16) {nt : Nat → Int32} (hnt : ∀ i, i < 8 → gA c 16 i = nt i) :
    ∃ f, F_X2_fits v (nI w) (bI tm) c = some (bI (fit N ct tm v w nt), sA c 16 f) ∧ ∀ i, i < 8 → f i = ntN tm v w nt i := by
  have hN := h.1
  unfold F_X2_fits fit
  by_cases hv : v < 0
  · rw [if_pos hv, if_pos hv]
    cases tm with
    | false =>
      rw [if_pos (by rfl), if_neg (show ¬ (false = true) by decide)]
      refine ⟨gA c 16, ?_, fun i hi => ?_⟩
      · rw [sA_gA]
        by_cases h1 : v = -1
        · rw [if_pos h1, decide_eq_true h1]; rfl
        · rw [if_neg h1, decide_eq_false h1]; rfl
      · unfold ntN
        rw [if_neg (fun z => by cases z.2.1), hnt i hi]
    | true =>
      rw [if_neg (show ¬ bI true = 0 by decide), if_pos rfl, bd_r]
      obtain ⟨j, hj, e, hj8, -⟩ := neg_name hv
      unfold ntN
      rw [e, nI_clamp hj]
      by_cases h8 : j < 8
      · have hm8 : -8 ≤ v := hj8.mpr h8
        rw [if_pos (show nI j < 8 from nI_lt (b := 8) h8 (by omega)), rd_in _ h8 (by omega), hnt j h8, bd_r, decide_eq_true hm8, Bool.true_and]
        by_cases h1 : nt j = -1
        · rw [if_pos h1, if_pos ⟨hv, rfl, hm8, h1⟩, wr_in _ _ h8 (by omega), bd_r, fits_72 h8, gA_sA_s, upd_s, upd_s]
          refine ⟨upd (gA c 16) j (nI w), rfl, fun i hi => ?_⟩
          unfold upd
          split
          · rfl
          · exact hnt i hi
        · rw [if_neg h1, if_neg (fun z => h1 z.2.2.2), fits_72 h8, hnt j h8]
          exact ⟨gA c 16, by rw [sA_gA], hnt⟩
      · have hm8 : ¬ -8 ≤ v := fun z => h8 (hj8.mp z)
        rw [if_neg (show ¬ nI j < 8 from nI_nlt (a := j) (b := 8) (by omega) hj), if_neg (fun z => hm8 z.2.2.1), decide_eq_false hm8, Bool.false_and]
        exact ⟨gA c 16, by rw [sA_gA]; rfl, hnt⟩
  · rw [if_neg hv, if_neg hv]
    obtain ⟨j, hj, rfl⟩ := nI_of hv
    rw [nI_clamp hj]
    refine ⟨gA c 16, ?_, fun i hi => ?_⟩
    · rw [sA_gA]
      unfold F_X4_typeOf
      rw [h.2.2.2.1]
      by_cases hjN : j < N
      · rw [if_neg (nI_ge hjN (by omega)), rd_in _ (by omega) (by omega), (h.2.2.2.2.1 j hjN).2.2.1, bd_r, bo_s]
        have hc := (h.2.2.2.2.1 j hjN).1
        by_cases hcw : ct j = w
        · rw [if_pos (by rw [hcw]), decide_eq_true ⟨hjN, hcw⟩]; rfl
        · rw [if_neg (fun z => hcw (nI_inj (by omega) (by omega) z)), decide_eq_false (fun z => hcw z.2)]; rfl
      · rw [if_pos (nI_le (by omega) hj), bo_s, if_neg (fun z => nI_ne_m1 (n := w) (by omega) z.symm), decide_eq_false (fun z => hjN z.1)]; rfl
    · unfold ntN
      rw [if_neg (fun z => hv z.1), hnt i hi]
