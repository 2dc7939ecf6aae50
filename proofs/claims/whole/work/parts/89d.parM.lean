/-! the reference reads a row -/
def RdM (N : Nat) (ct ar : Nat → Nat) (pk : Nat → Int32) (A : Nat) (fp : Int32) (n : Nat) (rw : Nat → Int32) (m : St) : Prop :=
  N ≤ 60 ∧ A ≤ 6 ∧ n ≤ 160 ∧ gF m 1 = nI N ∧ (∀ i, i < N → ct i < 12 ∧ ar i ≤ 4 ∧ gA m 1 i = nI (ct i) ∧ gA m 2 i = nI (ar i) ∧ gA m 3 i = pk i) ∧ gF m 2 = nI A ∧ gF m 3 = fp ∧ gF m 5 = nI n ∧ ∀ i, i < n → gA m 4 i = rw i
theorem RdM.kept {N : Nat} {ct ar : Nat → Nat} {pk : Nat → Int32} {A : Nat} {fp : Int32} {n : Nat} {rw : Nat → Int32} {m m' : St} (h : RdM N ct ar pk A fp n rw m) (h1 : ∀ j, j < 6 → gF m' j = gF m j) (h2 : ∀ j, j < 10 → gA m' j = gA m j) : RdM N ct ar pk A fp n rw m' := by
  unfold RdM
  rw [h1 1 (by omega), h1 2 (by omega), h1 3 (by omega), h1 5 (by omega), h2 1 (by omega), h2 2 (by omega), h2 3 (by omega), h2 4 (by omega)]
  exact h
theorem hI_m1 (k : Nat) : hI (k + 1) + (-1) = hI k := by
  cases k with
  | zero => rfl
  | succ k => exact pk_m1 k
theorem sub_hI (k : Nat) : nI k - 1 = hI k := by
  cases k with
  | zero => rfl
  | succ k => exact nI_pred k
theorem hI_neg0 : hI 0 < 0 := by decide
/-- the slots that wait, as the reference has them: the next on top -/
def StM (pk : Nat → Int32) (fp : Int32) (rw : Nat → Int32) (L : Sl) (m : St) : Prop :=
  gF m 6 = nI L.length ∧ ∀ i x, L[i]? = some x → gA m 10 (L.length - 1 - i) = nI (wty pk fp rw x) ∧ gA m 11 (L.length - 1 - i) = hI x.1 ∧ gA m 12 (L.length - 1 - i) = nI x.2
theorem StM.kept {pk : Nat → Int32} {fp : Int32} {rw : Nat → Int32} {L : Sl} {m m' : St} (h : StM pk fp rw L m) (h1 : gF m' 6 = gF m 6) (h2 : ∀ j, 10 ≤ j → j ≤ 12 → gA m' j = gA m j) : StM pk fp rw L m' := by
  unfold StM
  rw [h1, h2 10 (by omega) (by omega), h2 11 (by omega) (by omega), h2 12 (by omega) (by omega)]
  exact h
theorem StM.push {pk : Nat → Int32} {fp : Int32} {rw : Nat → Int32} {L : Sl} {m m' : St} (h : StM pk fp rw L m) (x : Nat × Nat) (e6 : gF m' 6 = nI (L.length + 1)) (e10 : gA m' 10 = upd (gA m 10) L.length (nI (wty pk fp rw x))) (e11 : gA m' 11 = upd (gA m 11) L.length (hI x.1)) (e12 : gA m' 12 = upd (gA m 12) L.length (nI x.2)) : StM pk fp rw (x :: L) m' := by
  refine ⟨e6, fun i y hy => ?_⟩
  rw [e10, e11, e12]
  cases i with
  | zero =>
    cases hy
    rw [show (x :: L).length - 1 - 0 = L.length by simp, upd_s, upd_s, upd_s]
    exact ⟨rfl, rfl, rfl⟩
  | succ i =>
    have hy' : L[i]? = some y := hy
    have hi : i < L.length := (List.getElem?_eq_some_iff.mp hy').1
    rw [show (x :: L).length - 1 - (i + 1) = L.length - 1 - i by simp; omega, upd_n _ _ (by omega), upd_n _ _ (by omega), upd_n _ _ (by omega)]
    exact h.2 i y hy'
theorem want_loop {pk : Nat → Int32} {fp : Int32} {rw : Nat → Int32} {L : Sl} {h n : Nat} {all : Int32} (hty : ∀ k, k < n → ty all k = wty pk fp rw (h, k)) (hL : L.length + n ≤ 700) :
    ∀ (k w : Nat) (m : St), k ≤ n → k < w → StM pk fp rw (sl h k (n - k) ++ L) m →
    ∃ m', F_X9_want_5 w all (hI h) (hI k) m = some (0, m') ∧ StM pk fp rw (sl h 0 n ++ L) m' ∧ (∀ j, j ≠ 6 → gF m' j = gF m j) ∧ ∀ j, j < 10 ∨ 12 < j → gA m' j = gA m j := by
  intro k
  induction k with
  | zero =>
    intro w m hk hw hS
    obtain ⟨w, rfl⟩ : ∃ z, w = z + 1 := ⟨w - 1, by omega⟩
    rw [F_X9_want_5, if_pos hI_neg0]
    exact ⟨m, rfl, by rwa [Nat.sub_zero] at hS, fun _ _ => rfl, fun _ _ => rfl⟩
  | succ k ih =>
    intro w m hk hw hS
    obtain ⟨w, rfl⟩ : ∃ z, w = z + 1 := ⟨w - 1, by omega⟩
    have hlen : (sl h (k + 1) (n - (k + 1)) ++ L).length = n - (k + 1) + L.length := by rw [List.length_append, sl_len]
    have h6 := hS.1
    obtain ⟨l, hl⟩ : ∃ l, (sl h (k + 1) (n - (k + 1)) ++ L).length = l := ⟨_, rfl⟩
    rw [hl] at h6
    rw [F_X9_want_5, hI_m1, hI_s, if_neg (nI_pos (by omega)), typeOf_eq, bo_s, hty k (by omega), h6, ck_in (by omega) (by omega), bd_r, nI_clamp (n := l) (by omega)]
    obtain ⟨m1, hm1⟩ : ∃ m1, sA m 10 (upd (gA m 10) l (nI (wty pk fp rw (h, k)))) = m1 := ⟨_, rfl⟩
    have g1 : gF m1 6 = nI l := by rw [← hm1]; exact h6
    rw [hm1, g1, ck_in (by omega) (by omega), bd_r, nI_clamp (n := l) (by omega)]
    obtain ⟨m2, hm2⟩ : ∃ m2, sA m1 11 (upd (gA m1 11) l (hI h)) = m2 := ⟨_, rfl⟩
    have g2 : gF m2 6 = nI l := by rw [← hm2]; exact g1
    rw [hm2, g2, ck_in (by omega) (by omega), bd_r, nI_clamp (n := l) (by omega)]
    obtain ⟨m3, hm3⟩ : ∃ m3, sA m2 12 (upd (gA m2 12) l (nI k)) = m3 := ⟨_, rfl⟩
    have g3 : gF m3 6 = nI l := by rw [← hm3]; exact g2
    rw [hm3, g3, nI_1, bd_r]
    obtain ⟨m4, hm4⟩ : ∃ m4, sF m3 6 (nI (l + 1)) = m4 := ⟨_, rfl⟩
    rw [hm4]
    obtain ⟨m', r1, r2, r3, r4⟩ := ih w m4 (by omega) (by omega) (by
      rw [show n - k = (n - (k + 1)) + 1 by omega, sl, List.cons_append]
      refine hS.push (h, k) ?_ ?_ ?_ ?_
      · rw [hl, ← hm4]; rfl
      · rw [hl, ← hm4, ← hm3, ← hm2, ← hm1]; rfl
      · rw [hl, ← hm4, ← hm3, ← hm2, ← hm1]; rfl
      · rw [hl, ← hm4, ← hm3, ← hm2, ← hm1]; rfl)
    refine ⟨m', r1, r2, fun j j1 => ?_, fun j j1 => ?_⟩
    · rw [r3 j j1, ← hm4, gF_sF, if_neg j1, ← hm3, ← hm2, ← hm1]; rfl
    · rw [r4 j j1, ← hm4, gA_sF, ← hm3, gA_sA, if_neg (by omega), ← hm2, gA_sA, if_neg (by omega), ← hm1, gA_sA, if_neg (by omega)]
theorem want_eq {pk : Nat → Int32} {fp : Int32} {rw : Nat → Int32} {L : Sl} {h n : Nat} {all : Int32} {m : St} (hty : ∀ k, k < n → ty all k = wty pk fp rw (h, k)) (hL : L.length + n ≤ 700) (hn : n ≤ 6) (hS : StM pk fp rw L m) :
    ∃ m', F_X9_want (nI n) all (hI h) m = some (0, m') ∧ StM pk fp rw (sl h 0 n ++ L) m' ∧ (∀ j, j ≠ 6 → gF m' j = gF m j) ∧ ∀ j, j < 10 ∨ 12 < j → gA m' j = gA m j := by
  unfold F_X9_want
  rw [bd_r, sub_hI]
  exact want_loop hty hL n 5000 m (Nat.le_refl _) (by omega) (by rw [Nat.sub_self]; exact hS)
theorem fitsM_89 {w : Nat} {j : Nat} {m : St} (hj : j < 8) : F_X9_fits_89 (nI w) (nI j) m = some (bI (decide (gA m 15 j = nI w)), m) := by
  unfold F_X9_fits_89
  rw [ck_in hj (by omega), bd_r, nI_clamp (by omega)]
  by_cases h : gA m 15 j = nI w
  · rw [if_pos h, decide_eq_true h]; rfl
  · rw [if_neg h, decide_eq_false h]; rfl
theorem fitsM_eq {N : Nat} {ct ar : Nat → Nat} {pk : Nat → Int32} {A : Nat} {fp : Int32} {n : Nat} {rw : Nat → Int32} {m : St} (h : RdM N ct ar pk A fp n rw m) (tm : Bool) {p : Nat} (hp : p < n) {w : Nat} (hw : w < 16) {nt : Nat → Int32} (hnt : ∀ i, i < 8 → gA m 15 i = nt i) :
    ∃ f, F_X9_fits (nI p) (nI w) (bI tm) m = some (bI (fit N ct tm (rw p) w nt), sA m 15 f) ∧ ∀ i, i < 8 → f i = ntN tm (rw p) w nt i := by
  have hN := h.1
  have hn := h.2.2.1
  obtain ⟨v, hv0⟩ : ∃ v, rw p = v := ⟨_, rfl⟩
  unfold F_X9_fits fit
  rw [ck_in (by omega) (by omega), bd_r, nI_clamp (by omega), h.2.2.2.2.2.2.2.2 p hp, hv0]
  by_cases hv : v < 0
  · rw [if_pos hv, if_pos hv]
    cases tm with
    | false =>
      rw [if_pos (by rfl), if_neg (show ¬ (false = true) by decide)]
      refine ⟨gA m 15, ?_, fun i hi => ?_⟩
      · rw [sA_gA]
        by_cases h1 : v = -1
        · rw [if_pos h1, decide_eq_true h1]; rfl
        · rw [if_neg h1, decide_eq_false h1]; rfl
      · unfold ntN
        rw [if_neg (fun z => by cases z.2.1), hnt i hi]
    | true =>
      rw [if_neg (show ¬ bI true = 0 by decide), if_pos rfl]
      obtain ⟨j, hj, e, hj8, -⟩ := neg_name hv
      unfold ntN
      by_cases h8 : j < 8
      · have hm8 : -8 ≤ v := hj8.mpr h8
        rw [if_pos hm8, bd_r, e, ck_in h8 (by omega), bd_r, nI_clamp hj, hnt j h8, decide_eq_true hm8, Bool.true_and]
        by_cases h1 : nt j = -1
        · rw [if_pos h1, if_pos ⟨hv, rfl, hm8, h1⟩, ck_in h8 (by omega), bd_r, fitsM_89 h8, gA_sA_s, upd_s, upd_s]
          refine ⟨upd (gA m 15) j (nI w), rfl, fun i hi => ?_⟩
          unfold upd
          split
          · rfl
          · exact hnt i hi
        · rw [if_neg h1, if_neg (fun z => h1 z.2.2.2), fitsM_89 h8, hnt j h8]
          exact ⟨gA m 15, by rw [sA_gA], hnt⟩
      · have hm8 : ¬ -8 ≤ v := fun z => h8 (hj8.mp z)
        rw [if_neg hm8, if_neg (fun z => hm8 z.2.2.1), decide_eq_false hm8, Bool.false_and]
        exact ⟨gA m 15, by rw [sA_gA]; rfl, hnt⟩
  · rw [if_neg hv, if_neg hv]
    obtain ⟨j, hj, rfl⟩ := nI_of hv
    rw [nI_clamp hj]
    refine ⟨gA m 15, ?_, fun i hi => ?_⟩
    · rw [sA_gA, h.2.2.2.1]
      by_cases hjN : j < N
      · rw [if_neg (nI_ge hjN (by omega)), ck_in (by omega) (by omega), bd_r, (h.2.2.2.2.1 j hjN).2.2.1]
        have hc := (h.2.2.2.2.1 j hjN).1
        by_cases hcw : ct j = w
        · rw [if_pos (by rw [hcw]), decide_eq_true ⟨hjN, hcw⟩]; rfl
        · rw [if_neg (fun z => hcw (nI_inj (by omega) (by omega) z)), decide_eq_false (fun z => hcw z.2)]; rfl
      · rw [if_pos (nI_le (by omega) hj), decide_eq_false (fun z => hjN z.1)]; rfl
    · unfold ntN
      rw [if_neg (fun z => hv z.1), hnt i hi]
theorem Ls_len {ar : Nat → Nat} {A : Nat} {rw : Nat → Int32} : ∀ p, (∀ q, q < p → aw ar (rw q) ≤ 4) → (Ls ar A rw p).length ≤ A + 4 * p := by
  intro p
  induction p with
  | zero => intro _; rw [Ls, sl_len]; omega
  | succ p ih =>
    intro har
    have h1 := har p (by omega)
    have h2 := ih (fun q hq => har q (by omega))
    rw [Ls, List.length_append, sl_len, List.length_tail]
    omega
theorem aw_le {N : Nat} {ct ar : Nat → Nat} {pk : Nat → Int32} {A : Nat} {fp : Int32} {n : Nat} {tm : Bool} {rw : Nat → Int32} {m : St} (h : RdM N ct ar pk A fp n rw m) {q : Nat} (hok : okP N ct ar pk A fp tm rw q = true) : aw ar (rw q) ≤ 4 := by
  have hN := h.1
  unfold aw
  by_cases hv : rw q < 0
  · rw [if_pos hv]; omega
  · obtain ⟨i, hi, e⟩ := (okP_fit hok).2 hv
    rw [if_neg hv, e, nI_clamp (by omega)]
    exact (h.2.2.2.2.1 i hi).2.1
theorem wrong_loop {N : Nat} {ct ar : Nat → Nat} {pk : Nat → Int32} {A : Nat} {fp : Int32} {n : Nat} {tm : Bool} {rw : Nat → Int32} :
    ∀ (d w p : Nat) (m : St), p + d = n → d < w → RdM N ct ar pk A fp n rw m → (∀ q, q < p → okP N ct ar pk A fp tm rw q = true) → Ls ar A rw p ≠ [] → StM pk fp rw (Ls ar A rw p) m → (∀ i, i < 8 → gA m 15 i = nts ar pk A fp tm rw p i) → (∀ q, q < p → gA m 13 q = hI (uS ar A rw q) ∧ gA m 14 q = nI (pS ar A rw q)) →
    ∃ m', F_X9_wrong_41 w (bI tm) (nI p) m = some (oI (wrA N ct ar pk A fp tm rw d p), m') ∧ (∀ j, j ≠ 6 → gF m' j = gF m j) ∧ (∀ j, j < 10 ∨ 15 < j → gA m' j = gA m j) ∧ (wrA N ct ar pk A fp tm rw d p = none → ∀ q, q < n → gA m' 13 q = hI (uS ar A rw q) ∧ gA m' 14 q = nI (pS ar A rw q)) := by
  intro d
  induction d with
  | zero =>
    intro w p m hpn hw hR hok hne hS hnt hup
    have hn := hR.2.2.1
    obtain ⟨w, rfl⟩ : ∃ z, w = z + 1 := ⟨w - 1, by omega⟩
    have hA := hR.2.1
    have hlen := Ls_len (ar := ar) (A := A) (rw := rw) p (fun q hq => aw_le hR (hok q hq))
    have hl0 : 0 < (Ls ar A rw p).length := List.length_pos_iff.mpr hne
    have hp : p = n := by omega
    subst hp
    have hE : ¬ (Ls ar A rw p).isEmpty = true := fun z => hne (List.isEmpty_iff.mp z)
    rw [F_X9_wrong_41, hS.1, if_neg (nI_nle hl0 (by omega)), hR.2.2.2.2.2.2.2.1, if_pos rfl, wrA, if_neg hE]
    exact ⟨m, rfl, fun _ _ => rfl, fun _ _ => rfl, fun z => by cases z⟩
  | succ d ih =>
    intro w p m hpn hw hR hok hne hS hnt hup
    have hn := hR.2.2.1
    have hN := hR.1
    have hA := hR.2.1
    obtain ⟨w, rfl⟩ : ∃ z, w = z + 1 := ⟨w - 1, by omega⟩
    have hlen := Ls_len (ar := ar) (A := A) (rw := rw) p (fun q hq => aw_le hR (hok q hq))
    have hl0 : 0 < (Ls ar A rw p).length := List.length_pos_iff.mpr hne
    obtain ⟨x, t, hx⟩ : ∃ x t, Ls ar A rw p = x :: t := ⟨_, _, hd_tail hne⟩
    have hhd : hd (Ls ar A rw p) = x := by rw [hx]; rfl
    have hE : (Ls ar A rw p).isEmpty = false := by rw [hx]; rfl
    obtain ⟨s1, s2⟩ := id hS
    obtain ⟨y1, y2, y3⟩ := s2 0 x (by rw [hx]; rfl)
    have hll : (Ls ar A rw p).length = t.length + 1 := by rw [hx]; rfl
    rw [hll] at s1 y1 y2 y3 hlen
    rw [show t.length + 1 - 1 - 0 = t.length by omega] at y1 y2 y3
    have hw16 : wty pk fp rw x < 16 := by
      unfold wty
      split <;> exact (ty_I _ _).2
    obtain ⟨f, e1, e2⟩ := fitsM_eq hR tm (show p < n by omega) hw16 hnt
    have hokP : okP N ct ar pk A fp tm rw p = fit N ct tm (rw p) (wty pk fp rw x) (nts ar pk A fp tm rw p) := by
      unfold okP
      rw [hE, hhd]
      rfl
    rw [F_X9_wrong_41, s1, if_neg (nI_nle (by omega) (by omega)), hR.2.2.2.2.2.2.2.1, if_neg (fun z => by have := nI_inj (by omega) (by omega) z; omega), sub1, ck_in (by omega) (by omega), bd_r, nI_clamp (n := t.length) (by omega), y1, e1, bo_s, wrA]
    cases hF : fit N ct tm (rw p) (wty pk fp rw x) (nts ar pk A fp tm rw p) with
    | false =>
      rw [hF] at hokP
      rw [hokP, if_pos (show bI false = 0 by decide), if_neg (by decide)]
      refine ⟨sA m 15 f, rfl, fun j _ => rfl, fun j j1 => ?_, fun z => by cases z⟩
      rw [gA_sA, if_neg (by omega)]
    | true =>
      rw [hF] at hokP
      have hok1 : ∀ q, q < p + 1 → okP N ct ar pk A fp tm rw q = true := by
        intro q hq
        by_cases hqp : q = p
        · rw [hqp]; exact hokP
        · exact hok q (by omega)
      rw [hokP, if_neg (show ¬ bI true = 0 by decide), if_pos rfl]
      obtain ⟨m1, hm1⟩ : ∃ m1, sA m 15 f = m1 := ⟨_, rfl⟩
      have f1 : ∀ j, gF m1 j = gF m j := fun j => by rw [← hm1]; rfl
      have a1 : ∀ j, j ≠ 15 → gA m1 j = gA m j := fun j j1 => by rw [← hm1, gA_sA, if_neg j1]
      have a15 : gA m1 15 = f := by rw [← hm1]; exact gA_sA_s m 15 f
      rw [hm1, f1, s1, sub1, bd_r]
      obtain ⟨m2, hm2⟩ : ∃ m2, sF m1 6 (nI t.length) = m2 := ⟨_, rfl⟩
      have g2 : gF m2 6 = nI t.length := by rw [← hm2]; rfl
      have a2 : ∀ j, gA m2 j = gA m1 j := fun j => by rw [← hm2]; rfl
      rw [hm2, g2, ck_in (by omega) (by omega), bd_r, nI_clamp (n := t.length) (by omega), a2 11, a1 11 (by omega), y2, ck_in (by omega) (by omega), bd_r, nI_clamp (n := p) (by omega)]
      obtain ⟨m3, hm3⟩ : ∃ m3, sA m2 13 (upd (gA m2 13) p (hI x.1)) = m3 := ⟨_, rfl⟩
      have g3 : gF m3 6 = nI t.length := by rw [← hm3]; exact g2
      have a3 : ∀ j, j ≠ 13 → gA m3 j = gA m1 j := fun j j1 => by rw [← hm3, gA_sA, if_neg j1, a2]
      rw [hm3, g3, ck_in (by omega) (by omega), bd_r, nI_clamp (n := t.length) (by omega), a3 12 (by omega), a1 12 (by omega), y3, ck_in (by omega) (by omega), bd_r]
      obtain ⟨m4, hm4⟩ : ∃ m4, sA m3 14 (upd (gA m3 14) p (nI x.2)) = m4 := ⟨_, rfl⟩
      have f4 : ∀ j, j ≠ 6 → gF m4 j = gF m j := fun j j1 => by rw [← hm4, gF_sA, ← hm3, gF_sA, ← hm2, gF_sF, if_neg j1, f1]
      have g4 : gF m4 6 = nI t.length := by rw [← hm4]; exact g3
      have a4 : ∀ j, j ≠ 13 → j ≠ 14 → j ≠ 15 → gA m4 j = gA m j := fun j j1 j2 j3 => by rw [← hm4, gA_sA, if_neg j2, a3 j j1, a1 j j3]
      have a415 : gA m4 15 = f := by rw [← hm4, gA_sA, if_neg (by omega), a3 15 (by omega), a15]
      have up4 : ∀ q, q < p + 1 → gA m4 13 q = hI (uS ar A rw q) ∧ gA m4 14 q = nI (pS ar A rw q) := by
        intro q hq
        have b1 : gA m4 13 = upd (gA m 13) p (hI x.1) := by rw [← hm4, gA_sA, if_neg (by omega), ← hm3, gA_sA_s, a2, a1 13 (by omega)]
        have b2 : gA m4 14 = upd (gA m 14) p (nI x.2) := by rw [← hm4, gA_sA_s, a3 14 (by omega), a1 14 (by omega)]
        rw [b1, b2]
        by_cases hqp : q = p
        · rw [hqp, upd_s, upd_s]
          unfold uS pS
          rw [hhd]
          exact ⟨rfl, rfl⟩
        · rw [upd_n _ _ hqp, upd_n _ _ hqp]; exact hup q (by omega)
      have hR4 : RdM N ct ar pk A fp n rw m4 := hR.kept (fun j hj => f4 j (by omega)) (fun j hj => a4 j (by omega) (by omega) (by omega))
      have hrp : gA m4 4 p = rw p := hR4.2.2.2.2.2.2.2.2 p (by omega)
      have hSt : StM pk fp rw t m4 := by
        refine ⟨g4, fun i y hy => ?_⟩
        have hi : i < t.length := (List.getElem?_eq_some_iff.mp hy).1
        have := s2 (i + 1) y (by rw [hx]; exact hy)
        rw [hll, show t.length + 1 - 1 - (i + 1) = t.length - 1 - i by omega] at this
        rw [a4 10 (by omega) (by omega) (by omega), a4 11 (by omega) (by omega) (by omega), a4 12 (by omega) (by omega) (by omega)]
        exact this
      rw [hm4, ck_in (by omega) (by omega), bd_r, hrp]
      -- what comes behind
      have fin : ∀ (m5 : St), (∀ j, j ≠ 6 → gF m5 j = gF m4 j) → (∀ j, j < 10 ∨ 12 < j → gA m5 j = gA m4 j) → StM pk fp rw (Ls ar A rw (p + 1)) m5 → ∃ m', F_X9_wrong_154 (F_X9_wrong_41 w) (bI tm) (nI p) m5 = some (oI (wrA N ct ar pk A fp tm rw d (p + 1)), m') ∧ (∀ j, j ≠ 6 → gF m' j = gF m j) ∧ (∀ j, j < 10 ∨ 15 < j → gA m' j = gA m j) ∧ (wrA N ct ar pk A fp tm rw d (p + 1) = none → ∀ q, q < n → gA m' 13 q = hI (uS ar A rw q) ∧ gA m' 14 q = nI (pS ar A rw q)) := by
        intro m5 f5 a5 hS5
        have hlen5 := Ls_len (ar := ar) (A := A) (rw := rw) (p + 1) (fun q hq => aw_le hR (hok1 q hq))
        have hR5 : RdM N ct ar pk A fp n rw m5 := hR4.kept (fun j hj => f5 j (by omega)) (fun j hj => a5 j (by omega))
        unfold F_X9_wrong_154
        rw [hS5.1]
        by_cases h0 : Ls ar A rw (p + 1) = []
        · rw [h0, if_pos (by rfl), F_X9_wrong_161, hR5.2.2.2.2.2.2.2.1, nI_1]
          cases d with
          | zero =>
            rw [if_pos (nI_le (by omega) (by omega)), wrA, h0, if_pos (by rfl)]
            exact ⟨m5, rfl, fun j j1 => by rw [f5 j j1, f4 j j1], fun j j1 => by rw [a5 j (by omega), a4 j (by omega) (by omega) (by omega)], fun _ q hq => by rw [a5 13 (by omega), a5 14 (by omega)]; exact up4 q (by omega)⟩
          | succ d =>
            have hk0 : okP N ct ar pk A fp tm rw (p + 1) = false := by unfold okP; rw [h0]; rfl
            rw [if_neg (nI_ge (by omega) (by omega)), wrA, hk0, if_neg (by decide)]
            exact ⟨m5, rfl, fun j j1 => by rw [f5 j j1, f4 j j1], fun j j1 => by rw [a5 j (by omega), a4 j (by omega) (by omega) (by omega)], fun z => by cases z⟩
        · rw [if_neg (nI_ne0 (List.length_pos_iff.mpr h0) (by omega)), nI_1]
          obtain ⟨m', r1, r2, r3, r4⟩ := ih w (p + 1) m5 (by omega) (by omega) hR5 hok1 h0 hS5 (fun i hi => by rw [a5 15 (by omega), a415, e2 i hi, nts, hhd]) (fun q hq => by rw [a5 13 (by omega), a5 14 (by omega)]; exact up4 q hq)
          exact ⟨m', r1, fun j j1 => by rw [r2 j j1, f5 j j1, f4 j j1], fun j j1 => by rw [r3 j j1, a5 j (by omega), a4 j (by omega) (by omega) (by omega)], r4⟩
      by_cases hv : rw p < 0
      · rw [if_pos hv]
        refine fin m4 (fun _ _ => rfl) (fun _ _ => rfl) ?_
        have ha : aw ar (rw p) = 0 := if_pos hv
        rw [Ls, ha, sl, List.nil_append, hx]
        exact hSt
      · obtain ⟨i, hi, e⟩ := (okP_fit hokP).2 hv
        have har := (hR4.2.2.2.2.1 i hi)
        rw [if_neg hv, ck_in (by omega) (by omega), bd_r, e, ck_in (by omega) (by omega), bd_r, nI_clamp (n := i) (by omega), har.2.2.2.1, ck_in (by omega) (by omega), bd_r, ck_in (by omega) (by omega), bd_r, nI_clamp (n := i) (by omega), har.2.2.2.2]
        have ha : aw ar (rw p) = ar i := by unfold aw; rw [if_neg hv, e, nI_clamp (by omega)]
        obtain ⟨m5, q1, q2, q3, q4⟩ := want_eq (L := t) (h := p + 1) (n := ar i) (all := pk i) (fun k hk => by
          unfold wty
          rw [if_neg (by simp)]
          show _ = ty (pk (rw p).toNatClampNeg) k
          rw [e, nI_clamp (by omega)]) (by omega) (by omega) hSt
        rw [show nI p = hI (p + 1) from rfl, q1, bo_s]
        refine fin m5 q3 q4 ?_
        rw [Ls, ha, hx]
        exact q2
theorem wrong_names {tm : Int32} : ∀ (d w i : Nat) (m : St), i + d = 8 → d < w → (∀ j, j < i → gA m 15 j = -1) → ∃ f, F_X9_wrong_2 w tm (nI i) m = F_X9_wrong_21 tm (sA m 15 f) ∧ ∀ j, j < 8 → f j = -1 := by
  intro d
  induction d with
  | zero =>
    intro w i m hi hw hj
    obtain ⟨w, rfl⟩ : ∃ z, w = z + 1 := ⟨w - 1, by omega⟩
    refine ⟨gA m 15, ?_, fun j h => hj j (by omega)⟩
    rw [sA_gA, F_X9_wrong_2, if_pos (show (8 : Int32) ≤ nI i from nI_le (a := 8) (by omega) (by omega))]
  | succ d ih =>
    intro w i m hi hw hj
    obtain ⟨w, rfl⟩ : ∃ z, w = z + 1 := ⟨w - 1, by omega⟩
    rw [F_X9_wrong_2, if_neg (show ¬ (8 : Int32) ≤ nI i from nI_ge (b := 8) (by omega) (by omega)), ck_in (by omega) (by omega), bd_r, nI_clamp (by omega), nI_1]
    obtain ⟨f, r1, r2⟩ := ih w (i + 1) (sA m 15 (upd (gA m 15) i (-1))) (by omega) (by omega) (fun j h => by
      rw [gA_sA_s]
      by_cases hji : j = i
      · rw [hji, upd_s]
      · rw [upd_n _ _ hji]; exact hj j (by omega))
    exact ⟨f, by rw [r1, sA_sA], r2⟩
theorem wrong_eq {N : Nat} {ct ar : Nat → Nat} {pk : Nat → Int32} {A : Nat} {fp : Int32} {n : Nat} (tm : Bool) {rw : Nat → Int32} {m : St} (hR : RdM N ct ar pk A fp n rw m) :
    ∃ m', F_X9_wrong (bI tm) m = some (oI (wrA N ct ar pk A fp tm rw n 0), m') ∧ (∀ j, j ≠ 6 → gF m' j = gF m j) ∧ (∀ j, j < 10 ∨ 15 < j → gA m' j = gA m j) ∧ (wrA N ct ar pk A fp tm rw n 0 = none → ∀ q, q < n → gA m' 13 q = hI (uS ar A rw q) ∧ gA m' 14 q = nI (pS ar A rw q)) := by
  have hn := hR.2.2.1
  have hA := hR.2.1
  unfold F_X9_wrong
  obtain ⟨f, e1, e2⟩ := wrong_names (tm := bI tm) 8 5000 0 m (by omega) (by omega) (fun j h => by omega)
  have e1' : F_X9_wrong_2 5000 (bI tm) 0 m = _ := e1
  rw [e1', F_X9_wrong_21, bd_r]
  obtain ⟨m1, hm1⟩ : ∃ m1, sF (sA m 15 f) 6 0 = m1 := ⟨_, rfl⟩
  have f1 : ∀ j, j ≠ 6 → gF m1 j = gF m j := fun j j1 => by rw [← hm1, gF_sF, if_neg j1]; rfl
  have a1 : ∀ j, j ≠ 15 → gA m1 j = gA m j := fun j j1 => by rw [← hm1, gA_sF, gA_sA, if_neg j1]
  have a15 : gA m1 15 = f := by rw [← hm1]; exact gA_sA_s m 15 f
  have hR1 : RdM N ct ar pk A fp n rw m1 := hR.kept (fun j hj => f1 j (by omega)) (fun j hj => a1 j (by omega))
  obtain ⟨m2, q1, q2, q3, q4⟩ := want_eq (pk := pk) (fp := fp) (rw := rw) (L := []) (h := 0) (n := A) (all := fp) (m := m1) (fun k hk => rfl) (by simp; omega) hA ⟨by rw [← hm1]; rfl, fun i x hx => by simp at hx⟩
  rw [List.append_nil] at q2
  rw [hm1, hR1.2.2.2.2.2.1, hR1.2.2.2.2.2.2.1, show (-1 : Int32) = hI 0 from rfl, q1, bo_s]
  have hR2 : RdM N ct ar pk A fp n rw m2 := hR1.kept (fun j hj => q3 j (by omega)) (fun j hj => q4 j (by omega))
  by_cases h0 : A = 0
  · have hL0 : Ls ar A rw 0 = [] := by rw [Ls, h0]; rfl
    have q2' := q2.1
    rw [h0] at q2'
    rw [F_X9_wrong_41, q2', if_pos (by decide), F_X9_wrong_185, hR2.2.2.2.2.2.2.2.1]
    cases n with
    | zero =>
      rw [if_pos (by decide), wrA, hL0, if_pos (by rfl)]
      exact ⟨m2, rfl, fun j j1 => by rw [q3 j j1, f1 j j1], fun j j1 => by rw [q4 j (by omega), a1 j (by omega)], fun _ q hq => by omega⟩
    | succ n =>
      have hk0 : okP N ct ar pk A fp tm rw 0 = false := by unfold okP; rw [hL0]; rfl
      rw [if_neg (nI_nle (by omega) (by omega)), wrA, hk0, if_neg (by decide)]
      exact ⟨m2, rfl, fun j j1 => by rw [q3 j j1, f1 j j1], fun j j1 => by rw [q4 j (by omega), a1 j (by omega)], fun z => by cases z⟩
  · have hne : Ls ar A rw 0 ≠ [] := by
      intro z
      have := congrArg List.length z
      rw [Ls, sl_len] at this
      exact h0 this
    obtain ⟨m', r1, r2, r3, r4⟩ := wrong_loop (tm := tm) n 5000 0 m2 (by omega) (by omega) hR2 (fun q hq => by omega) hne q2 (fun i hi => by rw [q4 15 (by omega), a15, e2 i hi]; rfl) (fun q hq => by omega)
    exact ⟨m', r1, fun j j1 => by rw [r2 j j1, q3 j j1, f1 j j1], fun j j1 => by rw [r3 j j1, q4 j (by omega), a1 j (by omega)], r4⟩
