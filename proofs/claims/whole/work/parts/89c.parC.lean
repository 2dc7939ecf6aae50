/-- the ends that are known when p numbers are hung up, before those that are whole are closed -/
def EI (ar : Nat → Nat) (A : Nat) (rw : Nat → Int32) (p h : Nat) (f : Nat → Int32) : Prop :=
  (∀ q, OnCh (uS ar A rw) h q → ∀ e, q < e → e < p → (Ls ar A rw q).length ≤ (Ls ar A rw e).length) ∧ ∀ q, q < p → (∃ e, e ≤ p ∧ f q = nI e ∧ Ends ar A rw q e) ∨ OnCh (uS ar A rw) h q
theorem close_loop {N : Nat} {ct ar : Nat → Nat} {pk : Nat → Int32} {A : Nat} {fp : Int32} {n : Nat} {rw : Nat → Int32} {p : Nat} (hp : p ≤ n) (hK : Kn N rw p) (hHG : ∀ q, q < p → HG ar A rw q) :
    ∀ (d w h k x : Nat) (c : St), RdC N ct ar pk A fp n rw c → h ≤ d → h ≤ p → x + h ≤ 160 → 161 - x ≤ w → gF c 6 = hI h → gF c 7 = nI k → Cn ar A rw h k (Ls ar A rw p) → (∀ q, q < p → gA c 13 q = hI (uS ar A rw q) ∧ gA c 14 q = nI (pS ar A rw q)) → EI ar A rw p h (gA c 15) → (∀ q, h = q + 1 → ¬ rw q < 0) →
    ∃ h' k' c', F_X2_closeWhole_2 w (nI p) (nI x) c = some (0, c') ∧ h' ≤ p ∧ Cn ar A rw h' k' (Ls ar A rw p) ∧ (h' = 0 ∨ k' < av ar A rw h') ∧ EI ar A rw p h' (gA c' 15) ∧ gF c' 6 = hI h' ∧ gF c' 7 = nI k' ∧ (∀ j, j ≠ 6 → j ≠ 7 → gF c' j = gF c j) ∧ ∀ j, j ≠ 15 → gA c' j = gA c j := by
  intro d
  induction d with
  | zero =>
    intro w h k x c hR hd hhp hx hw h6 h7 hC hup hE hnv
    have h0 : h = 0 := by omega
    subst h0
    obtain ⟨w, rfl⟩ : ∃ z, w = z + 1 := ⟨w - 1, by omega⟩
    refine ⟨0, k, c, ?_, Nat.zero_le _, hC, Or.inl rfl, hE, h6, h7, fun _ _ _ => rfl, fun _ _ => rfl⟩
    rw [F_X2_closeWhole_2]
    by_cases hx2 : 160 ≤ x
    · rw [if_pos (show (160 : Int32) ≤ nI x from nI_le (a := 160) hx2 (by omega))]
    · rw [if_neg (show ¬ (160 : Int32) ≤ nI x from nI_ge (b := 160) (by omega) (by omega)), h6, if_pos (by rfl)]
  | succ d ih =>
    intro w h k x c hR hd hhp hx hw h6 h7 hC hup hE hnv
    have hn := hR.2.2.1
    have hN := hR.1
    obtain ⟨w, rfl⟩ : ∃ z, w = z + 1 := ⟨w - 1, by omega⟩
    by_cases h0 : h = 0
    · subst h0
      refine ⟨0, k, c, ?_, Nat.zero_le _, hC, Or.inl rfl, hE, h6, h7, fun _ _ _ => rfl, fun _ _ => rfl⟩
      rw [F_X2_closeWhole_2]
      by_cases hx2 : 160 ≤ x
      · rw [if_pos (show (160 : Int32) ≤ nI x from nI_le (a := 160) hx2 (by omega))]
      · rw [if_neg (show ¬ (160 : Int32) ≤ nI x from nI_ge (b := 160) (by omega) (by omega)), h6, if_pos (by rfl)]
    · obtain ⟨q, rfl⟩ : ∃ q, h = q + 1 := ⟨h - 1, by omega⟩
      rw [F_X2_closeWhole_2, if_neg (show ¬ (160 : Int32) ≤ nI x from nI_ge (b := 160) (by omega) (by omega)), h6, if_neg (hI_ne h0 (by omega)), holding_eq hR (by omega) h6, bo_s, if_neg h0]
      obtain ⟨i, hi, e⟩ := hK q (by omega) (hnv q rfl)
      have e2 : rw (q + 1 - 1) = nI i := e
      have hav : av ar A rw (q + 1) = ar i := av_con e (by omega)
      have har := (hR.2.2.2.2.1 i hi).2.1
      have hk4 := hC.1
      rw [e2, partsN hR hi, bo_s, h7]
      by_cases hk : k < av ar A rw (q + 1)
      · rw [if_neg (nI_ge (by omega) (by omega))]
        exact ⟨q + 1, k, c, rfl, hhp, hC, Or.inr hk, hE, h6, h7, fun _ _ _ => rfl, fun _ _ => rfl⟩
      · have hg := hHG q (by omega)
        obtain ⟨hLt, hC2⟩ := hC.close hk hg
        have hu := hg.2.2.2
        obtain ⟨f, hf⟩ : ∃ f, upd (gA c 15) q (nI p) = f := ⟨_, rfl⟩
        have h6' : gF c 6 = nI q := h6
        rw [if_pos (nI_le (by omega) (by omega)), h6', wr_in _ _ (by omega) (by omega), hf, bd_r]
        obtain ⟨c1, hc1⟩ : ∃ c1, sA c 15 f = c1 := ⟨_, rfl⟩
        have c16 : gF c1 6 = nI q := by rw [← hc1]; exact h6
        have c114 : gA c1 14 q = nI (pS ar A rw q) := by rw [← hc1]; exact (hup q (by omega)).2
        rw [hc1, c16, rd_in _ (by omega) (by omega), c114, bd_r, nI_1, bd_r]
        obtain ⟨c2, hc2⟩ : ∃ c2, sF c1 7 (nI (pS ar A rw q + 1)) = c2 := ⟨_, rfl⟩
        have c26 : gF c2 6 = nI q := by rw [← hc2]; exact c16
        have c213 : gA c2 13 q = hI (uS ar A rw q) := by rw [← hc2, ← hc1]; exact (hup q (by omega)).1
        rw [hc2, c26, rd_in _ (by omega) (by omega), c213, bd_r, bd_r, nI_1]
        obtain ⟨c3, hc3⟩ : ∃ c3, sF c2 6 (hI (uS ar A rw q)) = c3 := ⟨_, rfl⟩
        rw [hc3]
        have f3 : ∀ j, j ≠ 6 → j ≠ 7 → gF c3 j = gF c j := by
          intro j j1 j2
          rw [← hc3, ← hc2, ← hc1, gF_sF, if_neg j1, gF_sF, if_neg j2, gF_sA]
        have a3 : ∀ j, j ≠ 15 → gA c3 j = gA c j := by
          intro j j1
          rw [← hc3, ← hc2, ← hc1, gA_sF, gA_sF, gA_sA, if_neg j1]
        have a15 : gA c3 15 = f := by rw [← hc3, ← hc2, ← hc1]; exact gA_sA_s c 15 f
        obtain ⟨h', k', c', r1, r2, r3, r4, r5, r6, r7, r8, r9⟩ := ih w (uS ar A rw q) (pS ar A rw q + 1) (x + 1) c3 (hR.kept (fun j hj => f3 j (by omega) (by omega)) (fun j hj => a3 j (by omega))) (by omega) (by omega) (by omega) (by omega) (by rw [← hc3]; rfl) (by rw [← hc3, ← hc2]; rfl) hC2 (fun q' hq' => by rw [a3 13 (by omega), a3 14 (by omega)]; exact hup q' hq') (by
          rw [a15, ← hf]
          refine ⟨fun q' o => hE.1 q' o.up, fun q' hq' => ?_⟩
          by_cases hqq : q' = q
          · subst hqq
            left
            refine ⟨p, Nat.le_refl _, upd_s _ _ _, by omega, ?_, fun e' e1 e3 => hE.1 q' (OnCh.self _ q') e' e1 e3⟩
            rw [hLt, tail_len hg.1]
            omega
          · rw [upd_n _ _ hqq]
            rcases hE.2 q' hq' with z | o
            · exact Or.inl z
            · exact Or.inr ((o.down).resolve_left hqq)) (fun q' hq' z => by
          have h9 := hg.2.2.1
          rw [hq'] at h9
          have : av ar A rw (q' + 1) = 0 := by
            unfold av
            rw [if_neg (by omega)]
            exact if_pos z
          omega)
        exact ⟨h', k', c', r1, r2, r3, r4, r5, r6, r7, fun j j1 j2 => by rw [r8 j j1 j2, f3 j j1 j2], fun j j1 => by rw [r9 j j1, a3 j j1]⟩
/-- where reading stands: p numbers are hung up, those that are whole are closed -/
def PI (ar : Nat → Nat) (pk : Nat → Int32) (A : Nat) (fp : Int32) (tm : Bool) (rw : Nat → Int32) (p h k : Nat) (c : St) : Prop :=
  gF c 6 = hI h ∧ gF c 7 = nI k ∧ Cn ar A rw h k (Ls ar A rw p) ∧ (h = 0 ∨ k < av ar A rw h) ∧ h ≤ p ∧ (∀ q, q < p → gA c 13 q = hI (uS ar A rw q) ∧ gA c 14 q = nI (pS ar A rw q)) ∧ (∀ i, i < 8 → gA c 16 i = nts ar pk A fp tm rw p i) ∧ EI ar A rw p h (gA c 15)
theorem hang_step {N : Nat} {ct ar : Nat → Nat} {pk : Nat → Int32} {A : Nat} {fp : Int32} {n : Nat} {tm : Bool} {rw : Nat → Int32} {p h k : Nat} {c : St} (hR : RdC N ct ar pk A fp n rw c) (hp : p < n) (hK : Kn N rw (p + 1)) (hHG : ∀ q, q ≤ p → HG ar A rw q) (hk : k < av ar A rw h) (hI1 : gF c 6 = hI h) (hI2 : gF c 7 = nI k) (hI3 : Cn ar A rw h k (Ls ar A rw p)) (hI5 : h ≤ p) (hI6 : ∀ q, q < p → gA c 13 q = hI (uS ar A rw q) ∧ gA c 14 q = nI (pS ar A rw q)) (hI8 : EI ar A rw p h (gA c 15)) (K : St → Rs) :
    ∃ h' k' c', bo (F_X2_hang (nI p) c) (fun r17 s18 => bo (F_X2_closeWhole (nI p + 1) s18) (fun r20 s21 => K s21)) = K c' ∧ h' ≤ p + 1 ∧ Cn ar A rw h' k' (Ls ar A rw (p + 1)) ∧ (h' = 0 ∨ k' < av ar A rw h') ∧ EI ar A rw (p + 1) h' (gA c' 15) ∧ gF c' 6 = hI h' ∧ gF c' 7 = nI k' ∧ (∀ q, q < p + 1 → gA c' 13 q = hI (uS ar A rw q) ∧ gA c' 14 q = nI (pS ar A rw q)) ∧ (∀ j, j ≠ 6 → j ≠ 7 → gF c' j = gF c j) ∧ ∀ j, j < 13 ∨ 15 < j → gA c' j = gA c j := by
  have hn := hR.2.2.1
  have hN := hR.1
  have hu : uS ar A rw p = h := by unfold uS; rw [hI3.head hk]
  have hpp : pS ar A rw p = k := by unfold pS; rw [hI3.head hk]
  obtain ⟨p1, p2⟩ := hI3.push hk
  -- the open ones stay open
  have hopen : ∀ q, OnCh (uS ar A rw) h q → ∀ e, q < e → e < p + 1 → (Ls ar A rw q).length ≤ (Ls ar A rw e).length := by
    intro q o e e1 e2
    by_cases hep : e = p
    · rw [hep]
      obtain ⟨f, of⟩ := o
      have h3 := OnC.len f h k q (Ls ar A rw p) of (fun q' hq' => hHG q' (by omega)) hI3
      have h4 := tail_len (hHG q (by omega)).1
      omega
    · exact hI8.1 q o e e1 (by omega)
  unfold F_X2_hang
  rw [hI1, wr_in _ _ (by omega) (by omega), bd_r]
  obtain ⟨c1, hc1⟩ : ∃ c1, sA c 13 (upd (gA c 13) p (hI h)) = c1 := ⟨_, rfl⟩
  have c17 : gF c1 7 = nI k := by rw [← hc1]; exact hI2
  rw [hc1, c17, wr_in _ _ (by omega) (by omega), bd_r]
  obtain ⟨c2, hc2⟩ : ∃ c2, sA c1 14 (upd (gA c1 14) p (nI k)) = c2 := ⟨_, rfl⟩
  have f2 : ∀ j, gF c2 j = gF c j := fun j => by rw [← hc2, ← hc1]; rfl
  have a2 : ∀ j, j ≠ 13 → j ≠ 14 → gA c2 j = gA c j := by
    intro j j1 j2
    rw [← hc2, ← hc1, gA_sA, if_neg j2, gA_sA, if_neg j1]
  have a13 : gA c2 13 = upd (gA c 13) p (hI h) := by rw [← hc2, ← hc1]; rfl
  have a14 : gA c2 14 = upd (gA c 14) p (nI k) := by rw [← hc2, ← hc1]; rfl
  have up2 : ∀ q, q < p + 1 → gA c2 13 q = hI (uS ar A rw q) ∧ gA c2 14 q = nI (pS ar A rw q) := by
    intro q hq
    rw [a13, a14]
    by_cases hqp : q = p
    · rw [hqp, upd_s, upd_s, hu, hpp]; exact ⟨rfl, rfl⟩
    · rw [upd_n _ _ hqp, upd_n _ _ hqp]; exact hI6 q (by omega)
  have hrp : gA c2 12 p = rw p := by rw [a2 12 (by omega) (by omega)]; exact hR.2.2.2.2.2.2.2 p hp
  rw [hc2, rd_in _ (by omega) (by omega), hrp, bd_r]
  by_cases hv : rw p < 0
  · rw [if_pos hv, nI_1, wr_in _ _ (by omega) (by omega), bd_r]
    obtain ⟨c3, hc3⟩ : ∃ c3, sA c2 15 (upd (gA c2 15) p (nI (p + 1))) = c3 := ⟨_, rfl⟩
    have c37 : gF c3 7 = nI k := by rw [← hc3, gF_sA, f2]; exact hI2
    rw [hc3, c37, nI_1, bd_r]
    obtain ⟨c4, hc4⟩ : ∃ c4, sF c3 7 (nI (k + 1)) = c4 := ⟨_, rfl⟩
    rw [hc4, bo_s]
    have f4 : ∀ j, j ≠ 7 → gF c4 j = gF c j := fun j j1 => by rw [← hc4, ← hc3, gF_sF, if_neg j1, gF_sA, f2]
    have a4 : ∀ j, j ≠ 15 → gA c4 j = gA c2 j := fun j j1 => by rw [← hc4, ← hc3, gA_sF, gA_sA, if_neg j1]
    have a45 : gA c4 15 = upd (gA c 15) p (nI (p + 1)) := by rw [← hc4, ← hc3, gA_sF, gA_sA_s, a2 15 (by omega) (by omega)]
    obtain ⟨h', k', c', r1, r2, r3, r4, r5, r6, r7, r8, r9⟩ := close_loop (p := p + 1) (by omega) hK (fun q hq => hHG q (by omega)) 200 5000 h (k + 1) 0 c4 (hR.kept (fun j hj => f4 j (by omega)) (fun j hj => by rw [a4 j (by omega), a2 j (by omega) (by omega)])) (by omega) (by omega) (by omega) (by omega) (by rw [f4 6 (by omega)]; exact hI1) (by rw [← hc4]; rfl) (p1 hv) (fun q hq => by rw [a4 13 (by omega), a4 14 (by omega)]; exact up2 q hq) (by
      rw [a45]
      refine ⟨hopen, fun q hq => ?_⟩
      by_cases hqp : q = p
      · subst hqp
        left
        refine ⟨q + 1, Nat.le_refl _, upd_s _ _ _, by omega, ?_, fun e' e1 e2 => by omega⟩
        have ha : aw ar (rw q) = 0 := if_pos hv
        rw [Ls, ha, sl, List.nil_append, tail_len (hHG q (Nat.le_refl _)).1]
        omega
      · rw [upd_n _ _ hqp]
        rcases hI8.2 q (by omega) with ⟨e, e1, e2, e3⟩ | o
        · exact Or.inl ⟨e, by omega, e2, e3⟩
        · exact Or.inr o) (fun q hq z => by
      rw [hq] at hk
      have : av ar A rw (q + 1) = 0 := by
        unfold av
        rw [if_neg (by omega)]
        exact if_pos z
      omega)
    have r1' : F_X2_closeWhole (nI (p + 1)) c4 = some (0, c') := r1
    refine ⟨h', k', c', ?_, r2, r3, r4, r5, r6, r7, fun q hq => ?_, fun j j1 j2 => ?_, fun j j1 => ?_⟩
    · rw [r1', bo_s]
    · rw [r9 13 (by omega), r9 14 (by omega), a4 13 (by omega), a4 14 (by omega)]; exact up2 q hq
    · rw [r8 j j1 j2, f4 j j2]
    · rw [r9 j (by omega), a4 j (by omega), a2 j (by omega) (by omega)]
  · rw [if_neg hv, bd_r]
    obtain ⟨c3, hc3⟩ : ∃ c3, sF c2 6 (nI p) = c3 := ⟨_, rfl⟩
    rw [hc3, bd_r]
    obtain ⟨c4, hc4⟩ : ∃ c4, sF c3 7 0 = c4 := ⟨_, rfl⟩
    rw [hc4, bo_s]
    have f4 : ∀ j, j ≠ 6 → j ≠ 7 → gF c4 j = gF c j := fun j j1 j2 => by rw [← hc4, ← hc3, gF_sF, if_neg j2, gF_sF, if_neg j1, f2]
    have a4 : ∀ j, gA c4 j = gA c2 j := fun j => by rw [← hc4, ← hc3]; rfl
    obtain ⟨h', k', c', r1, r2, r3, r4, r5, r6, r7, r8, r9⟩ := close_loop (p := p + 1) (by omega) hK (fun q hq => hHG q (by omega)) 200 5000 (p + 1) 0 0 c4 (hR.kept (fun j hj => f4 j (by omega) (by omega)) (fun j hj => by rw [a4 j, a2 j (by omega) (by omega)])) (by omega) (by omega) (by omega) (by omega) (by rw [← hc4, ← hc3]; rfl) (by rw [← hc4]; rfl) (p2 hv) (fun q hq => by rw [a4 13, a4 14]; exact up2 q hq) (by
      rw [a4 15, a2 15 (by omega) (by omega)]
      refine ⟨fun q o e e1 e2 => ?_, fun q hq => ?_⟩
      · rcases o.down with o | o
        · omega
        · rw [hu] at o; exact hopen q o e e1 e2
      · by_cases hqp : q = p
        · rw [hqp]; exact Or.inr (OnCh.self _ p)
        · rcases hI8.2 q (by omega) with ⟨e, e1, e2, e3⟩ | o
          · exact Or.inl ⟨e, by omega, e2, e3⟩
          · exact Or.inr (OnCh.up (by rw [hu]; exact o))) (fun q hq => by
      have : q = p := by omega
      rw [this]; exact hv)
    have r1' : F_X2_closeWhole (nI (p + 1)) c4 = some (0, c') := r1
    refine ⟨h', k', c', ?_, r2, r3, r4, r5, r6, r7, fun q hq => ?_, fun j j1 j2 => ?_, fun j j1 => ?_⟩
    · rw [nI_1, r1', bo_s]
    · rw [r9 13 (by omega), r9 14 (by omega), a4 13, a4 14]; exact up2 q hq
    · rw [r8 j j1 j2, f4 j j1 j2]
    · rw [r9 j (by omega), a4 j, a2 j (by omega) (by omega)]
theorem okP_fit {N : Nat} {ct ar : Nat → Nat} {pk : Nat → Int32} {A : Nat} {fp : Int32} {tm : Bool} {rw : Nat → Int32} {p : Nat} (h : okP N ct ar pk A fp tm rw p = true) : Ls ar A rw p ≠ [] ∧ (¬ rw p < 0 → ∃ i, i < N ∧ rw p = nI i) := by
  unfold okP at h
  rw [Bool.and_eq_true] at h
  refine ⟨fun z => ?_, fun hv => ?_⟩
  · rw [z] at h
    cases h.1
  · have h2 := h.2
    unfold fit at h2
    rw [if_neg hv] at h2
    obtain ⟨j, hj, e⟩ := nI_of hv
    have h3 := (of_decide_eq_true h2).1
    rw [e, nI_clamp hj] at h3
    exact ⟨j, h3, e⟩
theorem first_loop {N : Nat} {ct ar : Nat → Nat} {pk : Nat → Int32} {A : Nat} {fp : Int32} {n : Nat} {tm : Bool} {rw : Nat → Int32} :
    ∀ (d w p h k : Nat) (c : St), p + d = n → d < w → RdC N ct ar pk A fp n rw c → (∀ q, q < p → okP N ct ar pk A fp tm rw q = true) → PI ar pk A fp tm rw p h k c →
    ∃ c', F_X2_firstWrong_21 w (nI n) (bI tm) (nI p) c = some (oI (wrA N ct ar pk A fp tm rw d p), c') ∧ (∀ j, j ≠ 6 → j ≠ 7 → gF c' j = gF c j) ∧ (∀ j, j < 13 ∨ 16 < j → gA c' j = gA c j) ∧ (wrA N ct ar pk A fp tm rw d p = none → ∀ q, q < n → gA c' 13 q = hI (uS ar A rw q) ∧ gA c' 14 q = nI (pS ar A rw q) ∧ gA c' 15 q = nI (enS ar A rw q)) := by
  intro d
  induction d with
  | zero =>
    intro w p h k c hpn hw hR hok hP
    have hn := hR.2.2.1
    obtain ⟨w, rfl⟩ : ∃ z, w = z + 1 := ⟨w - 1, by omega⟩
    have hp : p = n := by omega
    subst hp
    obtain ⟨i1, i2, i3, i4, i5, i6, i7, i8⟩ := hP
    rw [F_X2_firstWrong_21, if_pos (nI_le (Nat.le_refl _) (by omega)), F_X2_firstWrong_96, whole_eq hR i5 i1 i2 i3 i4, bo_s, wrA]
    by_cases hE : (Ls ar A rw p).isEmpty = true
    · rw [hE, if_pos rfl, if_neg (show ¬ bI true = 0 by decide)]
      refine ⟨c, rfl, fun _ _ _ => rfl, fun _ _ => rfl, fun _ q hq => ⟨(i6 q hq).1, (i6 q hq).2, ?_⟩⟩
      have hL : Ls ar A rw p = [] := List.isEmpty_iff.mp hE
      have h0 : h = 0 := by
        rcases i4 with z | z
        · exact z
        · have := (i3.next z).1
          rw [hL] at this
          cases this
      rcases i8.2 q hq with ⟨e, e1, e2, e3⟩ | o
      · rw [e2, e3.eq (by omega)]
      · rw [h0] at o
        exact o.zero.elim
    · have hE' : (Ls ar A rw p).isEmpty = false := by simpa using hE
      rw [hE', if_pos (show bI false = 0 by decide), if_neg (by decide)]
      exact ⟨c, rfl, fun _ _ _ => rfl, fun _ _ => rfl, fun z => by cases z⟩
  | succ d ih =>
    intro w p h k c hpn hw hR hok hP
    have hn := hR.2.2.1
    have hN := hR.1
    obtain ⟨w, rfl⟩ : ∃ z, w = z + 1 := ⟨w - 1, by omega⟩
    obtain ⟨i1, i2, i3, i4, i5, i6, i7, i8⟩ := hP
    rw [F_X2_firstWrong_21, if_neg (nI_ge (by omega) (by omega)), whole_eq hR (by omega) i1 i2 i3 i4, bo_s, wrA]
    by_cases hE : (Ls ar A rw p).isEmpty = true
    · have hk0 : okP N ct ar pk A fp tm rw p = false := by unfold okP; rw [hE]; rfl
      rw [hE, if_neg (show ¬ bI true = 0 by decide), hk0, if_neg (by decide)]
      exact ⟨c, rfl, fun _ _ _ => rfl, fun _ _ => rfl, fun z => by cases z⟩
    · have hE' : (Ls ar A rw p).isEmpty = false := by simpa using hE
      have hne : Ls ar A rw p ≠ [] := fun z => hE (by rw [z]; rfl)
      have hk : k < av ar A rw h := by
        rcases i4 with z | z
        · subst z
          rcases Nat.lt_or_ge k (av ar A rw 0) with y | y
          · exact y
          · exfalso
            apply hne
            rw [i3.2, show av ar A rw 0 - k = 0 by omega]
            rfl
        · exact z
      have hKn : Kn N rw p := fun q hq hv => (okP_fit (hok q hq)).2 hv
      have hhd : hd (Ls ar A rw p) = (h, k) := i3.head hk
      rw [hE', if_pos (show bI false = 0 by decide), holding_eq hR (by omega) i1, bo_s, i2, wanted_eq hR i5 (by omega) hKn hk, bo_s, rd_in _ (by omega) (by omega), hR.2.2.2.2.2.2.2 p (by omega), bd_r]
      have hw16 : wty pk fp rw (h, k) < 16 := by
        unfold wty
        split <;> exact (ty_I _ _).2
      obtain ⟨f, e1, e2⟩ := fits_eq hR tm (rw p) hw16 i7
      rw [e1, bo_s]
      have hokP : okP N ct ar pk A fp tm rw p = fit N ct tm (rw p) (wty pk fp rw (h, k)) (nts ar pk A fp tm rw p) := by
        unfold okP
        rw [hE', hhd]
        rfl
      cases hF : fit N ct tm (rw p) (wty pk fp rw (h, k)) (nts ar pk A fp tm rw p) with
      | false =>
        rw [hF] at hokP
        rw [hokP, if_pos (show bI false = 0 by decide), if_neg (by decide)]
        refine ⟨sA c 16 f, rfl, fun j _ _ => rfl, fun j j1 => ?_, fun z => by cases z⟩
        rw [gA_sA, if_neg (by omega)]
      | true =>
        rw [hF] at hokP
        rw [hokP, if_neg (show ¬ bI true = 0 by decide), if_pos rfl]
        obtain ⟨c1, hc1⟩ : ∃ c1, sA c 16 f = c1 := ⟨_, rfl⟩
        rw [hc1]
        have f1 : ∀ j, gF c1 j = gF c j := fun j => by rw [← hc1]; rfl
        have a1 : ∀ j, j ≠ 16 → gA c1 j = gA c j := fun j j1 => by rw [← hc1, gA_sA, if_neg j1]
        have a16 : gA c1 16 = f := by rw [← hc1]; exact gA_sA_s c 16 f
        have hR1 : RdC N ct ar pk A fp n rw c1 := hR.kept (fun j _ => f1 j) (fun j hj => a1 j (by omega))
        have hok1 : ∀ q, q < p + 1 → okP N ct ar pk A fp tm rw q = true := by
          intro q hq
          by_cases hqp : q = p
          · rw [hqp]; exact hokP
          · exact hok q (by omega)
        have hHG := HG_all (ar := ar) (A := A) (rw := rw) p (fun q hq => (okP_fit (hok1 q (by omega))).1)
        obtain ⟨h', k', c', r1, r2, r3, r4, r5, r6, r7, r8, r9, r10⟩ := hang_step (tm := tm) hR1 (show p < n by omega) (fun q hq hv => (okP_fit (hok1 q hq)).2 hv) hHG hk (by rw [f1]; exact i1) (by rw [f1]; exact i2) i3 i5 (fun q hq => by rw [a1 13 (by omega), a1 14 (by omega)]; exact i6 q hq) (by rw [a1 15 (by omega)]; exact i8) (F_X2_firstWrong_21 w (nI n) (bI tm) (nI p + 1))
        rw [r1, nI_1]
        obtain ⟨c2, s1, s2, s3, s4⟩ := ih w (p + 1) h' k' c' (by omega) (by omega) (hR1.kept (fun j hj => r9 j (by omega) (by omega)) (fun j hj => r10 j (by omega))) hok1 ⟨r6, r7, r3, r4, r2, r8, fun i hi => by
          rw [r10 16 (by omega), a16, e2 i hi, nts, hhd], r5⟩
        exact ⟨c2, s1, fun j j1 j2 => by rw [s2 j j1 j2, r9 j j1 j2, f1], fun j j1 => by rw [s3 j j1, r10 j (by omega), a1 j (by omega)], s4⟩
theorem firstWrong_eq {N : Nat} {ct ar : Nat → Nat} {pk : Nat → Int32} {A : Nat} {fp : Int32} {n : Nat} (tm : Bool) {rw : Nat → Int32} {c : St} (hR : RdC N ct ar pk A fp n rw c) :
    ∃ c', F_X2_firstWrong (nI n) (bI tm) c = some (oI (wrA N ct ar pk A fp tm rw n 0), c') ∧ (∀ j, j ≠ 6 → j ≠ 7 → gF c' j = gF c j) ∧ (∀ j, j < 13 ∨ 16 < j → gA c' j = gA c j) ∧ (wrA N ct ar pk A fp tm rw n 0 = none → ∀ q, q < n → gA c' 13 q = hI (uS ar A rw q) ∧ gA c' 14 q = nI (pS ar A rw q) ∧ gA c' 15 q = nI (enS ar A rw q)) := by
  have hn := hR.2.2.1
  unfold F_X2_firstWrong
  rw [bd_r, bd_r, bd_r]
  obtain ⟨c1, hc1⟩ : ∃ c1, sF (sF (sA c 16 (fl 8 (gA c 16) (-1))) 6 (-1)) 7 0 = c1 := ⟨_, rfl⟩
  have f1 : ∀ j, j ≠ 6 → j ≠ 7 → gF c1 j = gF c j := fun j j1 j2 => by rw [← hc1, gF_sF, if_neg j2, gF_sF, if_neg j1]; rfl
  have a1 : ∀ j, j ≠ 16 → gA c1 j = gA c j := fun j j1 => by rw [← hc1, gA_sF, gA_sF, gA_sA, if_neg j1]
  rw [hc1]
  obtain ⟨c', r1, r2, r3, r4⟩ := first_loop (tm := tm) n 5000 0 0 0 c1 (by omega) (by omega) (hR.kept (fun j hj => f1 j (by omega) (by omega)) (fun j hj => a1 j (by omega))) (fun q hq => by omega) ⟨by rw [← hc1]; rfl, by rw [← hc1]; rfl, ⟨Nat.zero_le _, by rw [if_pos rfl, List.append_nil]; rfl⟩, Or.inl rfl, Nat.le_refl _, fun q hq => by omega, fun i hi => by
    rw [← hc1]
    show fl 8 (gA c 16) (-1) i = -1
    exact if_pos hi, fun q o => o.zero.elim, fun q hq => by omega⟩
  exact ⟨c', r1, fun j j1 j2 => by rw [r2 j j1 j2, f1 j j1 j2], fun j j1 => by rw [r3 j j1, a1 j (by omega)], r4⟩
