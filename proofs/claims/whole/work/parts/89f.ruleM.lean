theorem rule_loop {N : Nat} {ct ar : Nat → Nat} {pk : Nat → Int32} {A : Nat} {fp : Int32} {n : Nat} {rw : Nat → Int32} {B : Nat} (hB : B + 160 ≤ 3840) (hok : ∀ q, q < n → okP N ct ar pk A fp false rw q = true) (h0 : Ls ar A rw n = []) :
    ∀ (d w k : Nat) (m : St), k + d = n → d < w → RdM N ct ar pk A fp n rw m → (∀ q, q < n → gA m 13 q = hI (uS ar A rw q) ∧ gA m 14 q = nI (pS ar A rw q)) → (∀ q, q < k → gA m 5 (B + q) = rw q ∧ gA m 6 (B + q) = hI (uS ar A rw q) ∧ gA m 7 (B + q) = nI (pS ar A rw q) ∧ gA m 8 (B + q) = nI (enS ar A rw q)) →
    ∃ m', F_X9_rule_55 w (nI B) (nI k) m = F_X9_rule_171 m' ∧ (∀ q, q < n → gA m' 5 (B + q) = rw q ∧ gA m' 6 (B + q) = hI (uS ar A rw q) ∧ gA m' 7 (B + q) = nI (pS ar A rw q) ∧ gA m' 8 (B + q) = nI (enS ar A rw q)) ∧ (∀ j, gF m' j = gF m j) ∧ (∀ j, j < 5 ∨ 8 < j → gA m' j = gA m j) ∧ ∀ j x, x < B → gA m' j x = gA m j x := by
  intro d
  induction d with
  | zero =>
    intro w k m hk hw hR hup hd
    obtain ⟨w, rfl⟩ : ∃ z, w = z + 1 := ⟨w - 1, by omega⟩
    have hn := hR.2.2.1
    have : k = n := by omega
    subst this
    rw [F_X9_rule_55, hR.2.2.2.2.2.2.2.1, if_pos (nI_le (Nat.le_refl _) (by omega))]
    exact ⟨m, rfl, hd, fun _ => rfl, fun _ _ => rfl, fun _ _ _ => rfl⟩
  | succ d ih =>
    intro w k m hk hw hR hup hd
    obtain ⟨w, rfl⟩ : ∃ z, w = z + 1 := ⟨w - 1, by omega⟩
    have hn := hR.2.2.1
    obtain ⟨u1, u2⟩ := hup k (by omega)
    rw [F_X9_rule_55, hR.2.2.2.2.2.2.2.1, if_neg (nI_ge (by omega) (by omega)), ck_in (by omega) (by omega), bd_r, nI_clamp (n := k) (by omega), hR.2.2.2.2.2.2.2.2 k (by omega), nI_add, ck_in (by omega) (by omega), bd_r, nI_clamp (n := B + k) (by omega)]
    obtain ⟨m1, hm1⟩ : ∃ m1, sA m 5 (upd (gA m 5) (B + k) (rw k)) = m1 := ⟨_, rfl⟩
    have b1 : gA m1 13 k = hI (uS ar A rw k) := by rw [← hm1]; exact u1
    rw [hm1, ck_in (by omega) (by omega), bd_r, b1, ck_in (by omega) (by omega), bd_r]
    obtain ⟨m2, hm2⟩ : ∃ m2, sA m1 6 (upd (gA m1 6) (B + k) (hI (uS ar A rw k))) = m2 := ⟨_, rfl⟩
    have b2 : gA m2 14 k = nI (pS ar A rw k) := by rw [← hm2, ← hm1]; exact u2
    rw [hm2, ck_in (by omega) (by omega), bd_r, b2, ck_in (by omega) (by omega), bd_r]
    obtain ⟨m3, hm3⟩ : ∃ m3, sA m2 7 (upd (gA m2 7) (B + k) (nI (pS ar A rw k))) = m3 := ⟨_, rfl⟩
    rw [hm3]
    have f3 : ∀ j, gF m3 j = gF m j := fun j => by rw [← hm3, ← hm2, ← hm1]; rfl
    have a3 : ∀ j, j < 5 ∨ 7 < j → gA m3 j = gA m j := fun j j1 => by rw [← hm3, gA_sA, if_neg (by omega), ← hm2, gA_sA, if_neg (by omega), ← hm1, gA_sA, if_neg (by omega)]
    have hR3 : RdM N ct ar pk A fp n rw m3 := by
      unfold RdM
      rw [f3, f3, f3, f3, a3 1 (by omega), a3 2 (by omega), a3 3 (by omega), a3 4 (by omega)]
      exact hR
    have hne := (okP_fit (hok k (by omega))).1
    obtain ⟨z1, z2, z3, z4, -⟩ := Ls_run hn hok h0 n k _ _ (by omega) (by omega) (hd_tail hne)
    have hlk := lack_loop (F_X9_rule_55 w) (B := B) hR3 hok (show k < n by omega) z4 z2 (enS ar A rw k - k) 5000 k 1 (by omega) (Nat.le_refl _) (by omega) rfl
    have hlk' : F_X9_rule_111 (F_X9_rule_55 w) 5000 (nI B) (nI k) 1 (nI k) m3 = _ := hlk
    rw [hlk', F_X9_rule_155, nI_add, ck_in (by omega) (by omega), bd_r, nI_clamp (n := B + k) (by omega), nI_1]
    obtain ⟨m4, hm4⟩ : ∃ m4, sA m3 8 (upd (gA m3 8) (B + k) (nI (enS ar A rw k))) = m4 := ⟨_, rfl⟩
    rw [hm4]
    have f4 : ∀ j, gF m4 j = gF m j := fun j => by rw [← hm4, gF_sA, f3]
    have a4 : ∀ j, j < 5 ∨ 8 < j → gA m4 j = gA m j := fun j j1 => by rw [← hm4, gA_sA, if_neg (by omega), a3 j (by omega)]
    have b5 : gA m4 5 = upd (gA m 5) (B + k) (rw k) := by rw [← hm4, ← hm3, ← hm2, ← hm1]; rfl
    have b6 : gA m4 6 = upd (gA m 6) (B + k) (hI (uS ar A rw k)) := by rw [← hm4, ← hm3, ← hm2, ← hm1]; rfl
    have b7 : gA m4 7 = upd (gA m 7) (B + k) (nI (pS ar A rw k)) := by rw [← hm4, ← hm3, ← hm2, ← hm1]; rfl
    have b8 : gA m4 8 = upd (gA m 8) (B + k) (nI (enS ar A rw k)) := by rw [← hm4, gA_sA_s, a3 8 (by omega)]
    have hR4 : RdM N ct ar pk A fp n rw m4 := by
      unfold RdM
      rw [f4, f4, f4, f4, a4 1 (by omega), a4 2 (by omega), a4 3 (by omega), a4 4 (by omega)]
      exact hR
    obtain ⟨m', q1, q2, q3, q4, q5⟩ := ih w (k + 1) m4 (by omega) (by omega) hR4 (fun q hq => by rw [a4 13 (by omega), a4 14 (by omega)]; exact hup q hq) (fun q hq => by
      rw [b5, b6, b7, b8]
      by_cases hqk : q = k
      · rw [hqk, upd_s, upd_s, upd_s, upd_s]; exact ⟨rfl, rfl, rfl, rfl⟩
      · rw [upd_n _ _ (by omega), upd_n _ _ (by omega), upd_n _ _ (by omega), upd_n _ _ (by omega)]; exact hd q (by omega))
    refine ⟨m', q1, q2, fun j => by rw [q3 j, f4 j], fun j j1 => by rw [q4 j j1, a4 j j1], fun j x hx => ?_⟩
    rw [q5 j x hx]
    by_cases j1 : j < 5 ∨ 8 < j
    · rw [a4 j j1]
    · rcases (show j = 5 ∨ j = 6 ∨ j = 7 ∨ j = 8 by omega) with rfl | rfl | rfl | rfl
      · rw [b5, upd_n _ _ (by omega)]
      · rw [b6, upd_n _ _ (by omega)]
      · rw [b7, upd_n _ _ (by omega)]
      · rw [b8, upd_n _ _ (by omega)]
/-- the rule is kept by the reference: the state from which the tree is laid -/
theorem ruleM_kept {N : Nat} {ct ar : Nat → Nat} {pk : Nat → Int32} {A : Nat} {fp : Int32} {n R : Nat} {ln : Nat → Nat} {sy : Nat → Nat → Int32} {en uc pc : Nat → Nat → Nat} {rw : Nat → Int32} {m : St} (hR24 : R < 24) (hln : ∀ r, r < R → ln r ≤ 160) (hR : RdM N ct ar pk A fp n rw m) (h : RlM R ln sy en uc pc m) (hw : wrA N ct ar pk A fp false rw n 0 = none) (hup : ∀ q, q < n → gA m 13 q = hI (uS ar A rw q) ∧ gA m 14 q = nI (pS ar A rw q)) :
    ∃ m', F_X9_rule_55 5000 (160 * gF m 4) 0 m = bo (F_X9_lay m') (fun r6 s7 => some (gF s7 4 - 1, s7)) ∧ RlM (R + 1) (snocF R ln n) (snocF R sy rw) (snocF R en (enS ar A rw)) (snocF R uc (uS ar A rw)) (snocF R pc (pS ar A rw)) m' ∧ (∀ j, j ≠ 4 → j ≠ 5 → j ≠ 19 → gF m' j = gF m j) ∧ gF m' 5 = 0 ∧ gF m' 19 = 0 ∧ ∀ j, j < 5 ∨ 9 < j → gA m' j = gA m j := by
  have hn := hR.2.2.1
  obtain ⟨h1, h2⟩ := wrA_none n 0 hw
  rw [Nat.zero_add] at h2
  obtain ⟨m1, q1, q2, q3, q4, q5⟩ := rule_loop (B := 160 * R) (by omega) (fun q hq => h1 q (Nat.zero_le q) (by omega)) h2 n 5000 0 m (by omega) (by omega) hR hup (fun q hq => by omega)
  rw [h.1, mul160, show (0 : Int32) = nI 0 from rfl, q1, F_X9_rule_171, q3, h.1, ck_in (by omega) (by omega), bd_r, nI_clamp (n := R) (by omega), q3, hR.2.2.2.2.2.2.2.1]
  obtain ⟨m2, hm2⟩ : ∃ m2, sA m1 9 (upd (gA m1 9) R (nI n)) = m2 := ⟨_, rfl⟩
  rw [hm2, bd_r]
  obtain ⟨m3, hm3⟩ : ∃ m3, sF m2 5 0 = m3 := ⟨_, rfl⟩
  have g4 : gF m3 4 = nI R := by rw [← hm3, ← hm2, gF_sF, if_neg (by omega), gF_sA, q3]; exact h.1
  rw [show nI 0 = (0 : Int32) from rfl, hm3, g4, nI_1, bd_r]
  obtain ⟨m4, hm4⟩ : ∃ m4, sF m3 4 (nI (R + 1)) = m4 := ⟨_, rfl⟩
  rw [hm4, bd_r]
  obtain ⟨m5, hm5⟩ : ∃ m5, sF m4 19 0 = m5 := ⟨_, rfl⟩
  rw [hm5]
  have a5 : ∀ j, j ≠ 9 → gA m5 j = gA m1 j := fun j j1 => by rw [← hm5, ← hm4, ← hm3, gA_sF, gA_sF, gA_sF, ← hm2, gA_sA, if_neg j1]
  have a59 : gA m5 9 = upd (gA m 9) R (nI n) := by rw [← hm5, ← hm4, ← hm3, gA_sF, gA_sF, gA_sF, ← hm2, gA_sA_s, q4 9 (by omega)]
  refine ⟨m5, rfl, ⟨by rw [← hm5, ← hm4]; rfl, fun r hr => ?_⟩, fun j j1 j2 j3 => ?_, ?_, ?_, fun j j1 => by rw [a5 j (by omega), q4 j (by omega)]⟩
  · rw [a59, a5 5 (by omega), a5 6 (by omega), a5 7 (by omega), a5 8 (by omega)]
    by_cases hrR : r = R
    · subst hrR
      rw [snocF_s, snocF_s, snocF_s, snocF_s, snocF_s, upd_s]
      exact ⟨rfl, q2⟩
    · rw [snocF_n hrR, snocF_n hrR, snocF_n hrR, snocF_n hrR, snocF_n hrR, upd_n _ _ hrR]
      obtain ⟨k1, k2⟩ := h.2 r (by omega)
      refine ⟨k1, fun q hq => ?_⟩
      have := hln r (by omega)
      rw [q5 5 _ (by omega), q5 6 _ (by omega), q5 7 _ (by omega), q5 8 _ (by omega)]
      exact k2 q hq
  · rw [← hm5, gF_sF, if_neg j3, ← hm4, gF_sF, if_neg j1, ← hm3, gF_sF, if_neg j2, ← hm2, gF_sA, q3]
  · rw [← hm5, ← hm4, gF_sF, if_neg (by omega), gF_sF, if_neg (by omega), ← hm3]; rfl
  · rw [← hm5]; rfl
