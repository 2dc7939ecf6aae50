/-! all rules, their arguments open -/
theorem open_in (k20 : Int32 → St → Rs) {R A : Nat} {ln : Nat → Nat} {sy : Nat → Nat → Int32} {en : Nat → Nat → Nat} {m : St} {f : Nat → Int32} {r : Nat} (h : RuM R ln sy en m) (hr : r < R) (hA : gF m 2 = nI A) (hA6 : A ≤ 6) (hch : ∀ k, k < A → ch (en r) 0 k < ln r) :
    ∀ (d w k : Nat), k + d = A → d < w → F_X9_openAll_32 k20 w (nI r) (nI (ch (en r) 0 k)) (nI k) (sA m 16 (put f (170 * r) (chl (en r) 0 k))) = F_X9_openAll_72 k20 (nI r) (sA m 16 (put f (170 * r) (chl (en r) 0 A))) := by
  have h1 := h.1
  have h2 := (h.2 r hr).1
  intro d
  induction d with
  | zero =>
    intro w k hk hw
    obtain ⟨w, rfl⟩ : ∃ z, w = z + 1 := ⟨w - 1, by omega⟩
    rw [F_X9_openAll_32, gF_sA, hA, if_pos (nI_le (by omega) (by omega)), show k = A by omega]
  | succ d ih =>
    intro w k hk hw
    obtain ⟨w, rfl⟩ : ∃ z, w = z + 1 := ⟨w - 1, by omega⟩
    have hq := hch k (by omega)
    have hp := put_snoc f (170 * r) (chl (en r) 0 k) (ch (en r) 0 k)
    rw [chl_len, ← chl_succ] at hp
    have he : gA (sA m 16 (put f (170 * r) (chl (en r) 0 (k + 1)))) 8 (160 * r + ch (en r) 0 k) = nI (en r (ch (en r) 0 k)) := ((h.2 r hr).2 _ hq).2
    rw [F_X9_openAll_32, gF_sA, hA, if_neg (nI_ge (by omega) (by omega)), mul170, nI_add, ck_in (by omega) (by omega), bd_r, nI_clamp (by omega), gA_sA_s, hp, sA_sA, mul160, nI_add, ck_in (by omega) (by omega), bd_r, nI_clamp (by omega), he, nI_1]
    exact ih w (k + 1) (by omega) (by omega)
theorem open_loop {R A : Nat} {ln : Nat → Nat} {sy : Nat → Nat → Int32} {en : Nat → Nat → Nat} {m : St} (h : RuM R ln sy en m) (hR : gF m 4 = nI R) (hA : gF m 2 = nI A) (hA6 : A ≤ 6) (hch : ∀ r, r < R → ∀ k, k < A → ch (en r) 0 k < ln r) :
    ∀ (d w r : Nat) (f : Nat → Int32), r + d = R → d < w → (∀ q, q < r → seg f (170 * q) (chl (en q) 0 A)) →
      ∃ f', (∀ q, q < R → seg f' (170 * q) (chl (en q) 0 A)) ∧ F_X9_openAll_20 w (nI r) (sF (sA (sA m 16 f) 17 (put (gA m 17) 0 (List.range r))) 8 (nI r)) = some (0, sF (sA (sA m 16 f') 17 (put (gA m 17) 0 (List.range R))) 8 (nI R)) := by
  have h1 := h.1
  intro d
  induction d with
  | zero =>
    intro w r f hr hw hf
    obtain ⟨w, rfl⟩ : ∃ z, w = z + 1 := ⟨w - 1, by omega⟩
    have : r = R := by omega
    subst this
    refine ⟨f, hf, ?_⟩
    have e4 : gF (sF (sA (sA m 16 f) 17 (put (gA m 17) 0 (List.range r))) 8 (nI r)) 4 = nI r := hR
    rw [F_X9_openAll_20, e4, if_pos (nI_le (by omega) (by omega))]
  | succ d ih =>
    intro w r f hr hw hf
    obtain ⟨w, rfl⟩ : ∃ z, w = z + 1 := ⟨w - 1, by omega⟩
    have hrR : r < R := by omega
    obtain ⟨mb, hmb⟩ : ∃ mb, sF (sA (sA m 16 f) 17 (put (gA m 17) 0 (List.range r))) 8 (nI r) = mb := ⟨_, rfl⟩
    have hRb : RuM R ln sy en mb := by rw [← hmb]; exact h
    have hAb : gF mb 2 = nI A := by rw [← hmb]; exact hA
    have e4 : gF mb 4 = nI R := by rw [← hmb]; exact hR
    have e16 : gA mb 16 = f := by rw [← hmb]; rfl
    have hin := open_in (F_X9_openAll_20 w) (f := f) hRb hrR hAb hA6 (hch r hrR) A 5000 0 (by omega) (by omega)
    rw [show chl (en r) 0 0 = [] from rfl, put_nil, ← e16, sA_gA, e16] at hin
    have hsnoc := put_snoc (gA m 17) 0 (List.range r) r
    rw [List.length_range, Nat.zero_add, ← List.range_succ] at hsnoc
    obtain ⟨f', k1, k2⟩ := ih w (r + 1) (put f (170 * r) (chl (en r) 0 A)) (by omega) (by omega) (fun q hq => by
      by_cases hqr : q = r
      · subst hqr
        intro t ht
        exact put_in ht
      · intro t ht
        have h5 := hf q (by omega) t ht
        rw [chl_len] at ht
        rw [put_out (by rw [chl_len]; omega)]
        exact h5)
    refine ⟨f', k1, ?_⟩
    rw [hmb, F_X9_openAll_20, e4, if_neg (nI_ge (by omega) (by omega))]
    refine Eq.trans hin ?_
    have e8 : gF (sA mb 16 (put f (170 * r) (chl (en r) 0 A))) 8 = nI r := by rw [← hmb]; rfl
    have e17 : gA (sA mb 16 (put f (170 * r) (chl (en r) 0 A))) 17 = put (gA m 17) 0 (List.range r) := by rw [← hmb]; rfl
    have e8b : gF (sA (sA mb 16 (put f (170 * r) (chl (en r) 0 A))) 17 (put (gA m 17) 0 (List.range (r + 1)))) 8 = nI r := by rw [← hmb]; rfl
    rw [F_X9_openAll_72, e8, ck_in (by omega) (by omega), bd_r, nI_clamp (by omega), e17, hsnoc, bd_r, e8b, nI_1]
    rw [← k2]
    congr 1
    rw [← hmb]
    refine Prod.ext (up_up _ _ _ _) ?_
    funext z
    show va_up (va_up (va_up (va_up m.2 16 f) 17 _) 16 _) 17 _ z = va_up (va_up m.2 16 _) 17 _ z
    unfold va_up
    by_cases z1 : z = 17
    · simp [z1]
    · by_cases z2 : z = 16
      · simp [z2]
      · simp [z1, z2]
theorem openAll_eq {R A : Nat} {ln : Nat → Nat} {sy : Nat → Nat → Int32} {en : Nat → Nat → Nat} {m : St} (h : RuM R ln sy en m) (hR : gF m 4 = nI R) (hA : gF m 2 = nI A) (hA6 : A ≤ 6) (hch : ∀ r, r < R → ∀ k, k < A → ch (en r) 0 k < ln r) :
    ∃ f', (∀ q, q < R → seg f' (170 * q) (chl (en q) 0 A)) ∧ F_X9_openAll m = some (0, sF (sA (sA (sF (sF (sF m 7 (nI A)) 8 0) 9 0) 16 f') 17 (put (gA m 17) 0 (List.range R))) 8 (nI R)) := by
  have h1 := h.1
  obtain ⟨f', k1, k2⟩ := open_loop (m := sF (sF (sF m 7 (nI A)) 8 0) 9 0) h hR hA hA6 hch R 5000 0 (gA m 16) (by omega) (by omega) (fun q hq => absurd hq (Nat.not_lt_zero q))
  refine ⟨f', k1, ?_⟩
  unfold F_X9_openAll
  rw [hA, bd_r, bd_r, bd_r]
  have e1 : sF (sA (sA (sF (sF (sF m 7 (nI A)) 8 0) 9 0) 16 (gA m 16)) 17 (put (gA (sF (sF (sF m 7 (nI A)) 8 0) 9 0) 17) 0 (List.range 0))) 8 (nI 0) = sF (sF (sF m 7 (nI A)) 8 0) 9 0 := by
    rw [List.range_zero, put_nil]
    have a1 : sA (sF (sF (sF m 7 (nI A)) 8 0) 9 0) 16 (gA m 16) = sF (sF (sF m 7 (nI A)) 8 0) 9 0 := sA_gA (sF (sF (sF m 7 (nI A)) 8 0) 9 0) 16
    rw [a1, sA_gA]
    exact sF_gF (sF (sF (sF m 7 (nI A)) 8 0) 9 0) 8
  rw [e1] at k2
  exact k2
