/-! clash: two rules are read side by side -/
def TlW (R A N : Nat) (ar : Nat → Nat) (pk : Nat → Int32) (fp : Int32) (ln : Nat → Nat) (sy : Nat → Nat → Int32) (en : Nat → Nat → Nat) (tl : Nat → Nat → List Nat) : Prop :=
  ∀ r, r < R → tl r 0 = (List.range A).map (ty fp) ∧ tl r (ln r) = [] ∧ ∀ q, q < ln r → ∃ t rest, tl r q = t :: rest ∧ tl r (en r q) = rest ∧ ∀ c, c < N → sy r q = nI c → tl r (q + 1) = (List.range (ar c)).map (ty (pk c)) ++ rest
section
variable {N A : Nat} {ct ar : Nat → Nat} {pk : Nat → Int32} {fp : Int32} {R : Nat} {ln bs : Nat → Nat} {sy : Nat → Nat → Int32} {en wt uc pc : Nat → Nat → Nat} {tl : Nat → Nat → List Nat}
theorem clash_loop (hW : ∀ r, r < R → PW N ct ar pk (ln r) (sy r) (en r) (wt r)) (hN : N ≤ 60) (hB : BsW R ln bs) (hTl : TlW R A N ar pk fp ln sy en tl) {c m : St} (hC : RlC R ln bs sy en uc pc c) (hM : RlM R ln sy en uc pc m) {i j : Nat} (hi : i < R) (hj : j < R) :
    ∀ (d p q x w : Nat), ln i - p ≤ d → p ≤ ln i → tl i p = tl j q → x + (ln i - p) ≤ 160 → d < w → q ≤ ln j → ∃ v : Bool, F_X3_meet_42 w (nI i) (nI (bs i + p)) (nI (bs j + q)) (nI x) c = some (bI v, c) ∧ F_X9_clash_31 w (nI i) (nI j) (nI p) (nI q) m = some (bI v, m) := by
  have hR24 := hB.1
  have hb512 := hB.2.2.2
  have hli := (hB.2.2.1 i hi).2
  have hlj := (hB.2.2.1 j hj).2
  have hbi := (hB.2.2.1 i hi).1
  have hbm := hB.mono R (Nat.le_refl _) (i + 1) (by omega)
  have hend : ∀ (p q x w : Nat), p = ln i → F_X3_meet_42 (w + 1) (nI i) (nI (bs i + p)) (nI (bs j + q)) (nI x) c = some (bI true, c) ∧ F_X9_clash_31 (w + 1) (nI i) (nI j) (nI p) (nI q) m = some (bI true, m) ∨ 2 ^ 31 ≤ x := by
    intro p q x w hp
    by_cases hx : x < 2 ^ 31
    · left
      refine ⟨?_, ?_⟩
      · rw [F_X3_meet_42]
        by_cases h160 : 160 ≤ x
        · rw [if_pos (show (160 : Int32) ≤ nI x from nI_le (a := 160) h160 hx)]; rfl
        · rw [if_neg (show ¬ (160 : Int32) ≤ nI x from nI_ge (b := 160) (by omega) (by omega)), F_X3_start, nI_1, rd_in _ (by omega) (by omega), hC.2.1 (i + 1) (by omega), bd_r, bo_s, if_pos (nI_le (by omega) (by omega))]; rfl
      · rw [F_X9_clash_31, ck_in (by omega) (by omega), bd_r, nI_clamp (by omega), (hM.2 i hi).1, if_pos (nI_le (by omega) (by omega))]; rfl
    · right; omega
  intro d
  induction d with
  | zero =>
    intro p q x w hd hp ht hx hw hq
    obtain ⟨w, rfl⟩ : ∃ z, w = z + 1 := ⟨w - 1, by omega⟩
    rcases hend p q x w (by omega) with h | h
    · exact ⟨true, h⟩
    · omega
  | succ d ih =>
    intro p q x w hd hp ht hx hw hq
    obtain ⟨w, rfl⟩ : ∃ z, w = z + 1 := ⟨w - 1, by omega⟩
    by_cases hpe : p = ln i
    · rcases hend p q x w hpe with h | h
      · exact ⟨true, h⟩
      · omega
    · have hpi : p < ln i := by omega
      obtain ⟨t1, r1, a1, a2, a3⟩ := (hTl i hi).2.2 p hpi
      have hqj : q < ln j := by
        rcases Nat.lt_or_ge q (ln j) with y | y
        · exact y
        · have : q = ln j := by omega
          rw [this, (hTl j hj).2.1, a1] at ht
          cases ht
      obtain ⟨t2, r2, b1, b2, b3⟩ := (hTl j hj).2.2 q hqj
      have hrest : r1 = r2 := by
        rw [a1, b1] at ht
        injection ht
      have hlt1 := hB.lt hi hpi
      have hlt2 := hB.lt hj hqj
      obtain ⟨u1, u2, u3⟩ := hW i hi p hpi
      obtain ⟨v1, v2, v3⟩ := hW j hj q hqj
      have c1 := hC.2.2 i hi p hpi
      have c2 := hC.2.2 j hj q hqj
      have m1 := (hM.2 i hi).2 p hpi
      have m2 := (hM.2 j hj).2 q hqj
      have hvar : ∀ b : Nat, b < 512 → F_X3_isVariable (nI b) c = some (bI (decide (gA c 18 b < 0)), c) := by
        intro b hb
        unfold F_X3_isVariable
        rw [rd_in _ hb (by omega), bd_r]
        by_cases hz : 0 ≤ gA c 18 b
        · rw [if_pos hz, decide_eq_false (Int32.not_lt.mpr hz)]; rfl
        · rw [if_neg hz, decide_eq_true (Int32.not_le.mp hz)]; rfl
      -- the heads of both sides
      have hc : F_X3_meet_42 (w + 1) (nI i) (nI (bs i + p)) (nI (bs j + q)) (nI x) c = if sy i p < 0 ∨ sy j q < 0 then F_X3_meet_42 w (nI i) (nI (bs i + en i p)) (nI (bs j + en j q)) (nI (x + 1)) c else if sy i p = sy j q then F_X3_meet_42 w (nI i) (nI (bs i + (p + 1))) (nI (bs j + (q + 1))) (nI (x + 1)) c else some (0, c) := by
        rw [F_X3_meet_42, if_neg (show ¬ (160 : Int32) ≤ nI x from nI_ge (b := 160) (by omega) (by omega)), F_X3_start, nI_1, rd_in _ (by omega) (by omega), hC.2.1 (i + 1) (by omega), bd_r, bo_s, if_neg (nI_ge (by omega) (by omega)), hvar _ (by omega), bo_s, c1.1]
        have h78 : F_X3_meet_78 (F_X3_meet_42 w) (nI i) (nI (bs i + p)) (nI (bs j + q)) (nI x) c = F_X3_meet_42 w (nI i) (nI (bs i + en i p)) (nI (bs j + en j q)) (nI (x + 1)) c := by
          unfold F_X3_meet_78 F_X3_meet_129
          rw [rd_in _ (by omega) (by omega), c1.2.2.2, bd_r, rd_in _ (by omega) (by omega), c2.2.2.2, bd_r, nI_1]
        by_cases hv1 : sy i p < 0
        · rw [decide_eq_true hv1, if_neg (show ¬ bI true = 0 by decide), if_pos (Or.inl hv1), h78]
        · rw [decide_eq_false hv1, if_pos (show bI false = 0 by decide), hvar _ (by omega), bo_s, c2.1]
          by_cases hv2 : sy j q < 0
          · rw [decide_eq_true hv2, if_neg (show ¬ bI true = 0 by decide), if_pos (Or.inr hv2), h78]
          · rw [decide_eq_false hv2, if_pos (show bI false = 0 by decide), if_neg (show ¬ (sy i p < 0 ∨ sy j q < 0) from fun z => z.elim hv1 hv2), rd_in _ (by omega) (by omega), c1.1, bd_r, rd_in _ (by omega) (by omega), c2.1, bd_r]
            by_cases he : sy i p = sy j q
            · rw [if_pos he, if_pos he, F_X3_meet_129, nI_1, nI_1, nI_1]
              rfl
            · rw [if_neg he, if_neg he]
              rfl
      have hm : F_X9_clash_31 (w + 1) (nI i) (nI j) (nI p) (nI q) m = if sy i p < 0 ∨ sy j q < 0 then F_X9_clash_31 w (nI i) (nI j) (nI (en i p)) (nI (en j q)) m else if sy i p = sy j q then F_X9_clash_31 w (nI i) (nI j) (nI (p + 1)) (nI (q + 1)) m else some (0, m) := by
        rw [F_X9_clash_31, ck_in (by omega) (by omega), bd_r, nI_clamp (by omega), (hM.2 i hi).1, if_neg (nI_ge (by omega) (by omega)), mul160, nI_add, ck_in (by omega) (by omega), bd_r, nI_clamp (by omega), m1.1, mul160, nI_add, ck_in (by omega) (by omega), bd_r, nI_clamp (n := 160 * j + q) (by omega), m2.1]
        have h103 : F_X9_clash_103 (F_X9_clash_31 w) (nI i) (nI j) (nI p) (nI q) m = F_X9_clash_31 w (nI i) (nI j) (nI (en i p)) (nI (en j q)) m := by
          unfold F_X9_clash_103 F_X9_clash_104
          rw [if_pos rfl, mul160, nI_add, ck_in (by omega) (by omega), bd_r, nI_clamp (by omega), m1.2.2.2, F_X9_clash_129, if_pos rfl, mul160, nI_add, ck_in (by omega) (by omega), bd_r, nI_clamp (by omega), m2.2.2.2, F_X9_clash_155]
        by_cases hv1 : sy i p < 0
        · rw [if_pos hv1, if_pos (Or.inl hv1), F_X9_clash_89, if_pos hv1, h103]
        · rw [if_neg hv1]
          by_cases hv2 : sy j q < 0
          · rw [if_pos hv2, if_pos (Or.inr hv2), F_X9_clash_89, if_neg hv1, if_pos hv2, h103]
          · rw [if_neg hv2, if_neg (show ¬ (sy i p < 0 ∨ sy j q < 0) from fun z => z.elim hv1 hv2)]
            by_cases he : sy i p = sy j q
            · rw [if_pos he, if_pos he, F_X9_clash_89, if_neg hv1, if_neg hv2, F_X9_clash_104, if_neg (by decide), F_X9_clash_129, if_neg (by decide), F_X9_clash_155, nI_1, nI_1]
            · rw [if_neg he, if_neg he]
              rfl
      rw [hc, hm]
      by_cases hv : sy i p < 0 ∨ sy j q < 0
      · rw [if_pos hv, if_pos hv]
        exact ih (en i p) (en j q) (x + 1) w (by omega) u2 (by rw [a2, b2, hrest]) (by omega) (by omega) v2
      · rw [if_neg hv, if_neg hv]
        by_cases he : sy i p = sy j q
        · rw [if_pos he, if_pos he]
          rcases u3 with u3 | ⟨k, k1, k2, -⟩
          · exfalso
            apply hv
            left
            rw [u3]
            decide
          · exact ih (p + 1) (q + 1) (x + 1) w (by omega) (by omega) (by rw [a3 k k1 k2, b3 k k1 (he.symm.trans k2), hrest]) (by omega) (by omega) (by omega)
        · rw [if_neg he, if_neg he]
          exact ⟨false, rfl, rfl⟩
theorem clash_both (hW : ∀ r, r < R → PW N ct ar pk (ln r) (sy r) (en r) (wt r)) (hN : N ≤ 60) (hB : BsW R ln bs) (hTl : TlW R A N ar pk fp ln sy en tl) {c m : St} (hC : RlC R ln bs sy en uc pc c) (hM : RlM R ln sy en uc pc m) (x1 x2 : Int32) :
    ∃ v, F_X8_clash x1 x2 c = some (v, c) ∧ F_X9_clash x1 x2 m = some (v, m) := by
  have hR24 := hB.1
  unfold F_X8_clash F_X3_meet F_X9_clash
  by_cases h1 : x1 < 0
  · rw [if_pos h1, if_pos h1]; exact ⟨0, rfl, rfl⟩
  · rw [if_neg h1, if_neg h1, hC.1, hM.1]
    obtain ⟨i, hi, rfl⟩ := nI_of h1
    by_cases h2 : x2 < 0
    · rw [if_pos h2, if_pos h2]
      by_cases h3 : nI R ≤ nI i
      · rw [if_pos h3]; exact ⟨0, rfl, rfl⟩
      · rw [if_neg h3]; exact ⟨0, rfl, rfl⟩
    · rw [if_neg h2, if_neg h2]
      obtain ⟨j, hj, rfl⟩ := nI_of h2
      by_cases h3 : R ≤ i
      · rw [if_pos (nI_le h3 hi), if_pos (nI_le h3 hi)]; exact ⟨0, rfl, rfl⟩
      · rw [if_neg (nI_ge (by omega) (by omega)), if_neg (nI_ge (by omega) (by omega))]
        by_cases h4 : j < R
        · rw [if_pos (nI_lt h4 (by omega)), if_pos (nI_lt h4 (by omega)), F_X3_start, rd_in _ (by omega) (by omega), hC.2.1 i (by omega), bd_r, bo_s, F_X3_start, rd_in _ (by omega) (by omega), hC.2.1 j (by omega), bd_r, bo_s]
          have hli := (hB.2.2.1 i (by omega)).2
          obtain ⟨v, e1, e2⟩ := clash_loop hW hN hB hTl hC hM (show i < R by omega) h4 (ln i) 0 0 0 5000 (by omega) (by omega) (by rw [(hTl i (by omega)).1, (hTl j h4).1]) (by omega) (by omega) (Nat.zero_le _)
          have e1' : F_X3_meet_42 5000 (nI i) (nI (bs i)) (nI (bs j)) 0 c = some (bI v, c) := e1
          have e2' : F_X9_clash_31 5000 (nI i) (nI j) 0 0 m = some (bI v, m) := e2
          rw [e1', e2', bo_s, ck_h (by cases v <;> rfl)]
          exact ⟨bI v, rfl, rfl⟩
        · rw [if_neg (nI_nlt (by omega) hj), if_neg (nI_nlt (by omega) hj)]; exact ⟨0, rfl, rfl⟩
end
