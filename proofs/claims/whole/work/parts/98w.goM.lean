/-! the reference goes -/
section
variable {N n A R : Nat} {ct ar : Nat → Nat} {pk : Nat → Int32} {fp : Int32} {rw : Nat → Int32} {te : Nat → Nat} {κ kb : Nat → Nat} {ln bs : Nat → Nat} {sy : Nat → Nat → Int32} {en wt : Nat → Nat → Nat}
theorem go_terms (hA : A ≤ 6) : ∀ (d w i : Nat) (m : St), i + d = A → d < w → gF m 2 = nI A → (∀ j, j < i → gA m 29 j = nI j) → ∃ m', F_X9_go_31 w (nI i) m = F_X9_go_52 m' ∧ (∀ j, j < A → gA m' 29 j = nI j) ∧ (∀ j, gF m' j = gF m j) ∧ ∀ j, j ≠ 29 → gA m' j = gA m j := by
  intro d
  induction d with
  | zero =>
    intro w i m hi hw h2 h
    obtain ⟨w, rfl⟩ : ∃ z, w = z + 1 := ⟨w - 1, by omega⟩
    rw [F_X9_go_31, h2, if_pos (nI_le (by omega) (by omega))]
    exact ⟨m, rfl, fun j hj => h j (by omega), fun _ => rfl, fun _ _ => rfl⟩
  | succ d ih =>
    intro w i m hi hw h2 h
    obtain ⟨w, rfl⟩ : ∃ z, w = z + 1 := ⟨w - 1, by omega⟩
    rw [F_X9_go_31, h2, if_neg (nI_ge (by omega) (by omega)), ck_in (by omega) (by omega), bd_r, nI_clamp (by omega), nI_1]
    obtain ⟨m', r1, r2, r3, r4⟩ := ih w (i + 1) (sA m 29 (upd (gA m 29) i (nI i))) (by omega) (by omega) h2 (fun j hj => by
      rw [gA_sA_s]
      by_cases hji : j = i
      · rw [hji, upd_s]
      · rw [upd_n _ _ hji]; exact h j (by omega))
    exact ⟨m', r1, r2, fun j => by rw [r3]; rfl, fun j j1 => by rw [r4 j j1, gA_sA, if_neg j1]⟩
theorem go_eq (hW : ∀ r, r < R → PW N ct ar pk (ln r) (sy r) (en r) (wt r)) (hT : TmW n N A rw te ar) (hK : TKW n N A rw te ar κ kb) (hA6 : A ≤ 6) (hTp : TopW R A fp ln en wt) (hB : BsW R ln bs) {m : St} (hR : RuM R ln sy en m) (hC : ConM N ct ar m) (h4 : gF m 4 = nI R) (hA : gF m 2 = nI A) (hRT : RT n rw ar κ kb [] m) (x1 : Int32) :
    ∃ m', F_X9_go x1 m = some (0, m') ∧ RT n rw ar κ kb [] m' ∧ gF m' 20 = nI (LdT R A N n ar rw te sy en).length ∧ gF m' 21 = x1 ∧ (x1 = -1 → ((∀ o, o ∈ LdT R A N n ar rw te sy en → shO n rw ar o) → gF m' 26 = 0) ∧ ((¬ ∀ o, o ∈ LdT R A N n ar rw te sy en → shO n rw ar o) → gF m' 26 = 1)) ∧ (∀ j, j < 2 ^ 31 → x1 = nI j → (∀ o, o ∈ LdT R A N n ar rw te sy en → shO n rw ar o) → ∀ o, (LdT R A N n ar rw te sy en)[j]? = some o → FF n rw ar o m') ∧ (∀ j, j < 7 ∨ (9 < j ∧ j < 17) ∨ j = 19 ∨ 26 < j → gF m' j = gF m j) ∧ ∀ j, j < 16 ∨ (18 < j ∧ j < 26) ∨ 32 < j → gA m' j = gA m j := by
  have hR24 := hR.1
  have hN := hC.1
  unfold F_X9_go
  rw [bd_r, bd_r, ck_0, bd_r, bd_r, bd_r]
  obtain ⟨m1, hm1⟩ : ∃ m1, sF (sF (sF (sF (sF m 21 x1) 20 0) 26 0) 17 0) 18 0 = m1 := ⟨_, rfl⟩
  have f1 : ∀ j, j ≠ 17 → j ≠ 18 → j ≠ 20 → j ≠ 21 → j ≠ 26 → gF m1 j = gF m j := fun j j1 j2 j3 j4 j5 => by rw [← hm1, gF_sF, if_neg j2, gF_sF, if_neg j1, gF_sF, if_neg j5, gF_sF, if_neg j3, gF_sF, if_neg j4]
  have a1 : ∀ j, gA m1 j = gA m j := fun j => by rw [← hm1]; rfl
  rw [hm1]
  obtain ⟨f', k1, k2⟩ := openAll_eq (m := m1) (A := A) (R := R) (ln := ln) (sy := sy) (en := en) (show RuM R ln sy en m1 by rw [← hm1]; exact hR) (by rw [f1 4 (by omega) (by omega) (by omega) (by omega) (by omega)]; exact h4) (by rw [f1 2 (by omega) (by omega) (by omega) (by omega) (by omega)]; exact hA) hA6 (fun r hr k hk => ((hTp r hr).1 k hk).1)
  obtain ⟨m2, hm2⟩ : ∃ m2, sF (sA (sA (sF (sF (sF m1 7 (nI A)) 8 0) 9 0) 16 f') 17 (put (gA m1 17) 0 (List.range R))) 8 (nI R) = m2 := ⟨_, rfl⟩
  rw [hm2] at k2
  have f2 : ∀ j, j < 7 ∨ 9 < j → gF m2 j = gF m1 j := by
    intro j hj
    rw [← hm2]
    simp only [gF_sF, gF_sA]
    repeat rw [if_neg (by omega)]
  have a2 : ∀ j, j < 16 ∨ 17 < j → gA m2 j = gA m1 j := by
    intro j hj
    rw [← hm2]
    simp only [gA_sF, gA_sA]
    repeat rw [if_neg (by omega)]
  rw [k2, bo_s]
  obtain ⟨m3, t1, t2, t3, t4⟩ := go_terms hA6 A 5000 0 m2 (by omega) (by omega) (by rw [f2 2 (by omega), f1 2 (by omega) (by omega) (by omega) (by omega) (by omega)]; exact hA) (fun j hj => by omega)
  have t1' : F_X9_go_31 5000 0 m2 = _ := t1
  have g20 : gF m3 20 = nI 0 := by rw [t3, f2 20 (by omega), ← hm1]; rfl
  have g21 : gF m3 21 = x1 := by rw [t3, f2 21 (by omega), ← hm1]; rfl
  have g26 : gF m3 26 = 0 := by rw [t3, f2 26 (by omega), ← hm1]; rfl
  have g4 : gF m3 4 = nI R := by rw [t3, f2 4 (by omega), f1 4 (by omega) (by omega) (by omega) (by omega) (by omega)]; exact h4
  have ff : ∀ j, j < 7 ∨ (9 < j ∧ j < 17) ∨ j = 19 ∨ 26 < j → gF m3 j = gF m j := fun j j1 => by rw [t3, f2 j (by omega), f1 j (by omega) (by omega) (by omega) (by omega) (by omega)]
  have fa : ∀ j, j < 16 ∨ (17 < j ∧ j ≠ 29) → gA m3 j = gA m j := fun j j1 => by rw [t4 j (by omega), a2 j (by omega), a1]
  have hRT3 : RT n rw ar κ kb [] m3 := hRT.kept BW.nil hK (ff 15 (by omega)) (ff 16 (by omega)) (fun y _ => by rw [fa 26 (by omega)]) (fun y _ => by rw [fa 27 (by omega)]) (fun y _ => by rw [fa 28 (by omega)])
  rw [t1', F_X9_go_52, g4]
  by_cases h0 : R = 0
  · have hLT : LdT R A N n ar rw te sy en = [] := if_pos h0
    rw [if_pos (show nI R ≤ 0 by rw [h0]; decide), hLT]
    exact ⟨m3, rfl, hRT3, g20, g21, fun _ => ⟨fun _ => g26, fun hn => absurd (fun o ho => by cases ho) hn⟩, fun j _ _ _ o ho => by simp at ho, ff, fun j j1 => fa j (by omega)⟩
  · have hLT : LdT R A N n ar rw te sy en = Led N n ar rw te sy en 300 (List.range R) (op0 en A) A ((chl te 0 A).map (mtp rw)) [] 0 0 := if_neg h0
    have hlr : (List.range R).length = R := List.length_range
    rw [if_neg (nI_nle (by omega) (by omega))]
    obtain ⟨m4, e1, e2, e3⟩ := led_main hW hT hK hA6 300 184 (List.range R) (op0 en A) A 0 R 0 ((chl te 0 A).map (mtp rw)) (List.range A) [] 0 0 0 m3 (by omega) (top_GW hTp (by omega)) (fun r hr => by
        have hr := List.mem_range.mp hr
        have := (hR.2 r hr).1
        rw [top_rs hW hTp hr, hlr]
        simp
        omega) (by omega) (by omega) (by omega) (by omega) BW.nil ⟨by
        unfold RuM
        rw [fa 5 (by omega), fa 8 (by omega)]
        exact hR, by
        unfold ConM
        rw [ff 1 (by omega), fa 1 (by omega), fa 2 (by omega)]
        exact hC, fun r hr => by
        rw [t4 16 (by omega), ← hm2]
        exact k1 r (List.mem_range.mp hr), by
        rw [t4 17 (by omega), ← hm2]
        intro i hi
        exact put_in hi, ⟨by rw [t3, ← hm2]; rfl, by rw [t3, ← hm2]; rfl, by rw [t3, ← hm2]; rfl⟩, hRT3, by rw [ff 2 (by omega)]; exact hA, ⟨by rw [List.length_map, chl_len], List.length_range⟩, fun s hs => by
        have hin := hT.2.2.1 s hs
        have hki := hK.2.2 s hs
        rw [nth_map_top hs]
        have e5 : nth (List.range A) s = s := by rw [gD (by simpa using hs)]; simp
        rw [e5]
        refine ⟨mtp_id hT hin, ?_, ?_⟩
        · have := hK.1 _ hin
          unfold cz
          omega
        · unfold mtp
          by_cases hv : rw (ch te 0 s) < 0
          · rw [if_pos hv]
            have h8 := hT.1.2 _ hin hv
            obtain ⟨j, hj, e6, e7, e8⟩ := neg_name hv
            rw [e6, nI_clamp hj] at h8 ⊢
            right
            refine ⟨fun z => by have := z.1; omega, ?_⟩
            unfold rn
            rw [if_pos h8, e8]
            have := (hRT3.2.2.1 _ hin).1
            rw [hki] at this
            exact this
          · rw [if_neg hv]
            left
            exact ⟨⟨by omega, by omega⟩, by rw [show 8 + ch te 0 s - 8 = ch te 0 s by omega, hki]⟩, by
        intro i hi
        have hi : i < A := by simpa using hi
        have e5 : nth (List.range A) i = i := by rw [gD (by simpa using hi)]; simp
        rw [Nat.zero_add, t2 i hi, e5], by rw [t3, f2 17 (by omega), ← hm1]; rfl, by rw [t3, f2 18 (by omega), ← hm1]; rfl⟩ g20 (by rw [hlr]; omega)
    rw [hlr] at e1
    have e1' : F_X9_led 300 0 (nI R) m3 = some (0, m4) := e1
    rw [← hLT] at e3
    obtain ⟨b1, b2, b3, b4⟩ := e3
    rw [e1', bo_s]
    refine ⟨m4, rfl, hRT3.kept BW.nil hK (e2.1 15 (by omega)) (e2.1 16 (by omega)) (fun y hy => (e2.2.2.2.2.2.2.1 y hy).1) (fun y hy => (e2.2.2.2.2.2.2.1 y hy).2) e2.2.2.2.2.2.2.2.1, by rw [b1, Nat.zero_add], by rw [b2]; exact g21, fun hx => ?_, fun j hj hx hall o ho => ?_, fun j j1 => by rw [e2.1 j (by omega), ff j j1], fun j j1 => by rw [e2.2.1 j (by omega), fa j (by omega)]⟩
    · obtain ⟨c1, c2⟩ := b3 (by rw [g21]; exact hx)
      exact ⟨fun hall => by rw [c1 hall]; exact g26, c2⟩
    · exact (b4 j hj (by rw [g21]; exact hx) hall).2.1 o (Nat.zero_le _) (by rw [Nat.sub_zero]; exact ho)
end
