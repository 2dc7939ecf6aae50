section
variable {N n A R : Nat} {ct ar : Nat → Nat} {pk : Nat → Int32} {rw : Nat → Int32} {te : Nat → Nat} {κ kb : Nat → Nat} {ln : Nat → Nat} {sy : Nat → Nat → Int32} {en wt : Nat → Nat → Nat}
/-- the count of asks, set -/
def mA (m : St) (as af : Nat) : St := sF (sF m 17 (nI as)) 18 (nI af)
theorem mA_F (m : St) (as af : Nat) {j : Nat} (h1 : j ≠ 17) (h2 : j ≠ 18) : gF (mA m as af) j = gF m j := by
  unfold mA
  rw [gF_sF, if_neg h2, gF_sF, if_neg h1]
theorem LdIn.asked {g : List Nat} {op : Nat → List Nat} {K a E TE : Nat} {ts tr : List Nat} {β : Bd} {as af : Nat} {m : St} (h : LdIn R N n A ct ar rw κ kb ln sy en g op K a E TE ts tr β as af m) (as' af' : Nat) : LdIn R N n A ct ar rw κ kb ln sy en g op K a E TE ts tr β as' af' (mA m as' af') := by
  obtain ⟨h1, h2, h3, h4, ⟨h5, h6, h7⟩, h8, h9, h10, h11, h12, h13, h14⟩ := h
  exact ⟨h1, h2, h3, h4, ⟨h5, h6, h7⟩, h8, h9, h10, h11, h12, rfl, rfl⟩
theorem LpL.asked {E TE : Nat} {g : List Nat} {op : Nat → List Nat} {tr : List Nat} {β : Bd} {m m' : St} {as af as' af' : Nat} (h : LpL n ar E TE g op tr β (mA m as' af') m') (h17 : gF m 17 = nI as) (h18 : gF m 18 = nI af) : LpL n ar E TE g op tr β m (mA m' as af) := by
  obtain ⟨a1, a2, a3, a4, a5, a6, a7, a8, a9⟩ := h
  refine ⟨fun j j1 => ?_, a2, a3, a4, a5, a6, a7, a8, a9⟩
  by_cases j17 : j = 17
  · rw [j17, h17]; rfl
  · by_cases j18 : j = 18
    · rw [j18, h18]; rfl
    · rw [mA_F _ _ _ j17 j18, a1 j j1, mA_F _ _ _ j17 j18]
theorem FdL.asked {k : Nat} {o : List Ot} {m m' : St} {as af as' af' : Nat} (h : FdL n rw ar k o (mA m as' af') m') : FdL n rw ar k o m (mA m' as af) :=
  h.of (fun j j1 j2 => (mA_F _ _ _ (by omega) (by omega)).symm) rfl (fun j j1 j2 => mA_F _ _ _ (by omega) (by omega)) rfl
theorem led_main (hW : ∀ r, r < R → PW N ct ar pk (ln r) (sy r) (en r) (wt r)) (hT : TmW n N A rw te ar) (hK : TKW n N A rw te ar κ kb) (hA6 : A ≤ 6) : ∀ d, LedOK R N n A ct ar rw te κ kb ln sy en wt d (F_X9_led d) := by
  intro d
  induction d with
  | zero =>
    intro D g op K a E TE ts tr β as af k m hD hG hrs
    obtain ⟨r, hr⟩ := List.exists_mem_of_length_pos hG.1
    have := (hrs r hr).2.1
    have := hG.1
    omega
  | succ d ih =>
    intro D g op K a E TE ts tr β as af k m hD0 hG hrs h24 haE hE hTE hB hI hk hk2
    have hg1 := hG.1
    have hK160 := GW.K160 hW hG (fun r hr => (hrs r hr).1)
    have hβ : β.length ≤ 160 := by
      obtain ⟨r, hr⟩ := List.exists_mem_of_length_pos hg1
      have := (hrs r hr).2.2
      omega
    obtain ⟨D, rfl⟩ : ∃ q, D = q + 1 := by
      obtain ⟨r, hr⟩ := List.exists_mem_of_length_pos hg1
      have := (hrs r hr).2.1
      exact ⟨D - 1, by omega⟩
    have hD : D ≤ d := by omega
    obtain ⟨h1, h2, h3, h4, ⟨h5, h6, h7⟩, h8, h9, ⟨h10, h10'⟩, h11, h12, h13, h14⟩ := id hI
    obtain ⟨hN, har, hC1, hC2⟩ := id h2
    have hsz := (Vl_facts hT.1 β hB har).2.2.2
    have hn := hT.1.1
    have hcz : cz n ar β ≤ 960 := by unfold cz; omega
    have hOm : OpM R ln op K g m := ⟨hK160, fun r hr => ⟨(hG.2.2.1 r hr).1, (hG.2.2.1 r hr).2.1, h3 r hr, (hG.2.2.1 r hr).2.2⟩⟩
    rw [F_X9_led, F_X9_ledb, needed_eq h1 hOm h4 (by omega) h5, bo_s, npos_pos, h6, bd_r, Led]
    cases hp : pos (ndC sy op g) g.length K 0 none with
    | none =>
      rw [show posI (none : Option (Bool × Nat)) = -1 from rfl, if_pos rfl]
      dsimp only
      obtain ⟨m', r1, r2, r3⟩ := led21_loop hT hK hA6 (F_X9_led d) hB hβ haE (by omega) g.length 5000 0 k m (by omega) (by omega) hI hk (by omega)
      rw [Nat.add_zero] at r1
      rw [List.drop_zero] at r3
      exact ⟨m', r1, r2, r3⟩
    | some x =>
      obtain ⟨bb, s⟩ := x
      obtain ⟨hs, hbt, hbf⟩ := pos_some K 0 none bb s hp (fun y hy => by cases hy)
      rw [Nat.zero_add] at hs
      cases bb with
      | false =>
        obtain ⟨hb1, hb2⟩ := hbf rfl
        dsimp only
        rw [show posI (some (false, s)) = nI (170 + s) from rfl, if_neg (nI_ne_m1 (by omega)), if_neg (show ¬ nI (170 + s) < 170 from nI_nlt (b := 170) (by omega) (by omega))]
        obtain ⟨m', r1, r2, r3⟩ := led57_loop ih hD hK hG hrs h24 hK160 haE hE hTE hB hN hs hb1 hb2 g.length 5000 0 k m (by simp) (by omega) (by omega) hI hk (by omega)
        rw [List.drop_zero] at r3
        exact ⟨m', r1, r2, r3⟩
      | true =>
        dsimp only
        obtain ⟨t, ht⟩ : ∃ t, nth ts s = t := ⟨_, rfl⟩
        obtain ⟨hv, hnr⟩ := h11 s hs
        have hts29 : gA m 29 s = nI (nth tr s) := by
          have := h12 s (by omega)
          rwa [Nat.zero_add] at this
        obtain ⟨z, z1, z2, z3⟩ := here_eq hT hN har hK hB hβ h8 hv hnr
        have hβ1 : β.length < 160 := by
          obtain ⟨r, hr⟩ := List.exists_mem_of_length_pos hg1
          have h9' := (hrs r hr).2.2
          have hl := (hG.2.2.1 r hr).2.1
          have := rs_len (en := en r) (op r) (fun q hq => by
            obtain ⟨i, hi, e⟩ := List.getElem_of_mem hq
            have h5 := (hG.2.2.1 r hr).2.2 i (by rw [← hl]; exact hi)
            rw [gD hi, e] at h5
            exact (hW r (hG.2.2.1 r hr).1 q h5).1)
          omega
        rw [show posI (some (true, s)) = nI s from rfl, if_neg (nI_ne_m1 (by omega)), if_pos (show nI s < 170 from nI_lt (b := 170) (by omega) (by omega)), ck_in (by omega) (by omega), bd_r, nI_clamp (n := s) (by omega), hts29, z1, bo_s, ck_in (by omega) (by omega), bd_r, nI_clamp (n := z) (by omega)]
        cases hc : cn n rw ar β (nth ts s) with
        | none =>
          rw [hc] at z3
          dsimp only at z3 ⊢
          obtain ⟨f1, f2⟩ := free_nm hv hc
          have hrl := rn_lt f1
          obtain ⟨e1, e2⟩ := neg_nm (k := rn n (nth ts s)) (by omega)
          have hI2 := hI.asked (as + 1) (af + 1)
          have hst : F_X9_led_134 (F_X9_led d) (nI a) (nI g.length) (nI s) (nI E) (nI z) 1 m = F_X9_led_183 (F_X9_led d) 5000 (nI a) (nI g.length) (nI s) (nI E) (nI z) 1 (nI 0) (mA m (as + 1) (af + 1)) := by
            have e18 : gF (sF m 17 (nI (as + 1))) 18 = nI af := by rw [gF_sF, if_neg (by omega)]; exact h14
            rw [F_X9_led_134, h13, nI_1, bd_r, if_neg (by decide), F_X9_led_161, e18, show nI af + (1 : Int32) = nI (af + 1) from nI_1 af, bd_r, if_neg (by decide), F_X9_led_181]
            rfl
          obtain ⟨m1, r1, r2, r3⟩ := free_loop hW hT hK ih hD hG hrs h24 hK160 haE hE hTE hB hβ1 hN hs z2 hc N 5000 0 k (mA m (as + 1) (af + 1)) (by omega) (by omega) hI2 z3 hk (by
            rw [hiL_0]
            have := subs_len (sy := sy) (op := op) (s := s) hN g
            omega)
          rw [hiL_0] at r3
          refine ⟨mA m1 as af, ?_, r2.asked h13 h14, r3.asked⟩
          have g17 : gF m1 17 = nI (as + 1) := by rw [r2.1 17 (by omega)]; rfl
          have g18 : gF m1 18 = nI (af + 1) := by rw [r2.1 18 (by omega)]; rfl
          have g182 : gF (sF m1 17 (nI as)) 18 = nI (af + 1) := by rw [gF_sF, if_neg (by omega)]; exact g18
          rw [z3, if_neg (Int32.not_le.mpr e1), hst, r1, F_X9_led_404, g17, sub1, bd_r, if_neg (by decide), F_X9_led_429, g182, sub1, bd_r]
          rfl
        | some i =>
          rw [hc] at z3
          dsimp only at z3 ⊢
          obtain ⟨z4, b, z5, z6⟩ := z3
          have hi := cn_lt hT hN hB hv hc
          obtain ⟨m0, hm0⟩ : ∃ m0, mA m (as + 1) af = m0 := ⟨_, rfl⟩
          have hI2 := hI.asked (as + 1) af
          rw [hm0] at hI2
          obtain ⟨i1, i2, i3, i4, ⟨i5, i6, i7⟩, i8, i9, ⟨i10, i10'⟩, i11, i12, i13, i14⟩ := id hI2
          have f0 : ∀ j, j ≠ 17 → j ≠ 18 → gF m0 j = gF m j := fun j j1 j2 => by rw [← hm0]; exact mA_F _ _ _ j1 j2
          have a0 : ∀ j, gA m0 j = gA m j := fun j => by rw [← hm0]; rfl
          have hcell0 : gA m0 26 z = nI i := by rw [a0]; exact z4
          have hst : F_X9_led_134 (F_X9_led d) (nI a) (nI g.length) (nI s) (nI E) (nI z) 0 m = F_X9_led_183 (F_X9_led d) 5000 (nI a) (nI g.length) (nI s) (nI E) (nI z) 0 (nI i) m0 := by
            have e18 : gF (sF m 17 (nI (as + 1))) 18 = nI af := by rw [gF_sF, if_neg (by omega)]; exact h14
            have e0 : nI af + (0 : Int32) = nI af := nI_add af 0
            have em : sF (sF m 17 (nI (as + 1))) 18 (nI af) = m0 := hm0
            rw [F_X9_led_134, h13, nI_1, bd_r, if_pos rfl, F_X9_led_161, e18, e0, bd_r, em, if_pos rfl, ck_in (by omega) (by omega), bd_r, nI_clamp (n := z) (by omega), hcell0, F_X9_led_181]
          -- the end of the one round
          have hend : ∀ (w : Nat) (mx : St), gA mx 26 z = nI i → gF mx 17 = nI (as + 1) → gF mx 18 = nI af → F_X9_led_183 (F_X9_led d) (w + 1) (nI a) (nI g.length) (nI s) (nI E) (nI z) 0 (nI (i + 1)) mx = some (0, mA mx as af) := by
            intro w mx hx1 hx2 hx3
            have g182 : gF (sF mx 17 (nI as)) 18 = nI af := by rw [gF_sF, if_neg (by omega)]; exact hx3
            have e0 : nI af - (0 : Int32) = nI af := pk_sub (b := 0) (Nat.zero_le af)
            rw [F_X9_led_183, if_pos rfl, ck_in (by omega) (by omega), bd_r, nI_clamp (n := z) (by omega), hx1, nI_1, F_X9_led_206, if_pos (nI_le (Nat.le_refl _) (by omega)), F_X9_led_404, hx2, sub1, bd_r, if_pos rfl, F_X9_led_429, g182, e0, bd_r]
            rfl
          have hth := those_eq i1 ⟨hK160, fun r hr => ⟨(hG.2.2.1 r hr).1, (hG.2.2.1 r hr).2.1, i3 r hr, (hG.2.2.1 r hr).2.2⟩⟩ hs i4 haE (by omega) i6 (nI i)
          obtain ⟨sub, hsub⟩ : ∃ sub, subG sy op s (nI i) g = sub := ⟨_, rfl⟩
          rw [hsub] at hth
          have hhead : F_X9_led_183 (F_X9_led d) 5000 (nI a) (nI g.length) (nI s) (nI E) (nI z) 0 (nI i) m0 = bo (some (nI sub.length, sF (sA m0 17 (put (gA m0 17) E sub)) 8 (nI (E + sub.length)))) (fun r2 s3 => if r2 = 0 then (F_X9_led_398 (F_X9_led d) (F_X9_led_183 (F_X9_led d) 4999) (nI a) (nI g.length) (nI s) (nI E) (nI z) 0 (nI i) s3) else (bd (gF s3 15) (fun y6 => bd (gF s3 16) (fun y7 => if (0 : Int32) = 0 then (F_X9_led_256 (F_X9_led d) (F_X9_led_183 (F_X9_led d) 4999) (nI a) (nI g.length) (nI s) (nI E) (nI z) 0 (nI i) r2 y6 y7 (nI z) s3) else (bo (F_X9_grown (nI i) s3) (fun r9 s10 => F_X9_led_256 (F_X9_led d) (F_X9_led_183 (F_X9_led d) 4999) (nI a) (nI g.length) (nI s) (nI E) (nI z) 0 (nI i) r2 y6 y7 r9 s10)))))) := by
            rw [← hth, show (5000 : Nat) = 4999 + 1 from rfl, F_X9_led_183, if_pos rfl, ck_in (by omega) (by omega), bd_r, nI_clamp (n := z) (by omega), hcell0, nI_1, F_X9_led_206, if_neg (nI_ge (by omega) (by omega))]
          rw [z4, if_pos (nI_pos' (by omega)), hst, hhead, bo_s]
          by_cases hs0 : sub = []
          · have hnk : i ∉ kidsC sy op s N g := fun q => by
              have := subG_pos q
              rw [hsub, hs0] at this
              exact absurd this (by simp)
            rw [hs0, those_state i6, if_pos (by rfl), F_X9_led_398, nI_1, hend 4998 m0 hcell0 i13 i14, if_neg hnk]
            refine ⟨mA m0 as af, rfl, ?_, ?_⟩
            · refine ⟨fun j j1 => ?_, fun j _ => by show gA m0 j = gA m j; exact a0 j, fun j _ => by show gA m0 17 j = gA m 17 j; rw [a0], fun j _ => by show gA m0 18 j = gA m 18 j; rw [a0], fun r hr => i3 r hr, fun x _ => by show gA m0 16 x = gA m 16 x; rw [a0], fun y _ => ⟨by show gA m0 26 y = gA m 26 y; rw [a0], by show gA m0 27 y = gA m 27 y; rw [a0]⟩, fun y _ => by show gA m0 28 y = gA m 28 y; rw [a0], i12⟩
              by_cases j17 : j = 17
              · rw [j17, h13]; rfl
              · by_cases j18 : j = 18
                · rw [j18, h14]; rfl
                · rw [mA_F _ _ _ j17 j18, f0 j j17 j18]
            · exact FdL.nil (fun j j1 j2 => by rw [mA_F _ _ _ (by omega) (by omega), f0 j (by omega) (by omega)]) (by show gA m0 30 = gA m 30; rw [a0]) hk
          · have hsp : 0 < sub.length := List.length_pos_iff.mpr hs0
            have hkid : i ∈ kidsC sy op s N g := by
              obtain ⟨r, hr⟩ := List.exists_mem_of_length_pos hsp
              rw [← hsub] at hr
              exact kids_mem.mpr ⟨hi, r, (subG_mem.mp hr).1, (subG_mem.mp hr).2⟩
            have hslen : sub.length ≤ g.length := by rw [← hsub]; exact List.length_filter_le _ _
            obtain ⟨ma, hma⟩ : ∃ ma, sF (sA m0 17 (put (gA m0 17) E sub)) 8 (nI (E + sub.length)) = ma := ⟨_, rfl⟩
            have fa : ∀ j, j ≠ 8 → gF ma j = gF m0 j := fun j j1 => by rw [← hma, gF_sF, if_neg j1, gF_sA]
            have aa : ∀ j, j ≠ 17 → gA ma j = gA m0 j := fun j j1 => by rw [← hma, gA_sF, gA_sA, if_neg j1]
            have a17 : gA ma 17 = put (gA m0 17) E sub := by rw [← hma, gA_sF]; exact gA_sA_s _ _ _
            obtain ⟨me, g1, g2, g3, g4, g5, g6, g7, g8, g9, g10, g11, g12⟩ := kid_run hW hT hK ih hD (F_X9_led_183 (F_X9_led d) 4999) (nI a) (nI g.length) (nI z) 0 (nI (cz n ar β)) (nI (8 + sz ar β)) (y := z) (b := b) (ts := ts) (tr := tr) (β1 := β) (as := as + 1) (af := af) (k := k) (mb := ma) hG (fun r hr => by have := hrs r hr; omega) h24 hE hTE hB hs hi (by
                unfold RuM
                rw [aa 5 (by omega), aa 8 (by omega)]
                exact i1) (by
                unfold ConM
                rw [fa 1 (by omega), aa 1 (by omega), aa 2 (by omega)]
                exact i2) (fun r hr => by rw [aa 16 (by omega)]; exact i3 r hr) (by
                rw [hsub]
                intro j hj
                rw [a17, put_in hj]) (by rw [fa 7 (by omega)]; exact i5) (by rw [hsub, ← hma]; rfl) (by rw [fa 9 (by omega)]; exact i7) (i8.kept hB hK (fa 15 (by omega)) (fa 16 (by omega)) (fun y _ => by rw [aa 26 (by omega)]) (fun y _ => by rw [aa 27 (by omega)]) (fun y _ => by rw [aa 28 (by omega)])) (by rw [fa 2 (by omega)]; exact i9) i10 i10' (by rw [aa 29 (by omega)]; exact i12) (by rw [fa 17 (by omega)]; exact i13) (by rw [fa 18 (by omega)]; exact i14) (by rw [fa 20 (by omega), f0 20 (by omega) (by omega)]; exact hk) (by rw [hsub]; omega) (by rw [hsub]; exact hsp) (by omega) (by rw [aa 27 (by omega), a0]; exact z5) hc (fun t ht => ⟨(i11 t ht).1, (i11 t ht).2.1, by rw [aa 26 (by omega)]; exact (i11 t ht).2.2⟩) (fun j hj => ⟨(z6 j hj).1, by rw [aa 26 (by omega), a0]; exact (z6 j hj).2⟩)
            rw [hsub] at g1 g12
            obtain ⟨mf, hmf⟩ : ∃ mf, sF (sF me 15 (nI (cz n ar β))) 16 (nI (8 + sz ar β)) = mf := ⟨_, rfl⟩
            have ff : ∀ j, j ≠ 15 → j ≠ 16 → gF mf j = gF me j := fun j j1 j2 => by rw [← hmf, gF_sF, if_neg j2, gF_sF, if_neg j1]
            have af' : ∀ j, gA mf j = gA me j := fun j => by rw [← hmf]; rfl
            have hcellf : gA mf 26 z = nI i := by rw [af', (g9 z z2).1, aa 26 (by omega)]; exact hcell0
            have hL : LpL n ar E TE g op tr β m0 mf := by
              refine ⟨fun j j1 => ?_, fun j j1 => by rw [af', g4 j j1, aa j (by omega)], fun j j1 => by rw [af', g5 j j1, a17, put_out (by omega)], fun j j1 => by rw [af', g6 j j1, aa 18 (by omega)], fun r hr => by rw [af']; exact g7 r hr, fun x hx => by rw [af', g8 x hx, aa 16 (by omega)], fun y hy => ⟨by rw [af', (g9 y hy).1, aa 26 (by omega)], by rw [af', (g9 y hy).2, aa 27 (by omega)]⟩, fun y hy => by rw [af', g10 y hy, aa 28 (by omega)], by rw [af']; exact g11⟩
              by_cases j15 : j = 15
              · rw [j15, ← hmf, i8.1]; rfl
              · by_cases j16 : j = 16
                · rw [j16, ← hmf, i8.2.1]; rfl
                · rw [ff j j15 j16]
                  by_cases j8 : j = 8
                  · rw [j8, g2, i6]
                  · rw [g3 j j8 j1, fa j j8]
            have hF : FdL n rw ar k (Led N n ar rw te sy en d sub (opT en op s (ar i)) (K + ar i - 1) (opL ts (kd n rw te ar β (nth ts s)) s) β (as + 1) af) m0 mf := g12.of (fun j j1 j2 => (fa j (by omega)).symm) (aa 30 (by omega)).symm (fun j j1 j2 => ff j (by omega) (by omega)) (af' 30)
            rw [if_pos hkid, hsub]
            refine ⟨mA mf as af, ?_, (show LpL n ar E TE g op tr β (mA m (as + 1) af) mf by rw [hm0]; exact hL).asked h13 h14, (show FdL n rw ar k _ (mA m (as + 1) af) mf by rw [hm0]; exact hF).asked⟩
            rw [hma, if_neg (nI_ne0 hsp (by omega)), fa 15 (by omega), i8.1, bd_r, fa 16 (by omega), i8.2.1, bd_r, if_pos rfl, F_X9_led_256, if_pos rfl, g1, if_pos rfl, F_X9_led_386, bd_r, bd_r, hmf, F_X9_led_398, nI_1]
            exact hend 4998 mf hcellf (by rw [hL.1 17 (by omega)]; exact i13) (by rw [hL.1 18 (by omega)]; exact i14)
end
