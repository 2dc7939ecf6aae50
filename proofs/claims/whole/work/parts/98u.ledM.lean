section
variable {N n A R : Nat} {ct ar : Nat → Nat} {pk : Nat → Int32} {rw : Nat → Int32} {te : Nat → Nat} {κ kb : Nat → Nat} {ln : Nat → Nat} {sy : Nat → Nat → Int32} {en wt : Nat → Nat → Nat}
theorem RT.kid {β : Bd} {t i : Nat} {m : St} (ht : nmId n ar β t) (hf : lk ar β (8 + n) t = none) (h : RT n rw ar κ kb (β ++ [(t, i)]) m) : ∀ j, j < ar i → NR n ar κ (β ++ [(t, i)]) m (chT n rw te ar (β ++ [(t, i)]) t j) (cz n ar β + 1 + j) := by
  intro j hj
  obtain ⟨-, -, -, -, a5⟩ := h
  obtain ⟨b1, b2, b3, b4⟩ := a5 β t i [] rfl
  have hc := cz_split (n := n) (ar := ar) (β := β ++ [(t, i)]) (β1 := β) (β2 := []) (t := t) (i := i) rfl
  have hch : chT n rw te ar (β ++ [(t, i)]) t j = 8 + n + sz ar β + j := by
    unfold chT
    rw [if_neg (nm_row ht), lk_app, hf]
    dsimp only
    rw [if_pos rfl]
  rw [hch]
  refine ⟨by omega, Or.inr ⟨fun z => by have := z.2; omega, ?_⟩⟩
  rw [b4 j hj]
  unfold rn
  rw [if_neg (by omega), show 8 + n + sz ar β + j - n = 8 + sz ar β + j by omega]
theorem those_state {m : St} {E : Nat} (h : gF m 8 = nI E) : sF (sA m 17 (put (gA m 17) E [])) 8 (nI (E + ([] : List Nat).length)) = m := by
  rw [put_nil, sA_gA]
  show sF m 8 (nI E) = m
  rw [← h, sF_gF]
/-- a free name becomes each of the constructors that the rules have there -/
theorem free_loop (hW : ∀ r, r < R → PW N ct ar pk (ln r) (sy r) (en r) (wt r)) (hT : TmW n N A rw te ar) (hK : TKW n N A rw te ar κ kb) {d : Nat} {rc : Int32 → Int32 → St → Rs} (hrc : LedOK R N n A ct ar rw te κ kb ln sy en wt d rc) {D : Nat} (hD : D ≤ d)
    {g : List Nat} {op : Nat → List Nat} {K a E TE s z : Nat} {ts tr : List Nat} {β : Bd} {as af : Nat} (hG : GW R ln wt g op K) (hrs : ∀ r, r ∈ g → rs (en r) (op r) ≤ 160 ∧ rs (en r) (op r) + g.length ≤ D + 1 ∧ β.length + rs (en r) (op r) ≤ 160) (h24 : g.length ≤ 24) (hK160 : K ≤ 160) (haE : a + g.length ≤ E) (hE : E + 24 * (D + 1) ≤ 4800) (hTE : TE + 24 * (D + 1) ≤ 4800) (hB : BW n N ar β) (hl : β.length < 160) (hN : N ≤ 60) (hs : s < K) (hz : z < cz n ar β) (hcn : cn n rw ar β (nth ts s) = none) :
    ∀ (dd w c k : Nat) (m : St), c + dd = N → dd < w → LdIn R N n A ct ar rw κ kb ln sy en g op K a E TE ts tr β as af m → gA m 26 z = -1 - nI (rn n (nth ts s)) → gF m 20 = nI k → k + ((hiL (kidsC sy op s N g) c).map fun i => (subG sy op s (nI i) g).length).sum ≤ 200 →
      ∃ m', F_X9_led_183 rc w (nI a) (nI g.length) (nI s) (nI E) (nI z) 1 (nI c) m = F_X9_led_404 rc 1 m' ∧ LpL n ar E TE g op tr β m m' ∧ FdL n rw ar k ((hiL (kidsC sy op s N g) c).flatMap fun i => Led N n ar rw te sy en d (subG sy op s (nI i) g) (opT en op s (ar i)) (K + ar i - 1) (opL ts (kd n rw te ar (β ++ [(nth ts s, i)]) (nth ts s)) s) (β ++ [(nth ts s, i)]) as af) m m' := by
  have hn := hT.1.1
  intro dd
  induction dd with
  | zero =>
    intro w c k m hc hw hI hcell hk hk2
    obtain ⟨w, rfl⟩ : ∃ q, w = q + 1 := ⟨w - 1, by omega⟩
    have hcN : c = N := by omega
    subst hcN
    rw [F_X9_led_183, if_neg (by decide), F_X9_led_206, hI.2.1.2.2.1, if_pos (nI_le (Nat.le_refl _) (by omega)), hiL_all (fun i hi => (kids_mem.mp hi).1)]
    exact ⟨m, rfl, ⟨fun _ _ => rfl, fun _ _ => rfl, fun _ _ => rfl, fun _ _ => rfl, hI.2.2.1, fun _ _ => rfl, fun _ _ => ⟨rfl, rfl⟩, fun _ _ => rfl, hI.2.2.2.2.2.2.2.2.2.1⟩, FdL.nil (fun _ _ _ => rfl) rfl hk⟩
  | succ dd ih =>
    intro w c k m hc hw hI hcell hk hk2
    obtain ⟨w, rfl⟩ : ∃ q, w = q + 1 := ⟨w - 1, by omega⟩
    obtain ⟨h1, h2, h3, h4, ⟨h5, h6, h7⟩, h8, h9, ⟨h10, h10'⟩, h11, h12, h13, h14⟩ := id hI
    obtain ⟨-, har, hC1, hC2⟩ := id h2
    have hsz := (Vl_facts hT.1 β hB har).2.2.2
    have hOm : OpM R ln op K g m := ⟨hK160, fun r hr => ⟨(hG.2.2.1 r hr).1, (hG.2.2.1 r hr).2.1, h3 r hr, (hG.2.2.1 r hr).2.2⟩⟩
    have hth := those_eq h1 hOm hs h4 haE (by omega) h6 (nI c)
    obtain ⟨sub, hsub⟩ : ∃ sub, subG sy op s (nI c) g = sub := ⟨_, rfl⟩
    rw [hsub] at hth
    have hcN : c < N := by omega
    rw [F_X9_led_183, if_neg (by decide), F_X9_led_206, hC1, if_neg (nI_ge hcN (by omega)), hth, bo_s]
    by_cases hs0 : sub = []
    · have hnk : c ∉ kidsC sy op s N g := fun q => by
        have := subG_pos q
        rw [hsub, hs0] at this
        exact absurd this (by simp)
      rw [hs0, those_state h6, if_pos (by rfl), F_X9_led_398, nI_1, hiL_out hnk]
      exact ih w (c + 1) k m (by omega) (by omega) hI hcell hk (by rw [← hiL_out hnk]; exact hk2)
    · have hsp : 0 < sub.length := List.length_pos_iff.mpr hs0
      have hkid : c ∈ kidsC sy op s N g := by
        obtain ⟨r, hr⟩ := List.exists_mem_of_length_pos hsp
        rw [← hsub] at hr
        exact kids_mem.mpr ⟨hcN, r, (subG_mem.mp hr).1, (subG_mem.mp hr).2⟩
      have hhi := hiL_in (kids_sorted sy op s N g) hkid
      rw [hhi, List.map_cons, List.sum_cons, hsub] at hk2
      have hslen : sub.length ≤ g.length := by rw [← hsub]; exact List.length_filter_le _ _
      obtain ⟨ma, hma⟩ : ∃ ma, sF (sA m 17 (put (gA m 17) E sub)) 8 (nI (E + sub.length)) = ma := ⟨_, rfl⟩
      rw [hma]
      have fa : ∀ j, j ≠ 8 → gF ma j = gF m j := fun j j1 => by rw [← hma, gF_sF, if_neg j1, gF_sA]
      have aa : ∀ j, j ≠ 17 → gA ma j = gA m j := fun j j1 => by rw [← hma, gA_sF, gA_sA, if_neg j1]
      have a17 : gA ma 17 = put (gA m 17) E sub := by rw [← hma, gA_sF]; exact gA_sA_s _ _ _
      obtain ⟨hv, hnr⟩ := h11 s hs
      obtain ⟨f1, f2⟩ := free_nm hv hcn
      have hRTa : RT n rw ar κ kb β ma := h8.kept hB hK (fa 15 (by omega)) (fa 16 (by omega)) (fun y _ => by rw [aa 26 (by omega)]) (fun y _ => by rw [aa 27 (by omega)]) (fun y _ => by rw [aa 28 (by omega)])
      have hac := har c hcN
      obtain ⟨m1, q1, q2, q3, q4, q5, q6⟩ := grown_eq hT hN har hK hB hl hRTa f1 f2 hcN (by rw [aa 2 (by omega)]; exact (hC2 c hcN).2)
      have hcz : cz n ar β ≤ 960 := by unfold cz; omega
      have hrl := rn_lt f1
      obtain ⟨e1, e2⟩ := neg_nm (k := rn n (nth ts s)) (by omega)
      have hcell1 : gA m1 26 z = -1 - nI (rn n (nth ts s)) := by rw [(q5 z hz).1, aa 26 (by omega)]; exact hcell
      obtain ⟨mb, hmb⟩ : ∃ mb, sA m1 28 (upd (gA m1 28) (rn n (nth ts s)) (nI (cz n ar β))) = mb := ⟨_, rfl⟩
      rw [hmb] at q2
      have fb : ∀ j, j ≠ 8 → j ≠ 15 → j ≠ 16 → gF mb j = gF m j := fun j j1 j2 j3 => by rw [← hmb, gF_sA, q3 j j2 j3, fa j j1]
      have ab : ∀ j, j ≠ 17 → j ≠ 26 → j ≠ 27 → j ≠ 28 → gA mb j = gA m j := fun j j1 j2 j3 j4 => by rw [← hmb, gA_sA, if_neg j4, q4 j j2 j3 j4, aa j j1]
      have ab26 : ∀ y, y < cz n ar β → gA mb 26 y = gA m 26 y ∧ gA mb 27 y = gA m 27 y := fun y hy => by
        rw [← hmb, gA_sA, if_neg (by omega), gA_sA, if_neg (by omega), (q5 y hy).1, (q5 y hy).2, aa 26 (by omega), aa 27 (by omega)]
        exact ⟨rfl, rfl⟩
      have hcn1 : cn n rw ar (β ++ [(nth ts s, c)]) (nth ts s) = some c := new_cn f1 f2
      have hB1 := hB.snoc hcN f2 f1
      have hczz : cz n ar β + 1 + ar c ≤ cz n ar (β ++ [(nth ts s, c)]) := cz_split (n := n) (ar := ar) (β := β ++ [(nth ts s, c)]) (β1 := β) (β2 := []) rfl
      obtain ⟨me, g1, g2, g3, g4, g5, g6, g7, g8, g9, g10, g11, g12⟩ := kid_run hW hT hK hrc hD (F_X9_led_183 rc w) (nI a) (nI g.length) (nI z) 1 (nI (cz n ar β)) (nI (8 + sz ar β)) (y := cz n ar β) (b := cz n ar β + 1) (ts := ts) (tr := tr) (β1 := β ++ [(nth ts s, c)]) (as := as) (af := af) (k := k) (mb := mb) hG (fun r hr => by
          have := hrs r hr
          rw [List.length_append]
          simp
          omega) h24 hE hTE hB1 hs hcN (by
          unfold RuM
          rw [ab 5 (by omega) (by omega) (by omega) (by omega), ab 8 (by omega) (by omega) (by omega) (by omega)]
          exact h1) (by
          unfold ConM
          rw [fb 1 (by omega) (by omega) (by omega), ab 1 (by omega) (by omega) (by omega) (by omega), ab 2 (by omega) (by omega) (by omega) (by omega)]
          exact h2) (fun r hr => by rw [ab 16 (by omega) (by omega) (by omega) (by omega)]; exact h3 r hr) (by
          rw [hsub]
          intro j hj
          rw [← hmb, gA_sA, if_neg (by omega), q4 17 (by omega) (by omega) (by omega), a17, put_in hj]) (by rw [fb 7 (by omega) (by omega) (by omega)]; exact h5) (by rw [hsub, ← hmb, gF_sA, q3 8 (by omega) (by omega), ← hma]; rfl) (by rw [fb 9 (by omega) (by omega) (by omega)]; exact h7) q2 (by rw [fb 2 (by omega) (by omega) (by omega)]; exact h9) h10 h10' (by rw [ab 29 (by omega) (by omega) (by omega) (by omega)]; exact h12) (by rw [fb 17 (by omega) (by omega) (by omega)]; exact h13) (by rw [fb 18 (by omega) (by omega) (by omega)]; exact h14) (by rw [fb 20 (by omega) (by omega) (by omega)]; exact hk) (by rw [hsub]; omega) (by rw [hsub]; exact hsp) (by omega) ((q2.2.2.2.2 β (nth ts s) c [] rfl).2.2.1) hcn1 (fun t ht => ⟨ext_id (h11 t ht).1, by have := (h11 t ht).2.1; omega, by
            rw [(ab26 _ (h11 t ht).2.1).1]
            exact (h11 t ht).2.2⟩) (fun j hj => q2.kid f1 f2 j hj)
      rw [hsub] at g1 g12
      obtain ⟨mf, hmf⟩ : ∃ mf, sF (sF (sA me 28 (upd (gA me 28) (rn n (nth ts s)) (-1))) 15 (nI (cz n ar β))) 16 (nI (8 + sz ar β)) = mf := ⟨_, rfl⟩
      have ff : ∀ j, j ≠ 15 → j ≠ 16 → gF mf j = gF me j := fun j j1 j2 => by rw [← hmf, gF_sF, if_neg j2, gF_sF, if_neg j1, gF_sA]
      have af' : ∀ j, j ≠ 28 → gA mf j = gA me j := fun j j1 => by rw [← hmf, gA_sF, gA_sF, gA_sA, if_neg j1]
      have af28 : gA mf 28 = upd (gA me 28) (rn n (nth ts s)) (-1) := by rw [← hmf, gA_sF, gA_sF]; exact gA_sA_s _ _ _
      have hszz : sz ar β ≤ sz ar (β ++ [(nth ts s, c)]) := by rw [sz_app]; omega
      have hL : LpL n ar E TE g op tr β m mf := by
        refine ⟨fun j j1 => ?_, fun j j1 => by rw [af' j (by omega), g4 j j1, ab j (by omega) (by omega) (by omega) (by omega)], fun j j1 => ?_, fun j j1 => by rw [af' 18 (by omega), g6 j j1, ab 18 (by omega) (by omega) (by omega) (by omega)], fun r hr => by rw [af' 16 (by omega)]; exact g7 r hr, fun x hx => by rw [af' 16 (by omega), g8 x hx, ab 16 (by omega) (by omega) (by omega) (by omega)], fun y hy => ?_, fun y hy => ?_, by rw [af' 29 (by omega)]; exact g11⟩
        · by_cases j15 : j = 15
          · rw [j15, ← hmf, h8.1]; rfl
          · by_cases j16 : j = 16
            · rw [j16, ← hmf, h8.2.1]; rfl
            · rw [ff j j15 j16]
              by_cases j8 : j = 8
              · rw [j8, g2, h6]
              · rw [g3 j j8 j1, fb j j8 j15 j16]
        · rw [af' 17 (by omega), g5 j j1, ← hmb, gA_sA, if_neg (by omega), q4 17 (by omega) (by omega) (by omega), a17, put_out (by omega)]
        · rw [af' 26 (by omega), af' 27 (by omega), (g9 y (by omega)).1, (g9 y (by omega)).2]
          exact ab26 y hy
        · rw [af28]
          by_cases hyr : y = rn n (nth ts s)
          · rw [hyr, upd_s, h8.2.2.2.1 _ f1 f2]
          · rw [upd_n _ _ hyr, g10 y (by omega), ← hmb, gA_sA_s, upd_n _ _ hyr, q6 y hy, aa 28 (by omega)]
      have hF : FdL n rw ar k (Led N n ar rw te sy en d sub (opT en op s (ar c)) (K + ar c - 1) (opL ts (kd n rw te ar (β ++ [(nth ts s, c)]) (nth ts s)) s) (β ++ [(nth ts s, c)]) as af) m mf := g12.of (fun j j1 j2 => (fb j (by omega) (by omega) (by omega)).symm) (ab 30 (by omega) (by omega) (by omega) (by omega)).symm (fun j j1 j2 => ff j (by omega) (by omega)) (af' 30 (by omega))
      have hlen := Led_len (n := n) (ar := ar) (rw := rw) (te := te) (sy := sy) (en := en) hN d sub (opT en op s (ar c)) (K + ar c - 1) (opL ts (kd n rw te ar (β ++ [(nth ts s, c)]) (nth ts s)) s) (β ++ [(nth ts s, c)]) as af
      obtain ⟨m2, k1, k2, k3⟩ := ih w (c + 1) (k + (Led N n ar rw te sy en d sub (opT en op s (ar c)) (K + ar c - 1) (opL ts (kd n rw te ar (β ++ [(nth ts s, c)]) (nth ts s)) s) (β ++ [(nth ts s, c)]) as af).length) mf (by omega) (by omega) (hI.next hB hK hL haE) (by rw [(hL.2.2.2.2.2.2.1 z hz).1]; exact hcell) hF.1 (by omega)
      rw [hhi, List.flatMap_cons, hsub]
      refine ⟨m2, ?_, hL.trans k2, hF.app k3⟩
      have hcelle : gA me 26 z = -1 - nI (rn n (nth ts s)) := by rw [(g9 z (by omega)).1, (ab26 z hz).1]; exact hcell
      rw [if_neg (nI_ne0 hsp (by omega)), fa 15 (by omega), h8.1, bd_r, fa 16 (by omega), h8.2.1, bd_r, if_neg (by decide), q1, bo_s, F_X9_led_256, if_neg (by decide), ck_in (by omega) (by omega), bd_r, nI_clamp (n := z) (by omega), hcell1, e2, ck_in (by omega) (by omega), bd_r, nI_clamp (n := rn n (nth ts s)) (by omega), hmb, g1, if_neg (by decide), ck_in (by omega) (by omega), bd_r, nI_clamp (n := z) (by omega), hcelle, e2, ck_in (by omega) (by omega), bd_r, nI_clamp (n := rn n (nth ts s)) (by omega), F_X9_led_386, bd_r, bd_r, hmf, F_X9_led_398, nI_1]
      exact k1
end
