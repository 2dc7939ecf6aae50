section
variable {N n A R : Nat} {ct ar : Nat → Nat} {pk : Nat → Int32} {rw : Nat → Int32} {te : Nat → Nat} {κ kb : Nat → Nat} {ln : Nat → Nat} {sy : Nat → Nat → Int32} {en wt : Nat → Nat → Nat}
theorem FdL.one {k : Nat} {o : Ot} {m m' : St} (h20 : gF m' 20 = nI (k + 1)) (h21 : gF m' 21 = gF m 21) (h1 : gF m 21 = -1 → gF m' 26 = if (Vl n rw ar o.2.2.2).length ≤ 400 then gF m 26 else 1) (h2 : ∀ j, j < 2 ^ 31 → gF m 21 = nI j → (Vl n rw ar o.2.2.2).length ≤ 400 → gF m' 26 = gF m 26 ∧ (j = k → FF n rw ar o m') ∧ (j ≠ k → (∀ i, 22 ≤ i → i ≤ 25 → gF m' i = gF m i) ∧ gA m' 30 = gA m 30)) : FdL n rw ar k [o] m m' := by
  refine ⟨h20, h21, fun hm => ⟨fun hall => ?_, fun hn => ?_⟩, fun j hj hs hall => ?_⟩
  · rw [h1 hm, if_pos (show (Vl n rw ar o.2.2.2).length ≤ 400 from hall o List.mem_cons_self)]
  · rw [h1 hm, if_neg]
    exact fun z => hn (fun o' ho => by rw [List.mem_singleton.mp ho]; exact z)
  · obtain ⟨c1, c2, c3⟩ := h2 j hj hs (hall o List.mem_cons_self)
    refine ⟨c1, fun o' hk ho => ?_, fun hout => ?_⟩
    · have hz : j - k < 1 := (List.getElem?_eq_some_iff.mp ho).1
      have : j = k := by omega
      subst this
      rw [Nat.sub_self] at ho
      cases ho
      exact c2 rfl
    · have hl : [o].length = 1 := rfl
      rw [hl] at hout
      exact c3 (by omega)
theorem led21_loop (hT : TmW n N A rw te ar) (hK : TKW n N A rw te ar κ kb) (hA6 : A ≤ 6) (rc : Int32 → Int32 → St → Rs) {g : List Nat} {op : Nat → List Nat} {K a E TE : Nat} {ts tr : List Nat} {β : Bd} {as af : Nat} (hB : BW n N ar β) (hl : β.length ≤ 160) (haE : a + g.length ≤ E) (hE : E ≤ 4800) :
    ∀ (dd w i k : Nat) (m : St), i + dd = g.length → dd < w → LdIn R N n A ct ar rw κ kb ln sy en g op K a E TE ts tr β as af m → gF m 20 = nI k → k + dd ≤ 200 → ∃ m', F_X9_led_21 rc w (nI a) (nI g.length) (nI (a + i)) m = some (0, m') ∧ LpL n ar E TE g op tr β m m' ∧ FdL n rw ar k ((g.drop i).map fun r => (r, as, af, β)) m m' := by
  intro dd
  induction dd with
  | zero =>
    intro w i k m hi hw hI hk _
    obtain ⟨w, rfl⟩ : ∃ z, w = z + 1 := ⟨w - 1, by omega⟩
    rw [F_X9_led_21, nI_add, if_pos (nI_le (by omega) (by omega)), List.drop_eq_nil_of_le (by omega)]
    exact ⟨m, rfl, ⟨fun _ _ => rfl, fun _ _ => rfl, fun _ _ => rfl, fun _ _ => rfl, hI.2.2.1, fun _ _ => rfl, fun _ _ => ⟨rfl, rfl⟩, fun _ _ => rfl, hI.2.2.2.2.2.2.2.2.2.1⟩, FdL.nil (fun _ _ _ => rfl) rfl hk⟩
  | succ dd ih =>
    intro w i k m hi hw hI hk hk2
    obtain ⟨w, rfl⟩ : ∃ z, w = z + 1 := ⟨w - 1, by omega⟩
    have hil : i < g.length := by omega
    obtain ⟨h1, h2, h3, h4, ⟨h5, h6, h7⟩, h8, h9, h10, h11, h12, h13, h14⟩ := id hI
    obtain ⟨hN, har, hC1, hC2⟩ := id h2
    obtain ⟨m1, c1, c2, c3, c4, c5⟩ := comes_eq hT hN hA6 har hK hB hl h8 (fun i hi => (hC2 i hi).2) h9 (r := nth g i) (k := k) (by omega) hk h13 h14
    have hL1 : LpL n ar E TE g op tr β m m1 := ⟨fun j j1 => c2.1 j (by omega), fun j j1 => c2.2 j (by omega), fun j _ => by rw [c2.2 17 (by omega)], fun j _ => by rw [c2.2 18 (by omega)], fun r hr => by rw [c2.2 16 (by omega)]; exact h3 r hr, fun x _ => by rw [c2.2 16 (by omega)], fun y _ => ⟨by rw [c2.2 26 (by omega)], by rw [c2.2 27 (by omega)]⟩, fun y _ => by rw [c2.2 28 (by omega)], by rw [c2.2 29 (by omega)]; exact h12⟩
    obtain ⟨m', r1, r2, r3⟩ := ih w (i + 1) (k + 1) m1 (by omega) (by omega) (hI.next hB hK hL1 haE) c3 (by omega)
    refine ⟨m', ?_, hL1.trans r2, ?_⟩
    · rw [F_X9_led_21, nI_add, if_neg (nI_ge (by omega) (by omega)), ck_in (by omega) (by omega), bd_r, nI_clamp (n := a + i) (by omega), h4 i hil, c1, bo_s, nI_1]
      exact r1
    · have hd : g.drop i = nth g i :: g.drop (i + 1) := by rw [List.drop_eq_getElem_cons hil, gD hil]
      rw [hd, List.map_cons]
      have hone : FdL n rw ar k [(nth g i, as, af, β)] m m1 := FdL.one c3 (c2.1 21 (by omega)) c4 c5
      exact hone.app r3
theorem led57_loop {d : Nat} {rc : Int32 → Int32 → St → Rs} (hrc : LedOK R N n A ct ar rw te κ kb ln sy en wt d rc) {D : Nat} (hD : D ≤ d) (hK : TKW n N A rw te ar κ kb)
    {g : List Nat} {op : Nat → List Nat} {K a E TE s : Nat} {ts tr : List Nat} {β : Bd} {as af : Nat} (hG : GW R ln wt g op K) (hrs : ∀ r, r ∈ g → rs (en r) (op r) ≤ 160 ∧ rs (en r) (op r) + g.length ≤ D + 1 ∧ β.length + rs (en r) (op r) ≤ 160) (h24 : g.length ≤ 24) (hK160 : K ≤ 160) (haE : a + g.length ≤ E) (hE : E + 24 * (D + 1) ≤ 4800) (hTE : TE + 24 * (D + 1) ≤ 4800) (hB : BW n N ar β) (hN : N ≤ 60) (hs : s < K) (hn0 : 0 < ndC sy op g s) (hn1 : ndC sy op g s ≠ g.length) :
    ∀ (q w i k : Nat) (m : St), (g.drop i).length ≤ q → q < w → i ≤ g.length → LdIn R N n A ct ar rw κ kb ln sy en g op K a E TE ts tr β as af m → gF m 20 = nI k → k + (g.length - i) ≤ 200 →
      ∃ m', F_X9_led_57 rc w (nI a) (nI g.length) (nI (170 + s)) (nI E) (nI i) m = some (0, m') ∧ LpL n ar E TE g op tr β m m' ∧ FdL n rw ar k ((runs (ndB sy op s) q (g.drop i)).flatMap fun l => Led N n ar rw te sy en d l op K ts β as af) m m' := by
  have stop : ∀ (w i k : Nat) (m : St), i = g.length → LdIn R N n A ct ar rw κ kb ln sy en g op K a E TE ts tr β as af m → gF m 20 = nI k → ∃ m', F_X9_led_57 rc (w + 1) (nI a) (nI g.length) (nI (170 + s)) (nI E) (nI i) m = some (0, m') ∧ LpL n ar E TE g op tr β m m' ∧ FdL n rw ar k [] m m' := by
    intro w i k m hi hI hk
    rw [F_X9_led_57, if_pos (nI_le (by omega) (by omega))]
    exact ⟨m, rfl, ⟨fun _ _ => rfl, fun _ _ => rfl, fun _ _ => rfl, fun _ _ => rfl, hI.2.2.1, fun _ _ => rfl, fun _ _ => ⟨rfl, rfl⟩, fun _ _ => rfl, hI.2.2.2.2.2.2.2.2.2.1⟩, FdL.nil (fun _ _ _ => rfl) rfl hk⟩
  intro q
  induction q with
  | zero =>
    intro w i k m hn hw hi hI hk hk2
    obtain ⟨w, rfl⟩ : ∃ z, w = z + 1 := ⟨w - 1, by omega⟩
    rw [List.length_drop] at hn
    rw [runs]
    exact stop w i k m (by omega) hI hk
  | succ q ih =>
    intro w i k m hn hw hi hI hk hk2
    obtain ⟨w, rfl⟩ : ∃ z, w = z + 1 := ⟨w - 1, by omega⟩
    rw [List.length_drop] at hn
    by_cases hi2 : i = g.length
    · have hr : runs (ndB sy op s) (q + 1) (g.drop i) = [] := by
        rw [runs, if_pos]
        rw [hi2, List.drop_length]
        rfl
      rw [hr]
      exact stop w i k m hi2 hI hk
    · have hdl : (g.drop i).length = g.length - i := List.length_drop
      have hne : ¬ (g.drop i).isEmpty = true := by
        intro z
        have : g.drop i = [] := by simpa using z
        rw [this] at hdl
        simp at hdl
        omega
      obtain ⟨l, hpl⟩ : ∃ l, preR (ndB sy op s) (g.drop i) = l := ⟨_, rfl⟩
      have hr : runs (ndB sy op s) (q + 1) (g.drop i) = l :: runs (ndB sy op s) q (g.drop (i + l.length)) := by
        rw [runs, if_neg hne, hpl, List.drop_drop]
      have hl0 : 0 < l.length := by
        rw [← hpl]
        exact preR_pos (by omega)
      have hlle : l.length ≤ g.length - i := by
        rw [← hpl, ← hdl]
        exact preR_le _ _
      have hsub : l.Sublist g := by
        rw [← hpl]
        unfold preR
        exact (List.takeWhile_sublist _).trans (List.drop_sublist _ _)
      have hlt : l.length < g.length := run_short hn0 hn1 hsub (v := ndB sy op s (nth (g.drop i) 0)) (fun x hx => preR_same (by rw [hpl]; exact hx))
      obtain ⟨h1, h2, h3, h4, ⟨h5, h6, h7⟩, h8, h9, h10, h11, h12, h13, h14⟩ := id hI
      have hOm : OpM R ln op K (g.drop i) m := ⟨hK160, fun r hr => by
        have hrg := List.mem_of_mem_drop hr
        exact ⟨(hG.2.2.1 r hrg).1, (hG.2.2.1 r hrg).2.1, h3 r hrg, (hG.2.2.1 r hrg).2.2⟩⟩
      have hrun := run_eq h1 hOm hs (seg_drop (i := i) h4) (E := E) (by omega) (by omega) h6 (by omega)
      rw [hdl, hpl] at hrun
      obtain ⟨ma, hma⟩ : ∃ ma, sF (sA m 17 (put (gA m 17) E l)) 8 (nI (E + l.length)) = ma := ⟨_, rfl⟩
      rw [hma] at hrun
      have fa : ∀ j, j ≠ 8 → gF ma j = gF m j := fun j j1 => by rw [← hma, gF_sF, if_neg j1, gF_sA]
      have aa : ∀ j, j ≠ 17 → gA ma j = gA m j := fun j j1 => by rw [← hma, gA_sF, gA_sA, if_neg j1]
      have a17 : gA ma 17 = put (gA m 17) E l := by rw [← hma, gA_sF]; exact gA_sA_s _ _ _
      have hlen := Led_len (n := n) (ar := ar) (rw := rw) (te := te) (sy := sy) (en := en) hN d l op K ts β as af
      obtain ⟨mb, e1, e2, e3⟩ := hrc D l op K E (E + l.length) TE ts tr β as af k ma hD (hG.run hsub hl0) (fun r hr => by have := hrs r (hsub.subset hr); omega) (by omega) (Nat.le_refl _) (by omega) (by omega) hB ⟨by
        unfold RuM
        rw [aa 5 (by omega), aa 8 (by omega)]
        exact h1, by
        unfold ConM
        rw [fa 1 (by omega), aa 1 (by omega), aa 2 (by omega)]
        exact h2, fun r hr => by rw [aa 16 (by omega)]; exact h3 r (hsub.subset hr), fun t ht => by rw [a17, put_in ht], ⟨by rw [fa 7 (by omega)]; exact h5, by rw [← hma]; rfl, by rw [fa 9 (by omega)]; exact h7⟩, h8.kept hB hK (fa 15 (by omega)) (fa 16 (by omega)) (fun y _ => by rw [aa 26 (by omega)]) (fun y _ => by rw [aa 27 (by omega)]) (fun y _ => by rw [aa 28 (by omega)]), by rw [fa 2 (by omega)]; exact h9, h10, fun s hs => ⟨(h11 s hs).1, (h11 s hs).2.1, by rw [aa 26 (by omega)]; exact (h11 s hs).2.2⟩, by rw [aa 29 (by omega)]; exact h12, by rw [fa 17 (by omega)]; exact h13, by rw [fa 18 (by omega)]; exact h14⟩ (by rw [fa 20 (by omega)]; exact hk) (by omega)
      obtain ⟨l1, l2, l3, l4, l5, l6, l7, l8, l9⟩ := e2
      obtain ⟨mc, hmc⟩ : ∃ mc, sF mb 8 (nI E) = mc := ⟨_, rfl⟩
      have fc : ∀ j, j ≠ 8 → gF mc j = gF mb j := fun j j1 => by rw [← hmc, gF_sF, if_neg j1]
      have ac : ∀ j, gA mc j = gA mb j := fun j => by rw [← hmc]; rfl
      have hL : LpL n ar E TE g op tr β m mc := by
        refine ⟨fun j j1 => ?_, fun j j1 => by rw [ac, l2 j j1, aa j (by omega)], fun j j1 => by rw [ac, l3 j (by omega), a17, put_out (by omega)], fun j j1 => by rw [ac, l4 j j1, aa 18 (by omega)], fun r hr => ?_, fun x hx => by rw [ac, l6 x (fun r hr => hx r (hsub.subset hr)), aa 16 (by omega)], fun y hy => ⟨by rw [ac, (l7 y hy).1, aa 26 (by omega)], by rw [ac, (l7 y hy).2, aa 27 (by omega)]⟩, fun y hy => by rw [ac, l8 y hy, aa 28 (by omega)], by rw [ac]; exact l9⟩
        · by_cases j8 : j = 8
          · rw [j8, ← hmc, h6]; rfl
          · rw [fc j j8, l1 j j1, fa j j8]
        · by_cases hrl : r ∈ l
          · rw [ac]; exact l5 r hrl
          · intro t ht
            have hle := (hG.2.2.1 r hr).2.1
            rw [ac, l6 (170 * r + t) (fun r' hr' => offR_of (fun z => hrl (by rw [← z]; exact hr')) (by omega)), aa 16 (by omega)]
            exact h3 r hr t ht
      have hF : FdL n rw ar k (Led N n ar rw te sy en d l op K ts β as af) m mc := e3.of (fun j j1 j2 => (fa j (by omega)).symm) (aa 30 (by omega)).symm (fun j j1 j2 => fc j (by omega)) (ac 30)
      obtain ⟨m2, k1, k2, k3⟩ := ih w (i + l.length) (k + (Led N n ar rw te sy en d l op K ts β as af).length) mc (by rw [List.length_drop]; omega) (by omega) (by omega) (hI.next hB hK hL haE) hF.1 (by omega)
      rw [hr, List.flatMap_cons]
      refine ⟨m2, ?_, hL.trans k2, hF.app k3⟩
      rw [F_X9_led_57, if_neg (nI_ge (by omega) (by omega)), nI_add, pk_sub (by omega), sub170, hrun, bo_s, e1, bo_s, bd_r, hmc, nI_add, bd_r]
      exact k1
end
