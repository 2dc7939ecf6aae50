section
variable {N : Nat} {ct ar : Nat → Nat} {pk : Nat → Int32} {R : Nat} {ln bs : Nat → Nat} {sy : Nat → Nat → Int32} {en wt uc pc : Nat → Nat → Nat}
theorem any_cnt (p : It → Bool) (l : List It) : l.any p = decide (0 < (l.filter p).length) := by
  induction l with
  | nil => rfl
  | cons x l ih =>
    rw [List.any_cons]
    by_cases h : p x = true
    · rw [h, List.filter_cons_of_pos h]; simp
    · have h' : p x = false := by simpa using h
      rw [h', List.filter_cons_of_neg h, Bool.false_or, ih]
theorem flat_len (f : It → List Nd) (l : List It) : (∀ i, i ∈ l → 0 < (f i).length) → l.length ≤ (l.flatMap f).length := by
  induction l with
  | nil => intro _; exact Nat.le_refl _
  | cons x l ih =>
    intro h
    have h1 := h x List.mem_cons_self
    have h2 := ih (fun i hi => h i (List.mem_cons_of_mem _ hi))
    rw [List.flatMap_cons, List.length_cons, List.length_append]
    omega
/-- a branch covers when all its type's constructors have covering children -/
theorem branch_cnt (hW : ∀ r, r < R → PW N ct ar pk (ln r) (sy r) (en r) (wt r)) (hN : N ≤ 60) {d : Nat} {g : List Nat} {op : Nat → List Nat} {K s : Nat} (hG : GW R ln wt g op K) (hs : s < K) (hp : pos (ndC sy op g) g.length K 0 none = some (true, s)) (hall : ∀ r, r ∈ g → 0 ≤ sy r (nth (op r) s)) {c0 : Nat} (hc0 : sy (nth g 0) (nth (op (nth g 0)) s) = nI c0) (hc0N : c0 < N) :
    Cvr N ct ar sy en (d + 1) g op K = decide ((((kidsC sy op s N g).map fun i => ((subG sy op s (nI i) g, opT en op s (ar i), K + ar i - 1, nI i) : It)).filter (cvI N ct ar sy en d)).length = cot ct (ct c0) N) := by
  have hm0 : nth g 0 ∈ g := gD_mem hG.1
  -- all children have the type
  have hty : ∀ i, i ∈ kidsC sy op s N g → ct i = ct c0 := by
    intro i hi
    obtain ⟨hiN, r, hr, hsr⟩ := kids_mem.mp hi
    have t1 : ∀ r, r ∈ g → ∀ j, j < N → sy r (nth (op r) s) = nI j → ct j = wt r (nth (op r) s) := by
      intro r hr j hj hsj
      obtain ⟨-, -, h3⟩ := hW r (hG.2.2.1 r hr).1 _ ((hG.2.2.1 r hr).2.2 s hs)
      rcases h3 with h3 | ⟨j', a1, a2, a3, -⟩
      · rw [hsj] at h3; exact absurd h3 (nI_ne_m1 (by omega))
      · have : j' = j := nI_inj (by omega) (by omega) (a2.symm.trans hsj)
        rw [← this]; exact a3
    rw [t1 r hr i hiN hsr, t1 _ hm0 c0 hc0N hc0]
    exact hG.2.2.2 r _ hr hm0 s hs
  have hcl : (sy (nth g 0) (nth (op (nth g 0)) s)).toNatClampNeg = c0 := by rw [hc0]; exact nI_clamp (by omega)
  rw [Cvr, hp]
  dsimp only
  rw [hcl, List.filter_map, List.length_map]
  obtain ⟨L, hL⟩ : ∃ L, (List.range N).filter (fun i => decide (ct i = ct c0)) = L := ⟨_, rfl⟩
  have hcot : cot ct (ct c0) N = L.length := by rw [← hL]; rfl
  obtain ⟨p, hp2⟩ : ∃ p : Nat → Bool, (fun i => !(subG sy op s (nI i) g).isEmpty && Cvr N ct ar sy en d (subG sy op s (nI i) g) (opT en op s (ar i)) (K + ar i - 1)) = p := ⟨_, rfl⟩
  have hk : (kidsC sy op s N g).filter (cvI N ct ar sy en d ∘ fun i => ((subG sy op s (nI i) g, opT en op s (ar i), K + ar i - 1, nI i) : It)) = L.filter p := by
    rw [← hL, ← hp2]
    have e1 : kidsC sy op s N g = (List.range N).filter fun c => !(subG sy op s (nI c) g).isEmpty := rfl
    rw [e1, List.filter_filter, List.filter_filter]
    apply List.filter_congr
    intro i hi
    have hiN := List.mem_range.mp hi
    show (Cvr N ct ar sy en d (subG sy op s (nI i) g) (opT en op s (ar i)) (K + ar i - 1) && !(subG sy op s (nI i) g).isEmpty) = ((!(subG sy op s (nI i) g).isEmpty && Cvr N ct ar sy en d (subG sy op s (nI i) g) (opT en op s (ar i)) (K + ar i - 1)) && decide (ct i = ct c0))
    cases hz : (subG sy op s (nI i) g).isEmpty with
    | true => simp
    | false =>
      have hmem : i ∈ kidsC sy op s N g := by
        rw [e1, List.mem_filter, hz]
        exact ⟨hi, rfl⟩
      rw [decide_eq_true (hty i hmem)]
      simp
  rw [hk, hcot, hL, hp2]
  have h1 : (L.filter p).length = L.length ↔ ∀ x, x ∈ L → p x = true := List.length_filter_eq_length_iff
  cases hz : L.all p with
  | true =>
    rw [List.all_eq_true] at hz
    rw [decide_eq_true (h1.mpr hz)]
  | false =>
    rw [decide_eq_false]
    intro y
    rw [List.all_eq_true.mpr (h1.mp y)] at hz
    cases hz
theorem cv_main (hW : ∀ r, r < R → PW N ct ar pk (ln r) (sy r) (en r) (wt r)) (hN : N ≤ 60) (hB : BsW R ln bs) : ∀ d, CvOK N ct ar R ln bs sy en wt uc pc d := by
  intro d
  induction d with
  | zero =>
    intro g op K lab dep a X P Q c hG hrs
    obtain ⟨r, hr⟩ := List.exists_mem_of_length_pos hG.1
    have := hrs r hr
    have := hG.1
    omega
  | succ d ih =>
    intro g op K lab dep a X P Q c hG hrs hXe hX hm ha hR hC hH hCv
    have hb512 := hB.2.2.2
    obtain ⟨x, cs, e1, e2, e3, e4⟩ := Tr_split (ct := ct) (pk := pk) hW hN d g op K lab dep hG hrs
    obtain ⟨S, hS⟩ : ∃ S, cs.flatMap (trI N ar sy en d (dep + 1)) = S := ⟨_, rfl⟩
    rw [hS] at e1
    rw [e1] at hXe ⊢
    have hXl : P.length + (S.length + 1) + Q.length = X.length := by rw [hXe]; simp; omega
    have hxm : x ∈ X := by rw [hXe]; simp
    have hdep : dep ≤ 184 := by have := mxN_le hxm; omega
    have hxk : X[P.length]? = some x := by
      rw [hXe, List.getElem?_append_right (Nat.le_refl _), Nat.sub_self]
      rfl
    have hcl : cs.length ≤ S.length := by
      rw [← hS]
      refine flat_len _ _ (fun i hi => ?_)
      obtain ⟨i1, i2⟩ := e3 i hi
      obtain ⟨r, hr⟩ := List.exists_mem_of_length_pos i1.1
      have := i2 r hr
      have := i1.1
      obtain ⟨d', rfl⟩ : ∃ d', d = d' + 1 := ⟨d - 1, by omega⟩
      exact Tr_pos d' _ _ _ _ _
    obtain ⟨c1, q1, q2, q3, q4, q5⟩ := cv_run hB ih hX hm cs 0 (P ++ [x]) Q c e3 (by rw [hS, hXe]; simp) (by omega) hR hC hH ⟨hCv.2 (dep + 1) (by omega) (by omega), fun j j1 j2 => hCv.2 j (by omega) j2⟩
    rw [hS] at q1
    rw [Nat.zero_add] at q4
    obtain ⟨k, hk⟩ : ∃ k, (cs.filter (cvI N ct ar sy en d)).length = k := ⟨_, rfl⟩
    have hkle : k ≤ cs.length := by rw [← hk]; exact List.length_filter_le _ _
    rw [hk] at q4
    have hH1 : HoldC bs X c1 := hH.kept (q2 9) (fun j j1 j2 => q3 j (by omega))
    obtain ⟨n1, n2, n3, n4, n5⟩ := hH1.2 P.length x hxk
    have hR1 : RlC R ln bs sy en uc pc c1 := by
      unfold RlC
      rw [q2 8, q3 17 (by omega), q3 18 (by omega), q3 19 (by omega), q3 20 (by omega), q3 21 (by omega)]
      exact hR
    have hC1 : CtC N ct c1 := by
      unfold CtC
      rw [q2 2, q3 9 (by omega)]
      exact hC
    -- the row, its children taken
    obtain ⟨c2, hc2⟩ : ∃ c2, sA c1 28 (upd (gA c1 28) (dep + 1) 0) = c2 := ⟨_, rfl⟩
    have a2 : ∀ j, j ≠ 28 → gA c2 j = gA c1 j := fun j j1 => by rw [← hc2, gA_sA, if_neg j1]
    have f2 : ∀ j, gF c2 j = gF c1 j := fun j => by rw [← hc2]; rfl
    have a28 : gA c2 28 = upd (gA c1 28) (dep + 1) 0 := by rw [← hc2]; exact gA_sA_s _ _ _
    have h28d : gA c1 28 dep = nI a := by rw [q5 dep (by omega)]; exact hCv.1
    have cov : F_X6_coversWith (nI k) (nI P.length) c2 = some (bI (Cvr N ct ar sy en (d + 1) g op K), c2) := by
      unfold F_X6_coversWith
      rw [rd_in _ (by omega) (by omega), a2 23 (by omega), n1, bd_r]
      rcases e4 with ⟨h1, h2, h3⟩ | ⟨h1, h2⟩ | ⟨s, h1, h2, h3, h4, h5⟩
      · rw [h1, if_pos (by rfl), h3]; rfl
      · rw [h1, if_neg (by decide), if_pos (by rfl), h2, any_cnt, hk]
        by_cases hk0 : 0 < k
        · rw [if_neg (nI_nle hk0 (by omega)), decide_eq_true hk0]; rfl
        · rw [if_pos (show nI k ≤ 0 by rw [show k = 0 by omega]; decide), decide_eq_false hk0]; rfl
      · have hm0 : nth g 0 ∈ g := gD_mem hG.1
        obtain ⟨g1, g2, g3⟩ := hG.2.2.1 _ hm0
        have hq := g3 s h2
        have hlt := hB.lt g1 hq
        obtain ⟨-, -, h6⟩ := hW _ g1 _ hq
        rcases h6 with h6 | ⟨c0, u1, u2, u3, -⟩
        · have := h4 _ hm0
          rw [h6] at this
          exact absurd this (by decide)
        · have hx1 : x.1 = 1 := by rw [h3]
          have hsb : sbj bs x = nI (bs (nth g 0) + nth (op (nth g 0)) s) := by rw [h3]; rfl
          have hct := hC1.2.2 c0 u1
          have hcnt := consOf hC1 (t := ct c0) hct.2 N 5000 0 (by omega) (by omega)
          have hcnt2 : F_X4_constructorsOf (nI (ct c0)) c2 = some (nI (cot ct (ct c0) N), c2) := by
            have hC2 : CtC N ct c2 := by
              unfold CtC
              rw [f2 2, a2 9 (by omega)]
              exact hC1
            exact consOf hC2 (t := ct c0) hct.2 N 5000 0 (by omega) (by omega)
          rw [hx1, if_neg (by decide), if_neg (by decide), rd_in _ (by omega) (by omega), a2 24 (by omega), n2, hsb, bd_r, rd_in _ (by omega) (by omega), a2 18 (by omega), (hR1.2.2 _ g1 _ hq).1, u2, bd_r]
          have hto : F_X4_typeOf (nI c0) c2 = some (nI (ct c0), c2) := by
            unfold F_X4_typeOf
            rw [f2 2, hC1.2.1, if_neg (nI_ge u1 (by omega)), rd_in _ (by omega) (by omega), a2 9 (by omega), hct.1, bd_r]
          have hcc := branch_cnt (d := d) (ct := ct) (ar := ar) hW hN hG h2 h1 h4 u2 u1
          rw [← h5, hk] at hcc
          rw [hto, bo_s, hcnt2, bo_s, hcc]
          have := cot_le ct (ct c0) N
          by_cases hkc : k = cot ct (ct c0) N
          · rw [if_pos (by rw [hkc]), decide_eq_true hkc]; rfl
          · rw [if_neg (fun z => hkc (nI_inj (by omega) (by omega) z)), decide_eq_false hkc]; rfl
    have hstep : ∀ n, F_X6_coversAll_15 (n + 1) (hI (P.length + 1)) c1 = bo (F_X6_coversWith (nI k) (nI P.length) c2) (fun r5 s6 => if r5 = 0 then F_X6_coversAll_86 (F_X6_coversAll_15 n) (nI P.length) s6 else (bd (rd 186 (gA s6 28) (nI dep)) (fun y9 => bd (sA s6 28 (wr 186 (gA s6 28) (nI dep) (y9 + 1))) (fun s10 => F_X6_coversAll_86 (F_X6_coversAll_15 n) (nI P.length) s10)))) := by
      intro n
      rw [F_X6_coversAll_15, hI_s, if_neg (nI_pos (by omega)), rd_in _ (by omega) (by omega), n5, e2, bd_r, nI_1, rd_in _ (by omega) (by omega), q4.1, bd_r, wr_in _ _ (by omega) (by omega), hc2, bd_r]
    have hlen : (x :: S).length = S.length + 1 := rfl
    have hpre : ∀ n, F_X6_coversAll_15 (n + (x :: S).length) (hI (P.length + (x :: S).length)) c = F_X6_coversAll_15 (n + 1) (hI (P.length + 1)) c1 := by
      intro n
      have h7 := q1 (n + 1)
      rw [List.length_append] at h7
      have e5 : (P.length + [x].length) = P.length + 1 := rfl
      rw [e5] at h7
      rw [hlen, show n + (S.length + 1) = n + 1 + S.length by omega, show P.length + (S.length + 1) = P.length + 1 + S.length by omega]
      exact h7
    have hm1 : nI P.length + (-1) = hI P.length := by rw [← hI_s, hI_m1]
    cases hcv : Cvr N ct ar sy en (d + 1) g op K with
    | false =>
      refine ⟨c2, fun n => ?_, fun j => by rw [f2, q2], fun j j1 => by rw [a2 j j1, q3 j j1], ⟨?_, fun j j1 j2 => ?_⟩, fun j j1 => ?_⟩
      · rw [hpre, hstep, cov, bo_s, hcv, if_pos (show bI false = 0 by decide), F_X6_coversAll_86, hm1]
      · rw [a28, upd_n _ _ (by omega), h28d]; rfl
      · rw [a28]
        by_cases hj : j = dep + 1
        · rw [hj, upd_s]
        · rw [upd_n _ _ hj]; exact q4.2 j (by omega) j2
      · rw [a28, upd_n _ _ (by omega), q5 j (by omega)]
    | true =>
      obtain ⟨c3, hc3⟩ : ∃ c3, sA c2 28 (upd (gA c2 28) dep (nI (a + 1))) = c3 := ⟨_, rfl⟩
      have a328 : gA c3 28 = upd (gA c2 28) dep (nI (a + 1)) := by rw [← hc3]; exact gA_sA_s _ _ _
      have h28d2 : gA c2 28 dep = nI a := by rw [a28, upd_n _ _ (by omega), h28d]
      refine ⟨c3, fun n => ?_, fun j => by rw [← hc3, gF_sA, f2, q2], fun j j1 => by rw [← hc3, gA_sA, if_neg j1, a2 j j1, q3 j j1], ⟨?_, fun j j1 j2 => ?_⟩, fun j j1 => ?_⟩
      · rw [hpre, hstep, cov, bo_s, hcv, if_neg (show ¬ bI true = 0 by decide), rd_in _ (by omega) (by omega), h28d2, bd_r, nI_1, wr_in _ _ (by omega) (by omega), hc3, bd_r, F_X6_coversAll_86, hm1]
      · rw [a328, upd_s]; rfl
      · rw [a328, upd_n _ _ (by omega), a28]
        by_cases hj : j = dep + 1
        · rw [hj, upd_s]
        · rw [upd_n _ _ hj]; exact q4.2 j (by omega) j2
      · rw [a328, upd_n _ _ (by omega), a28, upd_n _ _ (by omega), q5 j (by omega)]
theorem coversC_eq {A : Nat} {fp : Int32} (hW : ∀ r, r < R → PW N ct ar pk (ln r) (sy r) (en r) (wt r)) (hN : N ≤ 60) (hB : BsW R ln bs) (hT : TopW R A fp ln en wt) (hlen : (TT R A N ar sy en).length ≤ 559) (hmx : mxN (TT R A N ar sy en) ≤ 184) {c : St} (hR : RlC R ln bs sy en uc pc c) (hC : CtC N ct c) (hH : HoldC bs (TT R A N ar sy en) c) :
    ∃ c', F_X6_coversAll c = some (bI (CC R A N ct ar sy en), c') ∧ (∀ j, gF c' j = gF c j) ∧ ∀ j, j ≠ 28 → gA c' j = gA c j := by
  unfold F_X6_coversAll
  rw [bd_r]
  obtain ⟨c1, hc1⟩ : ∃ c1, sA c 28 (fl 186 (gA c 28) 0) = c1 := ⟨_, rfl⟩
  have a1 : ∀ j, j ≠ 28 → gA c1 j = gA c j := fun j j1 => by rw [← hc1, gA_sA, if_neg j1]
  have f1 : ∀ j, gF c1 j = gF c j := fun j => by rw [← hc1]; rfl
  have a28 : ∀ j, j < 186 → gA c1 28 j = 0 := fun j hj => by rw [← hc1, gA_sA_s]; exact if_pos hj
  have hH1 : HoldC bs (TT R A N ar sy en) c1 := hH.kept (f1 9) (fun j j1 j2 => a1 j (by omega))
  rw [hc1, hH1.1, sub_hI, bd_r]
  by_cases h0 : R = 0
  · have hTT : TT R A N ar sy en = [] := if_pos h0
    have hCC : CC R A N ct ar sy en = false := if_pos h0
    rw [hTT, hCC]
    refine ⟨c1, ?_, f1, a1⟩
    show F_X6_coversAll_15 5000 (hI 0) c1 = _
    rw [F_X6_coversAll_15, if_pos hI_neg0, F_X6_coversAll_92]
    show bd (rd 186 (gA c1 28) (nI 0)) _ = _
    rw [rd_in _ (by omega) (by omega), a28 0 (by omega), bd_r, if_pos (by decide)]
    rfl
  · have hTT : TT R A N ar sy en = Tr N ar sy en 300 (List.range R) (op0 en A) A (-1) 0 := if_neg h0
    have hCC : CC R A N ct ar sy en = Cvr N ct ar sy en 300 (List.range R) (op0 en A) A := if_neg h0
    obtain ⟨c2, q1, q2, q3, q4, q5⟩ := cv_main (uc := uc) (pc := pc) hW hN hB 300 (List.range R) (op0 en A) A (-1) 0 0 (TT R A N ar sy en) [] [] c1 (top_GW hT (by omega)) (fun r hr => by
      have hr := List.mem_range.mp hr
      have := (hB.2.2.1 r hr).2
      have := hB.1
      rw [top_rs hW hT hr, List.length_range]
      omega) (by rw [hTT]; simp) hlen hmx (by omega) (by
      unfold RlC
      rw [f1 8, a1 17 (by omega), a1 18 (by omega), a1 19 (by omega), a1 20 (by omega), a1 21 (by omega)]
      exact hR) (by
      unfold CtC
      rw [f1 2, a1 9 (by omega)]
      exact hC) hH1 ⟨a28 0 (by omega), fun j j1 j2 => a28 j j2⟩
    rw [← hTT] at q1
    rw [← hCC, Nat.zero_add] at q4
    obtain ⟨L, hL⟩ : ∃ L, (TT R A N ar sy en).length = L := ⟨_, rfl⟩
    rw [hL] at hlen q1 ⊢
    have hq := q1 (4999 - L + 1)
    rw [show 4999 - L + 1 + L = 5000 by omega, show ([] : List Nd).length + L = L by simp] at hq
    refine ⟨c2, ?_, fun j => by rw [q2, f1], fun j j1 => by rw [q3 j j1, a1 j j1]⟩
    rw [hq]
    show F_X6_coversAll_15 (4999 - L + 1) (hI 0) c2 = _
    rw [F_X6_coversAll_15, if_pos hI_neg0, F_X6_coversAll_92]
    show bd (rd 186 (gA c2 28) (nI 0)) _ = _
    rw [rd_in _ (by omega) (by omega), q4.1, bd_r]
    cases CC R A N ct ar sy en with
    | true => rw [if_neg (by decide)]; rfl
    | false => rw [if_pos (by decide)]; rfl
end
