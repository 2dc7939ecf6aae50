theorem GW.K160 {R N : Nat} {ln ct ar : Nat → Nat} {pk : Nat → Int32} {sy : Nat → Nat → Int32} {en wt : Nat → Nat → Nat} (hW : ∀ r, r < R → PW N ct ar pk (ln r) (sy r) (en r) (wt r)) {g : List Nat} {op : Nat → List Nat} {K : Nat} (hG : GW R ln wt g op K) (hrs : ∀ r, r ∈ g → rs (en r) (op r) ≤ 160) : K ≤ 160 := by
  obtain ⟨g1, g2, g3, g4⟩ := hG
  obtain ⟨r, hr⟩ := List.exists_mem_of_length_pos g1
  have := rs_len (en := en r) (op r) (fun q hq => by
    obtain ⟨i, hi, e⟩ := List.getElem_of_mem hq
    have h5 := (g3 r hr).2.2 i (by rw [← (g3 r hr).2.1]; exact hi)
    rw [gD hi, e] at h5
    exact (hW r (g3 r hr).1 q h5).1)
  have := hrs r hr
  have := (g3 r hr).2.1
  omega
theorem Lp.node {E TE : Nat} {g : List Nat} {op : Nat → List Nat} {m : St} (hseg : ∀ r, r ∈ g → seg (gA m 16) (170 * r) (op r)) (k : Nat) (a b c d : Int32) : Lp E TE g op m (nN m k a b c d) :=
  ⟨fun j hj => nN_gF m k a b c d hj, fun j hj => nN_gA m k a b c d (by omega), fun j _ => by rw [nN_gA m k a b c d (by omega)], fun j _ => by rw [nN_gA m k a b c d (by omega)], fun r hr => by rw [nN_gA m k a b c d (by omega)]; exact hseg r hr, fun x _ => by rw [nN_gA m k a b c d (by omega)]⟩
theorem laid_main {R N : Nat} {ln ct ar : Nat → Nat} {pk : Nat → Int32} {sy : Nat → Nat → Int32} {en wt : Nat → Nat → Nat} (hW : ∀ r, r < R → PW N ct ar pk (ln r) (sy r) (en r) (wt r)) (hct : ∀ c, c < N → ct c < 2 ^ 31) : ∀ d, LaidOK R N ln ct ar sy en wt d (F_X9_laid d) := by
  intro d
  induction d with
  | zero =>
    intro D g op K a E TE X lab dep m hD hG hrs
    obtain ⟨r, hr⟩ := List.exists_mem_of_length_pos hG.1
    have := hrs r hr
    have := hG.1
    omega
  | succ d ih =>
    intro D g op K a E TE X lab dep m hD0 hG hrs h24 hR hC hseg hg haE hE hTE h7 h8 h9 hH hX hmx hdep
    have hK := GW.K160 hW hG (fun r hr => (hrs r hr).1)
    have hg1 := hG.1
    obtain ⟨D, rfl⟩ : ∃ z, D = z + 1 := by
      obtain ⟨r, hr⟩ := List.exists_mem_of_length_pos hg1
      have := hrs r hr
      exact ⟨D - 1, by omega⟩
    have hD : D ≤ d := by omega
    have hR24 := hR.1
    obtain ⟨hN, har, hC1, hC2⟩ := id hC
    have hOm : OpM R ln op K g m := ⟨hK, fun r hr => ⟨(hG.2.2.1 r hr).1, (hG.2.2.1 r hr).2.1, hseg r hr, (hG.2.2.1 r hr).2.2⟩⟩
    have hr0 : nth g 0 ∈ g := gD_mem hg1
    have hset0 : gA m 17 a = nI (nth g 0) := by
      have := hg 0 hg1
      rwa [Nat.add_zero] at this
    have hmx4 : mxN X < 4000 := by omega
    have h10 := hH.1
    rw [F_X9_laid, F_X9_laidb, needed_eq hR hOm hg (by omega) h7, bo_s, npos_pos]
    cases hp : pos (ndC sy op g) g.length K 0 none with
    | none =>
      rw [show posI (none : Option (Bool × Nat)) = -1 from rfl, if_pos rfl]
      by_cases h1 : g.length = 1
      · have hTr : Tr N ar sy en (d + 1) g op K lab dep = [(0, nth g 0, 0, 0, lab, dep)] := by
          rw [Tr, hp]
          exact if_pos h1
        have hCv : Cvr N ct ar sy en (d + 1) g op K = true := by rw [Cvr, hp]
        rw [hTr, hCv, if_pos (show nI g.length = 1 by rw [h1]; rfl), ck_in (by omega) (by omega), bd_r, nI_clamp (by omega), hset0, node_eq 0 (nI (nth g 0)) lab (nI dep) h10 (by omega), bo_s, if_neg (nI_pos (by omega)), ck_1]
        refine ⟨_, rfl, Lp.node hseg _ _ _ _ _, hH.leaf (by omega) hmx4 lab (by omega), ?_, ?_⟩
        · simp only [List.length_singleton]
          omega
        · show max dep 0 ≤ _
          omega
      · have hTr : Tr N ar sy en (d + 1) g op K lab dep = (2, 0, 0, g.length, lab, dep) :: g.map fun r => (0, r, 0, 0, -1, dep + 1) := by
          rw [Tr, hp]
          exact if_neg h1
        have hCv : Cvr N ct ar sy en (d + 1) g op K = true := by rw [Cvr, hp]
        have hHo := hH.or (by omega) hmx4 (d := dep) lab (by omega)
        have hmo : mxN (X ++ [(2, 0, 0, 0, lab, dep)]) < 4000 := by
          rw [mxN_app]
          show max (mxN X) (max dep 0) < 4000
          omega
        obtain ⟨m', e1, e2, e3, e4⟩ := leaves_loop (F_X9_laid d) (a := a) (g := g) (k := X.length) (dep := dep) (by omega) (by omega) g.length 5000 0 (nN m X.length 2 0 lab (nI dep)) _ (by omega) (by omega) (by rw [nN_gA _ _ _ _ _ _ (by omega)]; exact hg) hHo (by simp; omega) hmo
        rw [Nat.add_zero] at e1
        rw [List.append_assoc, List.drop_zero] at e2
        have e2 : Hold m' (X ++ (2, 0, 0, 0, lab, dep) :: g.map fun r => (0, r, 0, 0, -1, dep + 1)) := e2
        have hfin := Hold.kids e2 g.length
        rw [hTr, hCv, if_neg (show ¬ nI g.length = 1 from fun q => h1 (nI_inj (b := 1) (by omega) (by omega) q)), F_X9_laid_42, if_pos (show (-1 : Int32) < 0 by decide), F_X9_laid_59, F_X9_laid_60, if_pos rfl, F_X9_laid_73, node_eq 2 0 lab (nI dep) h10 (by omega), bo_s, bd_r, if_pos rfl, e1, F_X9_laid_133, ck_in (by omega) (by omega), bd_r, nI_clamp (by omega), ck_1]
        refine ⟨_, rfl, ⟨fun j hj => ?_, fun j hj => ?_, fun j hj => ?_, fun j hj => ?_, fun r hr => ?_, fun x hx => ?_⟩, hfin, ?_, ?_⟩
        · rw [gF_sA, e3 j hj, nN_gF _ _ _ _ _ _ hj]
        · rw [gA_sA, if_neg (by omega), e4 j (by omega), nN_gA _ _ _ _ _ _ (by omega)]
        · rw [gA_sA, if_neg (by omega), e4 17 (by omega), nN_gA _ _ _ _ _ _ (by omega)]
        · rw [gA_sA, if_neg (by omega), e4 18 (by omega), nN_gA _ _ _ _ _ _ (by omega)]
        · rw [gA_sA, if_neg (by omega), e4 16 (by omega), nN_gA _ _ _ _ _ _ (by omega)]
          exact hseg r hr
        · rw [gA_sA, if_neg (by omega), e4 16 (by omega), nN_gA _ _ _ _ _ _ (by omega)]
        · simp only [List.length_cons, List.length_map]
          omega
        · have hle : ∀ l : List Nat, mxN (l.map fun r => ((0, r, 0, 0, -1, dep + 1) : Nd)) ≤ dep + 1 := by
            intro l
            induction l with
            | nil => exact Nat.zero_le _
            | cons x l ihl =>
              show max (dep + 1) (mxN (l.map fun r => ((0, r, 0, 0, -1, dep + 1) : Nd))) ≤ dep + 1
              omega
          have := hle g
          show max dep (mxN (g.map fun r => ((0, r, 0, 0, -1, dep + 1) : Nd))) ≤ _
          omega
    | some bs =>
      obtain ⟨b, s⟩ := bs
      obtain ⟨hs, hb1, hb2⟩ := pos_some K 0 none b s hp (fun y hy => by cases hy)
      have hsK : s < K := by omega
      have hfit := ndC_le sy op g s
      have h170 : ¬ nI s = -1 := nI_ne_m1 (by omega)
      cases b with
      | false =>
        obtain ⟨hn0, hn1⟩ := hb2 rfl
        have hTr : Tr N ar sy en (d + 1) g op K lab dep = (2, 0, 0, (runs (ndB sy op s) g.length g).length, lab, dep) :: (runs (ndB sy op s) g.length g).flatMap fun g' => Tr N ar sy en d g' op K (-1) (dep + 1) := by rw [Tr, hp]
        have hCv : Cvr N ct ar sy en (d + 1) g op K = (runs (ndB sy op s) g.length g).any fun g' => Cvr N ct ar sy en d g' op K := by rw [Cvr, hp]
        have hHo := hH.or (by omega) hmx4 (d := dep) lab (by omega)
        have hL0 := Lp.node (E := E) (TE := TE) hseg X.length 2 0 lab (nI dep)
        obtain ⟨m', e1, e2, e3, e4, e5⟩ := ors_loop ih hD (a := a) (m0 := nN m X.length 2 0 lab (nI dep)) (s := s) (lab := lab) hG hrs h24 (hL0.ru hR) (hL0.con hC) hK (by rw [nN_gA _ _ _ _ _ _ (by omega)]; exact hg) haE hE hTE (by rw [nN_gF _ _ _ _ _ _ (by omega)]; exact h7) (by rw [nN_gF _ _ _ _ _ _ (by omega)]; exact h8) (by rw [nN_gF _ _ _ _ _ _ (by omega)]; exact h9) hsK hn0 hn1 hX hmx (by omega) g.length 5000 0 [] (nN m X.length 2 0 lab (nI dep)) (by rw [List.drop_zero]; omega) (by omega) (by omega) (fun _ => rfl) ⟨fun _ _ => rfl, fun _ _ => rfl, fun _ _ => rfl, fun _ _ => rfl, hL0.2.2.2.2.1, fun _ _ => rfl⟩ hHo (by simp) (by show (0 : Nat) ≤ _; omega)
        rw [List.drop_zero, List.nil_append] at e1 e3 e4 e5
        rw [show posI (some (false, s)) = nI (170 + s) from rfl]
        have hE8 : gF (nN m X.length 2 0 lab (nI dep)) 8 = nI E := by rw [nN_gF _ _ _ _ _ _ (by omega)]; exact h8
        rw [hTr, hCv, if_neg (nI_ne_m1 (n := 170 + s) (by omega)), F_X9_laid_42, if_neg (nI_pos (n := 170 + s) (by omega)), if_pos (show (170 : Int32) ≤ nI (170 + s) from nI_le (a := 170) (by omega) (by omega)), F_X9_laid_59, F_X9_laid_60, if_pos rfl, F_X9_laid_73, node_eq 2 0 lab (nI dep) h10 (by omega), bo_s, bd_r, if_neg (nI_ne_m1 (n := 170 + s) (by omega)), if_pos rfl, hE8]
        refine ⟨m', e1, hL0.trans e2, e3, ?_, ?_⟩
        · obtain ⟨q1, q2⟩ := runs_spec (ndB sy op s) g.length g (Nat.le_refl _)
          rw [List.length_cons]
          cases hrn : runs (ndB sy op s) g.length g with
          | nil =>
            simp only [List.flatMap_nil, List.length_nil]
            omega
          | cons l0 rest =>
            cases rest with
            | nil =>
              exfalso
              rw [hrn] at q1 q2
              have hl0 : l0 = g := by simpa using q1
              obtain ⟨-, q3, v, q4⟩ := q2 l0 (by simp)
              have := run_short hn0 hn1 q3 q4
              rw [hl0] at this
              omega
            | cons l1 rest =>
              rw [hrn] at e4
              simp only [List.length_cons] at e4
              omega
        · show max dep (mxN _) ≤ _
          omega
      | true =>
        have hall := hb1 rfl
        obtain ⟨r0, hr0e⟩ : ∃ r0, nth g 0 = r0 := ⟨_, rfl⟩
        obtain ⟨q0, hq0e⟩ : ∃ q0, nth (op r0) s = q0 := ⟨_, rfl⟩
        rw [hr0e] at hr0 hset0
        obtain ⟨hr0R, hr0l, hr0s⟩ := hG.2.2.1 r0 hr0
        have hq0 : q0 < ln r0 := by rw [← hq0e]; exact hr0s s hsK
        have hneed : ∀ r, r ∈ g → 0 ≤ sy r (nth (op r) s) := by
          intro r hr
          have h5 : (g.filter fun r => decide (0 ≤ sy r (nth (op r) s))) = g := List.filter_sublist.eq_of_length hall
          have h6 := List.filter_eq_self.mp h5 r hr
          simpa using h6
        obtain ⟨c0, hc0N, hc0, hc0t⟩ : ∃ c0, c0 < N ∧ sy r0 q0 = nI c0 ∧ ct c0 = wt r0 q0 := by
          obtain ⟨-, -, h5⟩ := hW r0 hr0R q0 hq0
          rcases h5 with h5 | ⟨c', a1, a2, a3, -⟩
          · have := hneed r0 hr0
            rw [hq0e, h5] at this
            exact absurd this (by decide)
          · exact ⟨c', a1, a2, a3⟩
        have htyp : ∀ r, r ∈ g → ∀ c, c < N → sy r (nth (op r) s) = nI c → ct c = ct c0 := by
          intro r hr c hc hsy
          obtain ⟨a1, a2, a3⟩ := hG.2.2.1 r hr
          obtain ⟨-, -, h5⟩ := hW r a1 _ (a3 s hsK)
          rcases h5 with h5 | ⟨c', b1, b2, b3, -⟩
          · rw [hsy] at h5
            exact absurd h5 (nI_ne_m1 (by omega))
          · have : c' = c := nI_inj (by omega) (by omega) (b2.symm.trans hsy)
            subst this
            rw [b3, hc0t, ← hq0e]
            exact hG.2.2.2 r r0 hr hr0 s hsK
        have hTr : Tr N ar sy en (d + 1) g op K lab dep = (1, r0, q0, (kidsC sy op s N g).length, lab, dep) :: (kidsC sy op s N g).flatMap (kT N ar sy en d g op K s dep) := by
          rw [Tr, hp]
          dsimp only
          rw [hr0e, hq0e]
          rfl
        have hCv : Cvr N ct ar sy en (d + 1) g op K = covB N ct ar sy en d g op K s (ct c0) N := by
          rw [Cvr, hp]
          dsimp only
          rw [hr0e, hq0e, hc0, nI_clamp (by omega)]
          rfl
        have hHb := hH.branch (by omega) hmx4 (d := dep) lab (by omega) r0 q0
        obtain ⟨m0, hm0⟩ : ∃ m0, sA (sA (nN m X.length 1 0 lab (nI dep)) 21 (upd (gA (nN m X.length 1 0 lab (nI dep)) 21) X.length (nI r0))) 22 (upd (gA (nN m X.length 1 0 lab (nI dep)) 22) X.length (nI q0)) = m0 := ⟨_, rfl⟩
        rw [hm0] at hHb
        have f0 : ∀ j, j < 10 ∨ 13 < j → gF m0 j = gF m j := fun j hj => by rw [← hm0, gF_sA, gF_sA, nN_gF _ _ _ _ _ _ hj]
        have a0 : ∀ j, j < 19 ∨ 25 < j → gA m0 j = gA m j := fun j hj => by rw [← hm0, gA_sA, if_neg (by omega), gA_sA, if_neg (by omega), nN_gA _ _ _ _ _ _ hj]
        have hL0 : Lp E TE g op m m0 := ⟨f0, fun j hj => a0 j (by omega), fun j _ => by rw [a0 17 (by omega)], fun j _ => by rw [a0 18 (by omega)], fun r hr => by rw [a0 16 (by omega)]; exact hseg r hr, fun x _ => by rw [a0 16 (by omega)]⟩
        obtain ⟨m', e1, e2, e3, e4, e5⟩ := branch_loop hW ih hD (a := a) (m0 := m0) (s := s) (t := ct c0) (r0 := r0) (q0 := q0) (lab := lab) hG hrs h24 (hL0.ru hR) (hL0.con hC) hK (by rw [a0 17 (by omega)]; exact hg) haE hE hTE (by rw [f0 7 (by omega)]; exact h7) (by rw [f0 8 (by omega)]; exact h8) (by rw [f0 9 (by omega)]; exact h9) hsK hct (hct c0 hc0N) htyp hX hmx (by omega) N 5000 0 m0 (by omega) (by omega) ⟨fun _ _ => rfl, fun _ _ => rfl, fun _ _ => rfl, fun _ _ => rfl, hL0.2.2.2.2.1, fun _ _ => rfl⟩ hHb (Nat.zero_le _) (Nat.zero_le _)
        have hSU2 := SU_le (fun r => rs (en r) (op r) + 1) sy op s N hN g
        rw [sum_1, show ((g.map fun r => rs (en r) (op r)).sum) = sumR en op g from rfl] at hSU2
        refine ⟨m', ?_, hL0.trans e2, by rw [hTr]; exact e3, ?_, ?_⟩
        · have hs17 : gA (nN m X.length 1 0 lab (nI dep)) 17 a = nI r0 := by rw [nN_gA _ _ _ _ _ _ (by omega)]; exact hset0
          have hs16 : gA (sA (nN m X.length 1 0 lab (nI dep)) 21 (upd (gA (nN m X.length 1 0 lab (nI dep)) 21) X.length (nI r0))) 16 (170 * r0 + s) = nI q0 := by
            rw [gA_sA, if_neg (by omega), nN_gA _ _ _ _ _ _ (by omega), hseg r0 hr0 s (by omega), hq0e]
          have hE8 : gF (nN m X.length 1 0 lab (nI dep)) 8 = nI E := by rw [nN_gF _ _ _ _ _ _ (by omega)]; exact h8
          have hth : F_X9_there (nI r0) (nI s) m0 = some (nI c0, m0) := by
            rw [there_eq (hL0.ru hR) hr0R (by omega) hq0 (by rw [a0 16 (by omega), hseg r0 hr0 s (by omega), hq0e]), hc0]
          have h22 : gA (sA (nN m X.length 1 0 lab (nI dep)) 21 (upd (gA (nN m X.length 1 0 lab (nI dep)) 21) X.length (nI r0))) 22 = gA (nN m X.length 1 0 lab (nI dep)) 22 := by rw [gA_sA, if_neg (by omega)]
          have hcc : gA m0 1 c0 = nI (ct c0) := by rw [a0 1 (by omega)]; exact (hC2 c0 hc0N).1
          rw [hCv, show posI (some (true, s)) = nI s from rfl, if_neg h170, F_X9_laid_42, if_neg (nI_pos (by omega)), if_neg (show ¬ (170 : Int32) ≤ nI s from nI_ge (b := 170) (by omega) (by omega)), F_X9_laid_60, if_neg (by decide), F_X9_laid_73, node_eq 1 0 lab (nI dep) h10 (by omega), bo_s, bd_r, if_neg h170, if_neg (by decide), ck_in (by omega) (by omega), bd_r, nI_clamp (n := a) (by omega), hs17, ck_in (by omega) (by omega), bd_r, nI_clamp (n := X.length) (by omega), mul170, nI_add, ck_in (by omega) (by omega), bd_r, nI_clamp (by omega), hs16, ck_in (by omega) (by omega), bd_r, h22, hm0, hth, bo_s, ck_in (by omega) (by omega), bd_r, nI_clamp (by omega), hcc, hE8]
          exact e1
        · rw [hTr, List.length_cons]
          cases hkn : kidsC sy op s N g with
          | nil =>
            simp only [List.flatMap_nil, List.length_nil]
            omega
          | cons k0 ks =>
            rw [hkn] at e4
            simp only [List.length_cons] at e4
            omega
        · rw [hTr]
          show max dep (mxN _) ≤ _
          omega
