def ConM (N : Nat) (ct ar : Nat → Nat) (m : St) : Prop := N ≤ 60 ∧ (∀ c, c < N → ar c ≤ 4) ∧ gF m 1 = nI N ∧ ∀ c, c < N → gA m 1 c = nI (ct c) ∧ gA m 2 c = nI (ar c)
def sumR (en : Nat → Nat → Nat) (op : Nat → List Nat) (g : List Nat) : Nat := (g.map fun r => rs (en r) (op r)).sum
/-- what a call on a group leaves as it was -/
def Lp (E TE : Nat) (g : List Nat) (op : Nat → List Nat) (m m' : St) : Prop :=
  (∀ j, j < 10 ∨ 13 < j → gF m' j = gF m j) ∧ (∀ j, j < 16 ∨ 25 < j → gA m' j = gA m j) ∧ (∀ j, j < E → gA m' 17 j = gA m 17 j) ∧ (∀ j, j < TE → gA m' 18 j = gA m 18 j) ∧ (∀ r, r ∈ g → seg (gA m' 16) (170 * r) (op r)) ∧ ∀ x, (∀ r, r ∈ g → offR r x) → gA m' 16 x = gA m 16 x
theorem Hold.kept {m m' : St} {X : List Nd} (h : Hold m X) (h1 : ∀ j, 10 ≤ j → j ≤ 13 → gF m' j = gF m j) (h2 : ∀ j, 19 ≤ j → j ≤ 25 → gA m' j = gA m j) : Hold m' X := by
  obtain ⟨a1, a2, a3, a4, a5⟩ := h
  refine ⟨?_, ?_, ?_, ?_, fun i x hx => (a5 i x hx).kept (fun j j1 j2 => by rw [h2 j j1 j2])⟩
  · rw [h1 10 (by omega) (by omega)]; exact a1
  · rw [h1 11 (by omega) (by omega)]; exact a2
  · rw [h1 12 (by omega) (by omega)]; exact a3
  · rw [h1 13 (by omega) (by omega)]; exact a4
/-- the reference's laid does as it should, down to d levels -/
def LaidOK (R N : Nat) (ln ct ar : Nat → Nat) (sy : Nat → Nat → Int32) (en wt : Nat → Nat → Nat) (d : Nat) (rc : Int32 → Int32 → Int32 → Int32 → St → Rs) : Prop :=
  ∀ (D : Nat) (g : List Nat) (op : Nat → List Nat) (K a E TE : Nat) (X : List Nd) (lab : Int32) (dep : Nat) (m : St), D ≤ d → GW R ln wt g op K → (∀ r, r ∈ g → rs (en r) (op r) ≤ 160 ∧ rs (en r) (op r) + g.length ≤ D) → g.length ≤ 24 → RuM R ln sy en m → ConM N ct ar m → (∀ r, r ∈ g → seg (gA m 16) (170 * r) (op r)) → seg (gA m 17) a g → a + g.length ≤ E → E + 24 * D ≤ 4800 → TE + 24 * D ≤ 4800 → gF m 7 = nI K → gF m 8 = nI E → gF m 9 = nI TE → Hold m X → X.length + sumR en op g + 2 * g.length ≤ 4000 → mxN X ≤ 400 → dep + D ≤ 400 →
    ∃ m', rc (nI a) (nI g.length) lab (nI dep) m = some (bI (Cvr N ct ar sy en d g op K), m') ∧ Lp E TE g op m m' ∧ Hold m' (X ++ Tr N ar sy en d g op K lab dep) ∧ (Tr N ar sy en d g op K lab dep).length + 1 ≤ sumR en op g + 2 * g.length ∧ mxN (Tr N ar sy en d g op K lab dep) ≤ dep + D
theorem sumR_take {R N : Nat} {ln ct ar : Nat → Nat} {pk : Nat → Int32} {sy : Nat → Nat → Int32} {en wt : Nat → Nat → Nat} (hW : ∀ r, r < R → PW N ct ar pk (ln r) (sy r) (en r) (wt r)) (hN : N ≤ 60) {op : Nat → List Nat} {K s c : Nat} (hs : s < K) (hc : c < N) : ∀ (g : List Nat), (∀ r, r ∈ g → r < R ∧ (op r).length = K ∧ (∀ s, s < K → nth (op r) s < ln r) ∧ sy r (nth (op r) s) = nI c) → sumR en (opT en op s (ar c)) g + g.length = sumR en op g := by
  intro g
  induction g with
  | nil => intro _; rfl
  | cons x l ih =>
    intro h
    have h1 := ih (fun r hr => h r (List.mem_cons_of_mem _ hr))
    obtain ⟨h2, h3, h4, h5⟩ := h x List.mem_cons_self
    have h6 := rs_take (hW x h2) (l := op x) (s := s) (c := c) (by omega) (h4 s hs) h5 (by omega) hN
    have e1 : sumR en (opT en op s (ar c)) (x :: l) = rs (en x) (opL (op x) (chl (en x) (nth (op x) s + 1) (ar c)) s) + sumR en (opT en op s (ar c)) l := by
      simp [sumR, opT]
    have e2 : sumR en op (x :: l) = rs (en x) (op x) + sumR en op l := by simp [sumR]
    rw [e1, e2, List.length_cons]
    omega
theorem child_step {R N : Nat} {ln ct ar : Nat → Nat} {pk : Nat → Int32} {sy : Nat → Nat → Int32} {en wt : Nat → Nat → Nat} (hW : ∀ r, r < R → PW N ct ar pk (ln r) (sy r) (en r) (wt r)) {d : Nat} {rc : Int32 → Int32 → Int32 → Int32 → St → Rs} (hrc : LaidOK R N ln ct ar sy en wt d rc) {D : Nat} (hD : D ≤ d) (k204 : Int32 → Int32 → Int32 → Int32 → Int32 → Int32 → Int32 → Int32 → Int32 → St → Rs) (x1 x2 tyc : Int32) (z : Bool)
    {g : List Nat} {op : Nat → List Nat} {K E TE dep s c j r0 q0 : Nat} {X Y : List Nd} {lab : Int32} {m : St} (hG : GW R ln wt g op K) (hrs : ∀ r, r ∈ g → rs (en r) (op r) ≤ 160 ∧ rs (en r) (op r) + g.length ≤ D + 1) (h24 : g.length ≤ 24) (hR : RuM R ln sy en m) (hC : ConM N ct ar m) (hseg : ∀ r, r ∈ g → seg (gA m 16) (170 * r) (op r)) (hE : E + 24 * (D + 1) ≤ 4800) (hTE : TE + 24 * (D + 1) ≤ 4800) (h7 : gF m 7 = nI K) (h8 : gF m 8 = nI E) (h9 : gF m 9 = nI TE) (hs : s < K) (hc : c < N)
    (hH : Hold m (X ++ (1, r0, q0, j, lab, dep) :: Y)) (h0 : 0 < (subG sy op s (nI c) g).length) (hcnt : X.length + 1 + Y.length + sumR en op (subG sy op s (nI c) g) + (subG sy op s (nI c) g).length ≤ 4000) (hmx : mxN (X ++ (1, r0, q0, j, lab, dep) :: Y) ≤ 400) (hdep : dep + 1 + D ≤ 400) :
    ∃ m', F_X9_laid_255 rc k204 x1 x2 (nI dep) (nI s) (nI X.length) (nI E) tyc (nI c) (nI (subG sy op s (nI c) g).length) (bI z) (sF (sA m 17 (put (gA m 17) E (subG sy op s (nI c) g))) 8 (nI (E + (subG sy op s (nI c) g).length))) = k204 x1 x2 (nI dep) (nI s) (nI X.length) (nI E) (bI (Cvr N ct ar sy en d (subG sy op s (nI c) g) (opT en op s (ar c)) (K + ar c - 1) && z)) tyc (nI (c + 1)) m' ∧
      Lp E TE g op m m' ∧ Hold m' (X ++ (1, r0, q0, j + 1, lab, dep) :: (Y ++ Tr N ar sy en d (subG sy op s (nI c) g) (opT en op s (ar c)) (K + ar c - 1) (nI c) (dep + 1))) ∧ (Tr N ar sy en d (subG sy op s (nI c) g) (opT en op s (ar c)) (K + ar c - 1) (nI c) (dep + 1)).length + 1 ≤ sumR en op (subG sy op s (nI c) g) + (subG sy op s (nI c) g).length ∧ mxN (Tr N ar sy en d (subG sy op s (nI c) g) (opT en op s (ar c)) (K + ar c - 1) (nI c) (dep + 1)) ≤ dep + 1 + D := by
  obtain ⟨hN, har, hC1, hC2⟩ := id hC
  have hA := har c hc
  have hGS := GW.sub hW hN hG hs hc h0
  obtain ⟨g1, g2, g3, g4⟩ := id hG
  obtain ⟨sub, hsub⟩ : ∃ sub, subG sy op s (nI c) g = sub := ⟨_, rfl⟩
  have hmem : ∀ r, r ∈ sub → r ∈ g ∧ sy r (nth (op r) s) = nI c := fun r hr => subG_mem.mp (by rw [hsub]; exact hr)
  have hlen : sub.length ≤ g.length := by rw [← hsub]; exact List.length_filter_le _ _
  rw [hsub] at hGS h0 hcnt ⊢
  have hnd : sub.Nodup := hGS.2.1
  have hK : K ≤ 160 := by
    obtain ⟨r, hr⟩ := List.exists_mem_of_length_pos g1
    have := rs_len (en := en r) (op r) (fun q hq => by
      obtain ⟨i, hi, e⟩ := List.getElem_of_mem hq
      have h5 := (g3 r hr).2.2 i (by rw [← (g3 r hr).2.1]; exact hi)
      rw [gD hi, e] at h5
      exact (hW r (g3 r hr).1 q h5).1)
    have := (hrs r hr).1
    have := (g3 r hr).2.1
    omega
  have hch : ∀ r, r ∈ sub → ∀ k, k < ar c → ch (en r) (nth (op r) s + 1) k < ln r := by
    intro r hr k hk
    obtain ⟨m1, m2⟩ := hmem r hr
    obtain ⟨-, -, h5⟩ := hW r (g3 r m1).1 _ ((g3 r m1).2.2 s hs)
    rcases h5 with h5 | ⟨c', a1, a2, a3, a4, a5⟩
    · rw [m2] at h5
      exact absurd h5 (nI_ne_m1 (by omega))
    · have : c' = c := nI_inj (by omega) (by omega) (a2.symm.trans m2)
      subst this
      exact (a5 k hk).1
  obtain ⟨ma, hma⟩ : ∃ ma, sF (sA m 17 (put (gA m 17) E sub)) 8 (nI (E + sub.length)) = ma := ⟨_, rfl⟩
  have hHa : Hold ma (X ++ (1, r0, q0, j, lab, dep) :: Y) := by
    rw [← hma]
    exact hH.kept (fun i a b => by rw [gF_sF, if_neg (by omega), gF_sA]) (fun i a b => by rw [gA_sF, gA_sA, if_neg (by omega)])
  have h23 : gA ma 23 X.length = nI j := (hHa.2.2.2.2 X.length (1, r0, q0, j, lab, dep) (by rw [List.getElem?_append_right (Nat.le_refl _), Nat.sub_self]; rfl)).2.2.2.2.1
  have hHb := hHa.kids (j + 1)
  obtain ⟨mb, hmb⟩ : ∃ mb, sA ma 23 (upd (gA ma 23) X.length (nI (j + 1))) = mb := ⟨_, rfl⟩
  rw [hmb] at hHb
  have fb : ∀ i, i ≠ 8 → gF mb i = gF m i := by
    intro i hi
    rw [← hmb, gF_sA, ← hma, gF_sF, if_neg hi, gF_sA]
  have ab : ∀ i, i ≠ 17 → i ≠ 23 → gA mb i = gA m i := by
    intro i h1 h2
    rw [← hmb, gA_sA, if_neg h2, ← hma, gA_sF, gA_sA, if_neg h1]
  have a17 : gA mb 17 = put (gA m 17) E sub := by
    rw [← hmb, gA_sA, if_neg (by omega), ← hma, gA_sF, gA_sA, if_pos rfl]
  have hRb : RuM R ln sy en mb := by
    unfold RuM
    rw [ab 5 (by omega) (by omega), ab 8 (by omega) (by omega)]
    exact hR
  have hOb : OpM R ln op K sub mb := ⟨hK, fun r hr => ⟨(g3 r (hmem r hr).1).1, (g3 r (hmem r hr).1).2.1, by rw [ab 16 (by omega) (by omega)]; exact hseg r (hmem r hr).1, (g3 r (hmem r hr).1).2.2⟩⟩
  have hsb : seg (gA mb 17) E sub := by
    intro i hi
    rw [a17, put_in hi]
  obtain ⟨f1, t1, t2, t3⟩ := take_eq (TE := TE) (n := ar c) hRb hOb hs (by omega) hsb (by omega) (by omega) (by rw [fb 7 (by omega)]; exact h7) (by rw [fb 9 (by omega)]; exact h9) hnd hch
  obtain ⟨mc, hmc⟩ : ∃ mc, sF (sA (sF (sA mb 18 (put (gA mb 18) TE (sub.map fun r => nth (op r) s))) 9 (nI (TE + sub.length))) 16 f1) 7 (nI (K + ar c - 1)) = mc := ⟨_, rfl⟩
  rw [hmc] at t3
  have fc : ∀ i, i ≠ 7 → i ≠ 9 → gF mc i = gF mb i := by
    intro i h1 h2
    rw [← hmc, gF_sF, if_neg h1, gF_sA, gF_sF, if_neg h2, gF_sA]
  have ac : ∀ i, i ≠ 16 → i ≠ 18 → gA mc i = gA mb i := by
    intro i h1 h2
    rw [← hmc, gA_sF, gA_sA, if_neg h1, gA_sF, gA_sA, if_neg h2]
  have c16 : gA mc 16 = f1 := by rw [← hmc, gA_sF, gA_sA, if_pos rfl]
  have c18 : gA mc 18 = put (gA mb 18) TE (sub.map fun r => nth (op r) s) := by rw [← hmc, gA_sF, gA_sA, if_neg (by omega), gA_sF, gA_sA, if_pos rfl]
  have c7 : gF mc 7 = nI (K + ar c - 1) := by rw [← hmc, gF_sF, if_pos rfl]
  have c9 : gF mc 9 = nI (TE + sub.length) := by rw [← hmc, gF_sF, if_neg (by omega), gF_sA, gF_sF, if_pos rfl]
  have c8 : gF mc 8 = nI (E + sub.length) := by rw [fc 8 (by omega) (by omega), ← hmb, gF_sA, ← hma, gF_sF, if_pos rfl]
  have hHc : Hold mc (X ++ (1, r0, q0, j + 1, lab, dep) :: Y) := hHb.kept (fun i a b => fc i (by omega) (by omega)) (fun i a b => ac i (by omega) (by omega))
  have hRc : RuM R ln sy en mc := by
    unfold RuM
    rw [ac 5 (by omega) (by omega), ac 8 (by omega) (by omega)]
    exact hRb
  have hCc : ConM N ct ar mc := by
    unfold ConM
    rw [fc 1 (by omega) (by omega), fb 1 (by omega), ac 1 (by omega) (by omega), ac 2 (by omega) (by omega), ab 1 (by omega) (by omega), ab 2 (by omega) (by omega)]
    exact hC
  have hsum := sumR_take (op := op) hW hN hs hc sub (fun r hr => ⟨(g3 r (hmem r hr).1).1, (g3 r (hmem r hr).1).2.1, (g3 r (hmem r hr).1).2.2, (hmem r hr).2⟩)
  have hmx2 : mxN (X ++ (1, r0, q0, j + 1, lab, dep) :: Y) ≤ 400 := by
    rw [mxN_app] at hmx ⊢
    exact hmx
  obtain ⟨md, e1, e2, e3, e4, e5⟩ := hrc D sub (opT en op s (ar c)) (K + ar c - 1) E (E + sub.length) (TE + sub.length) (X ++ (1, r0, q0, j + 1, lab, dep) :: Y) (nI c) (dep + 1) mc hD hGS (fun r hr => by
      have h5 := rs_take (hW r (g3 r (hmem r hr).1).1) (l := op r) (s := s) (c := c) (by rw [(g3 r (hmem r hr).1).2.1]; exact hs) ((g3 r (hmem r hr).1).2.2 s hs) (hmem r hr).2 (by omega) hN
      have h6 := hrs r (hmem r hr).1
      show rs (en r) (opL (op r) (chl (en r) (nth (op r) s + 1) (ar c)) s) ≤ 160 ∧ rs (en r) (opL (op r) (chl (en r) (nth (op r) s + 1) (ar c)) s) + sub.length ≤ D
      omega) (by omega) hRc hCc (fun r hr => by rw [c16]; exact t1 r hr) (by rw [ac 17 (by omega) (by omega)]; exact hsb) (Nat.le_refl _) (by omega) (by omega) c7 c8 c9 hHc (by simp; omega) hmx2 (by omega)
  obtain ⟨l1, l2, l3, l4, l5, l6⟩ := e2
  obtain ⟨f2, p1, p2, p3⟩ := putBack_eq (R := R) (op := op) (cc := fun r => chl (en r) (nth (op r) s + 1) (ar c)) (K := K) (s := s) (a := E) (n := ar c) (TE := TE) (g := sub) (m := md) hR.1 (fun r hr => ⟨(g3 r (hmem r hr).1).1, (g3 r (hmem r hr).1).2.1, chl_len _ _ _⟩) hs (by omega) (fun i hi => by rw [l3 _ (by omega), ac 17 (by omega) (by omega)]; exact hsb i hi) (by omega) (by omega) (by rw [l1 7 (by omega)]; exact c7) (by rw [l1 9 (by omega)]; exact c9) (fun i hi => by
      have hi2 : i < sub.length := by simpa using hi
      rw [l4 _ (by omega), c18, put_in hi]) hnd (fun r hr => l5 r hr)
  obtain ⟨me, hme⟩ : ∃ me, sF (sA (sF (sF md 7 (nI K)) 9 (nI TE)) 16 f2) 8 (nI E) = me := ⟨_, rfl⟩
  have fe : ∀ i, i ≠ 7 → i ≠ 8 → i ≠ 9 → gF me i = gF md i := by
    intro i h1 h2 h3
    rw [← hme, gF_sF, if_neg h2, gF_sA, gF_sF, if_neg h3, gF_sF, if_neg h1]
  have ae : ∀ i, i ≠ 16 → gA me i = gA md i := by
    intro i h1
    rw [← hme, gA_sF, gA_sA, if_neg h1]
    rfl
  have e16 : gA me 16 = f2 := by rw [← hme, gA_sF, gA_sA, if_pos rfl]
  have hoff : ∀ x, (∀ r, r ∈ sub → offR r x) → gA me 16 x = gA m 16 x := by
    intro x hx
    rw [e16, p2 x hx, l6 x hx, c16, t2 x hx, ab 16 (by omega) (by omega)]
  refine ⟨me, ?_, ⟨?_, ?_, ?_, ?_, ?_, ?_⟩, ?_, ?_, e5⟩
  · have hne : ¬ nI sub.length = 0 := nI_ne0 h0 (by omega)
    have hac2 : gA mb 2 c = nI (ar c) := by rw [ab 2 (by omega) (by omega)]; exact (hC2 c hc).2
    have had2 : gA md 2 c = nI (ar c) := by rw [l2 2 (by omega), ac 2 (by omega) (by omega)]; exact hac2
    have hfin : ∀ v : Bool, F_X9_laid_320 rc k204 x1 x2 (nI dep) (nI s) (nI X.length) (nI E) tyc (nI c) (nI sub.length) (bI v) md = k204 x1 x2 (nI dep) (nI s) (nI X.length) (nI E) (bI v) tyc (nI (c + 1)) me := by
      intro v
      rw [F_X9_laid_320, ck_in (by omega) (by omega), bd_r, nI_clamp (by omega), had2, p3, bo_s, bd_r, hme, F_X9_laid_345, nI_1]
    rw [hma, F_X9_laid_255, if_neg hne, ck_in (by omega) (by omega), bd_r, nI_clamp (by omega), h23, nI_1, ck_in (by omega) (by omega), bd_r, hmb, ck_in (by omega) (by omega), bd_r, nI_clamp (by omega), hac2, t3, bo_s, nI_1, e1, bo_s]
    cases hcv : Cvr N ct ar sy en d sub (opT en op s (ar c)) (K + ar c - 1)
    · rw [if_pos (show bI false = 0 from rfl), F_X9_laid_319]
      exact hfin false
    · rw [if_neg (show ¬ bI true = 0 by decide)]
      cases z
      · rw [if_pos (show bI false = 0 from rfl), F_X9_laid_319]
        exact hfin false
      · rw [if_neg (show ¬ bI true = 0 by decide)]
        exact hfin true
  · intro i hi
    by_cases i7 : i = 7
    · subst i7
      rw [← hme, gF_sF, if_neg (by omega), gF_sA, gF_sF, if_neg (by omega), gF_sF, if_pos rfl, h7]
    · by_cases i8 : i = 8
      · subst i8
        rw [← hme, gF_sF, if_pos rfl, h8]
      · by_cases i9 : i = 9
        · subst i9
          rw [← hme, gF_sF, if_neg (by omega), gF_sA, gF_sF, if_pos rfl, h9]
        · rw [fe i i7 i8 i9, l1 i hi, fc i i7 i9, fb i i8]
  · intro i hi
    rw [ae i (by omega), l2 i hi, ac i (by omega) (by omega), ab i (by omega) (by omega)]
  · intro i hi
    rw [ae 17 (by omega), l3 i (by omega), ac 17 (by omega) (by omega), a17, put_out (by omega)]
  · intro i hi
    rw [ae 18 (by omega), l4 i (by omega), c18, put_out (by omega), ab 18 (by omega) (by omega)]
  · intro r hr
    by_cases hrs2 : r ∈ sub
    · rw [e16]
      exact p1 r hrs2
    · intro t ht
      have hl := (g3 r hr).2.1
      rw [hoff (170 * r + t) (fun r' hr' => offR_of (fun q => hrs2 (by rw [← q]; exact hr')) (by omega))]
      exact hseg r hr t ht
  · intro x hx
    exact hoff x (fun r hr => hx r (hmem r hr).1)
  · have h5 := e3.kept (m' := me) (fun i a b => fe i (by omega) (by omega) (by omega)) (fun i a b => ae i (by omega))
    rw [List.append_assoc] at h5
    exact h5
  · omega
