theorem sub170 (s : Nat) : nI (170 + s) - 170 = nI s := by
  have h := pk_sub (a := 170 + s) (b := 170) (by omega)
  rw [show 170 + s - 170 = s by omega] at h
  exact h
theorem ors_loop {R N : Nat} {ln ct ar : Nat → Nat} {sy : Nat → Nat → Int32} {en wt : Nat → Nat → Nat} {d : Nat} {rc : Int32 → Int32 → Int32 → Int32 → St → Rs} (hrc : LaidOK R N ln ct ar sy en wt d rc) {D : Nat} (hD : D ≤ d)
    {g : List Nat} {op : Nat → List Nat} {K a E TE dep s : Nat} {X : List Nd} {lab : Int32} {m0 : St} (hG : GW R ln wt g op K) (hrs : ∀ r, r ∈ g → rs (en r) (op r) ≤ 160 ∧ rs (en r) (op r) + g.length ≤ D + 1) (h24 : g.length ≤ 24) (hR : RuM R ln sy en m0) (hC : ConM N ct ar m0) (hK : K ≤ 160) (hg : seg (gA m0 17) a g) (haE : a + g.length ≤ E) (hE : E + 24 * (D + 1) ≤ 4800) (hTE : TE + 24 * (D + 1) ≤ 4800) (h7 : gF m0 7 = nI K) (h8 : gF m0 8 = nI E) (h9 : gF m0 9 = nI TE) (hs : s < K)
    (hn0 : 0 < ndC sy op g s) (hn1 : ndC sy op g s ≠ g.length) (hX : X.length + sumR en op g + 2 * g.length ≤ 4000) (hmx : mxN X ≤ 400) (hdep : dep + 1 + D ≤ 400) :
    ∀ (n w i : Nat) (pr : List (List Nat)) (m : St), (g.drop i).length ≤ n → n < w → i ≤ g.length → (pr = [] → i = 0) → Lp E TE g op m0 m → Hold m (X ++ (2, 0, 0, pr.length, lab, dep) :: pr.flatMap fun l => Tr N ar sy en d l op K (-1) (dep + 1)) → (pr.flatMap fun l => Tr N ar sy en d l op K (-1) (dep + 1)).length + pr.length ≤ sumR en op (g.take i) + 2 * i → mxN (pr.flatMap fun l => Tr N ar sy en d l op K (-1) (dep + 1)) ≤ dep + 1 + D →
      ∃ m', F_X9_laid_357 rc w (nI a) (nI g.length) (nI dep) (nI (170 + s)) (nI X.length) (nI E) (bI (pr.any fun l => Cvr N ct ar sy en d l op K)) (nI i) m = some (bI ((pr ++ runs (ndB sy op s) n (g.drop i)).any fun l => Cvr N ct ar sy en d l op K), m') ∧ Lp E TE g op m0 m' ∧ Hold m' (X ++ (2, 0, 0, (pr ++ runs (ndB sy op s) n (g.drop i)).length, lab, dep) :: (pr ++ runs (ndB sy op s) n (g.drop i)).flatMap fun l => Tr N ar sy en d l op K (-1) (dep + 1)) ∧ ((pr ++ runs (ndB sy op s) n (g.drop i)).flatMap fun l => Tr N ar sy en d l op K (-1) (dep + 1)).length + (pr ++ runs (ndB sy op s) n (g.drop i)).length ≤ sumR en op g + 2 * g.length ∧ mxN ((pr ++ runs (ndB sy op s) n (g.drop i)).flatMap fun l => Tr N ar sy en d l op K (-1) (dep + 1)) ≤ dep + 1 + D := by
  have stop : ∀ (w i : Nat) (pr : List (List Nat)) (m : St), i = g.length → Lp E TE g op m0 m → Hold m (X ++ (2, 0, 0, pr.length, lab, dep) :: pr.flatMap fun l => Tr N ar sy en d l op K (-1) (dep + 1)) → F_X9_laid_357 rc (w + 1) (nI a) (nI g.length) (nI dep) (nI (170 + s)) (nI X.length) (nI E) (bI (pr.any fun l => Cvr N ct ar sy en d l op K)) (nI i) m = some (bI (pr.any fun l => Cvr N ct ar sy en d l op K), m) := by
    intro w i pr m hi hL hH
    rw [F_X9_laid_357, if_pos (nI_le (by omega) (by omega)), ck_h]
    cases pr.any fun l => Cvr N ct ar sy en d l op K <;> rfl
  intro n
  induction n with
  | zero =>
    intro w i pr m hn hw hi hp hL hH hl hm
    obtain ⟨w, rfl⟩ : ∃ z, w = z + 1 := ⟨w - 1, by omega⟩
    rw [List.length_drop] at hn
    have hi2 : i = g.length := by omega
    rw [runs, List.append_nil]
    rw [hi2, List.take_length] at hl
    exact ⟨m, stop w i pr m hi2 hL hH, hL, hH, hl, hm⟩
  | succ n ih =>
    intro w i pr m hn hw hi hp hL hH hl hm
    obtain ⟨w, rfl⟩ : ∃ z, w = z + 1 := ⟨w - 1, by omega⟩
    rw [List.length_drop] at hn
    by_cases hi2 : i = g.length
    · have hr : runs (ndB sy op s) (n + 1) (g.drop i) = [] := by
        rw [runs, if_pos]
        rw [hi2, List.drop_length]
        rfl
      rw [hr, List.append_nil]
      rw [hi2, List.take_length] at hl
      exact ⟨m, stop w i pr m hi2 hL hH, hL, hH, hl, hm⟩
    · have hdl : (g.drop i).length = g.length - i := List.length_drop
      have hne : ¬ (g.drop i).isEmpty = true := by
        intro q
        have : g.drop i = [] := by simpa using q
        rw [this] at hdl
        simp at hdl
        omega
      obtain ⟨l, hpl⟩ : ∃ l, preR (ndB sy op s) (g.drop i) = l := ⟨_, rfl⟩
      have hr : runs (ndB sy op s) (n + 1) (g.drop i) = l :: runs (ndB sy op s) n (g.drop (i + l.length)) := by
        rw [runs, if_neg hne, hpl, List.drop_drop]
      have hl0 : 0 < l.length := by
        rw [← hpl]
        exact preR_pos (by omega)
      have hlle : l.length ≤ g.length - i := by
        rw [← hpl, ← hdl]
        exact preR_le _ _
      have hsub : l.Sublist g := by
        rw [← hpl]
        unfold preR
        exact (List.takeWhile_sublist _).trans (List.drop_sublist _ _)
      have hlt : l.length < g.length := run_short hn0 hn1 hsub (v := ndB sy op s (nth (g.drop i) 0)) (fun x hx => preR_same (by rw [hpl]; exact hx))
      have htk : g.take (i + l.length) = g.take i ++ l := by
        rw [List.take_add, ← hpl, ← preR_pre]
      have hsg : sumR en op (g.take i) + sumR en op l ≤ sumR en op g := by
        rw [← sumR_app, ← htk]
        conv => rhs; rw [← List.take_append_drop (i + l.length) g]
        rw [sumR_app]
        omega
      have hRm := hL.ru hR
      have hgm : seg (gA m 17) a g := fun t ht => by rw [hL.2.2.1 _ (by omega)]; exact hg t ht
      have hOm : OpM R ln op K (g.drop i) m := ⟨hK, fun r hr => by
        have hrg := List.mem_of_mem_drop hr
        exact ⟨(hG.2.2.1 r hrg).1, (hG.2.2.1 r hrg).2.1, hL.2.2.2.2.1 r hrg, (hG.2.2.1 r hrg).2.2⟩⟩
      have hE8 : gF m 8 = nI E := by rw [hL.1 8 (by omega)]; exact h8
      have hrun := run_eq hRm hOm hs (seg_drop (i := i) hgm) (E := E) (by omega) (by omega) hE8 (by omega)
      rw [hdl, hpl] at hrun
      have hmx3 : mxN (X ++ (2, 0, 0, pr.length, lab, dep) :: pr.flatMap fun l => Tr N ar sy en d l op K (-1) (dep + 1)) ≤ 400 := by
        rw [mxN_app]
        show max (mxN X) (max dep (mxN _)) ≤ 400
        omega
      have hcnt : X.length + 1 + (pr.flatMap fun l => Tr N ar sy en d l op K (-1) (dep + 1)).length + sumR en op l + 2 * l.length ≤ 4000 := by
        cases pr with
        | nil =>
          have := hp rfl
          simp only [List.flatMap_nil, List.length_nil] at hl ⊢
          omega
        | cons p0 pr =>
          simp only [List.length_cons] at hl
          omega
      obtain ⟨m', e1, e2, e3, e4, e5⟩ := run_step hrc hD (F_X9_laid_357 rc w) (nI a) (nI g.length) (nI (170 + s)) (pr.any fun l => Cvr N ct ar sy en d l op K) (i := i) hG hrs h24 hRm (hL.con hC) hK hL.2.2.2.2.1 hE hTE (by rw [hL.1 7 (by omega)]; exact h7) hE8 (by rw [hL.1 9 (by omega)]; exact h9) hsub hl0 hlt hH hcnt hmx3 hdep
      have hfm : ((pr ++ [l]).flatMap fun l => Tr N ar sy en d l op K (-1) (dep + 1)) = (pr.flatMap fun l => Tr N ar sy en d l op K (-1) (dep + 1)) ++ Tr N ar sy en d l op K (-1) (dep + 1) := by
        rw [List.flatMap_append]
        simp
      have hany : ((pr ++ [l]).any fun l => Cvr N ct ar sy en d l op K) = ((pr.any fun l => Cvr N ct ar sy en d l op K) || Cvr N ct ar sy en d l op K) := by
        rw [List.any_append]
        simp
      obtain ⟨m2, k1, k2, k3, k4, k5⟩ := ih w (i + l.length) (pr ++ [l]) m' (by rw [List.length_drop]; omega) (by omega) (by omega) (fun q => by simp at q) (hL.trans e2) (by rw [hfm, List.length_append]; exact e3) (by rw [hfm, List.length_append, List.length_append, htk, sumR_app]; simp only [List.length_singleton]; omega) (by rw [hfm, mxN_app]; omega)
      rw [hr]
      rw [List.append_assoc] at k1 k3 k4 k5
      refine ⟨m2, ?_, k2, k3, k4, k5⟩
      rw [F_X9_laid_357, if_neg (nI_ge (by omega) (by omega)), nI_add, pk_sub (by omega), sub170, hrun, bo_s]
      rw [hany] at k1
      exact e1.trans k1
