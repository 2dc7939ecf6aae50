theorem Lp.trans {E TE : Nat} {g : List Nat} {op : Nat → List Nat} {m m' m'' : St} (h : Lp E TE g op m m') (h' : Lp E TE g op m' m'') : Lp E TE g op m m'' := by
  obtain ⟨a1, a2, a3, a4, a5, a6⟩ := h
  obtain ⟨b1, b2, b3, b4, b5, b6⟩ := h'
  exact ⟨fun j hj => (b1 j hj).trans (a1 j hj), fun j hj => (b2 j hj).trans (a2 j hj), fun j hj => (b3 j hj).trans (a3 j hj), fun j hj => (b4 j hj).trans (a4 j hj), b5, fun x hx => (b6 x hx).trans (a6 x hx)⟩
theorem Lp.ru {E TE R : Nat} {g : List Nat} {op : Nat → List Nat} {m m' : St} {ln : Nat → Nat} {sy : Nat → Nat → Int32} {en : Nat → Nat → Nat} (h : Lp E TE g op m m') (hR : RuM R ln sy en m) : RuM R ln sy en m' := by
  unfold RuM
  rw [h.2.1 5 (by omega), h.2.1 8 (by omega)]
  exact hR
theorem Lp.con {E TE N : Nat} {g : List Nat} {op : Nat → List Nat} {m m' : St} {ct ar : Nat → Nat} (h : Lp E TE g op m m') (hC : ConM N ct ar m) : ConM N ct ar m' := by
  unfold ConM
  rw [h.1 1 (by omega), h.2.1 1 (by omega), h.2.1 2 (by omega)]
  exact hC
/-- what a branch's child is, and whether it covers -/
def kT (N : Nat) (ar : Nat → Nat) (sy : Nat → Nat → Int32) (en : Nat → Nat → Nat) (d : Nat) (g : List Nat) (op : Nat → List Nat) (K s dep c : Nat) : List Nd := Tr N ar sy en d (subG sy op s (nI c) g) (opT en op s (ar c)) (K + ar c - 1) (nI c) (dep + 1)
def kC (N : Nat) (ct ar : Nat → Nat) (sy : Nat → Nat → Int32) (en : Nat → Nat → Nat) (d : Nat) (g : List Nat) (op : Nat → List Nat) (K s c : Nat) : Bool := !(subG sy op s (nI c) g).isEmpty && Cvr N ct ar sy en d (subG sy op s (nI c) g) (opT en op s (ar c)) (K + ar c - 1)
def covB (N : Nat) (ct ar : Nat → Nat) (sy : Nat → Nat → Int32) (en : Nat → Nat → Nat) (d : Nat) (g : List Nat) (op : Nat → List Nat) (K s t c : Nat) : Bool := ((List.range c).filter fun c => decide (ct c = t)).all fun c => kC N ct ar sy en d g op K s c
theorem covB_succ (N : Nat) (ct ar : Nat → Nat) (sy : Nat → Nat → Int32) (en : Nat → Nat → Nat) (d : Nat) (g : List Nat) (op : Nat → List Nat) (K s t c : Nat) : covB N ct ar sy en d g op K s t (c + 1) = (covB N ct ar sy en d g op K s t c && (if ct c = t then kC N ct ar sy en d g op K s c else true)) := by
  unfold covB
  rw [List.range_succ, List.filter_append, List.all_append]
  congr 1
  by_cases h : ct c = t <;> simp [h]
theorem branch_loop {R N : Nat} {ln ct ar : Nat → Nat} {pk : Nat → Int32} {sy : Nat → Nat → Int32} {en wt : Nat → Nat → Nat} (hW : ∀ r, r < R → PW N ct ar pk (ln r) (sy r) (en r) (wt r)) {d : Nat} {rc : Int32 → Int32 → Int32 → Int32 → St → Rs} (hrc : LaidOK R N ln ct ar sy en wt d rc) {D : Nat} (hD : D ≤ d)
    {g : List Nat} {op : Nat → List Nat} {K a E TE dep s t r0 q0 : Nat} {X : List Nd} {lab : Int32} {m0 : St} (hG : GW R ln wt g op K) (hrs : ∀ r, r ∈ g → rs (en r) (op r) ≤ 160 ∧ rs (en r) (op r) + g.length ≤ D + 1) (h24 : g.length ≤ 24) (hR : RuM R ln sy en m0) (hC : ConM N ct ar m0) (hK : K ≤ 160) (hg : seg (gA m0 17) a g) (haE : a + g.length ≤ E) (hE : E + 24 * (D + 1) ≤ 4800) (hTE : TE + 24 * (D + 1) ≤ 4800) (h7 : gF m0 7 = nI K) (h8 : gF m0 8 = nI E) (h9 : gF m0 9 = nI TE) (hs : s < K)
    (hct : ∀ c, c < N → ct c < 2 ^ 31) (ht : t < 2 ^ 31) (htyp : ∀ r, r ∈ g → ∀ c, c < N → sy r (nth (op r) s) = nI c → ct c = t) (hX : X.length + sumR en op g + 2 * g.length ≤ 4000) (hmx : mxN X ≤ 400) (hdep : dep + 1 + D ≤ 400) :
    ∀ (e w c : Nat) (m : St), c + e = N → e < w → Lp E TE g op m0 m → Hold m (X ++ (1, r0, q0, (kidsC sy op s c g).length, lab, dep) :: (kidsC sy op s c g).flatMap (kT N ar sy en d g op K s dep)) → ((kidsC sy op s c g).flatMap (kT N ar sy en d g op K s dep)).length + (kidsC sy op s c g).length ≤ SU (fun r => rs (en r) (op r) + 1) sy op s g c → mxN ((kidsC sy op s c g).flatMap (kT N ar sy en d g op K s dep)) ≤ dep + 1 + D →
      ∃ m', F_X9_laid_204 rc w (nI a) (nI g.length) (nI dep) (nI s) (nI X.length) (nI E) (bI (covB N ct ar sy en d g op K s t c)) (nI t) (nI c) m = some (bI (covB N ct ar sy en d g op K s t N), m') ∧ Lp E TE g op m0 m' ∧ Hold m' (X ++ (1, r0, q0, (kidsC sy op s N g).length, lab, dep) :: (kidsC sy op s N g).flatMap (kT N ar sy en d g op K s dep)) ∧ ((kidsC sy op s N g).flatMap (kT N ar sy en d g op K s dep)).length + (kidsC sy op s N g).length ≤ SU (fun r => rs (en r) (op r) + 1) sy op s g N ∧ mxN ((kidsC sy op s N g).flatMap (kT N ar sy en d g op K s dep)) ≤ dep + 1 + D := by
  obtain ⟨hN, har, hC1, hC2⟩ := id hC
  have hg1 := hG.1
  intro e
  induction e with
  | zero =>
    intro w c m hc hw hL hH hl hmm
    obtain ⟨w, rfl⟩ : ∃ z, w = z + 1 := ⟨w - 1, by omega⟩
    have hcN : c = N := by omega
    subst hcN
    refine ⟨m, ?_, hL, hH, hl, hmm⟩
    rw [F_X9_laid_204, hL.1 1 (by omega), hC1, if_pos (nI_le (by omega) (by omega)), ck_h]
    cases covB c ct ar sy en d g op K s t c <;> rfl
  | succ e ih =>
    intro w c m hc hw hL hH hl hmm
    obtain ⟨w, rfl⟩ : ∃ z, w = z + 1 := ⟨w - 1, by omega⟩
    have hcN : c < N := by omega
    have hgc : gA m 1 c = nI (ct c) := by rw [hL.2.1 1 (by omega)]; exact (hC2 c hcN).1
    have hgm : seg (gA m 17) a g := fun i hi => by rw [hL.2.2.1 _ (by omega)]; exact hg i hi
    have hOm : OpM R ln op K g m := ⟨hK, fun r hr => ⟨(hG.2.2.1 r hr).1, (hG.2.2.1 r hr).2.1, hL.2.2.2.2.1 r hr, (hG.2.2.1 r hr).2.2⟩⟩
    have hRm := hL.ru hR
    have hE8 : gF m 8 = nI E := by rw [hL.1 8 (by omega)]; exact h8
    have hSU1 := SU_mono (fun r => rs (en r) (op r) + 1) sy op s g (show c + 1 ≤ N by omega)
    have hSU2 := SU_le (fun r => rs (en r) (op r) + 1) sy op s N hN g
    rw [sum_1, show ((g.map fun r => rs (en r) (op r)).sum) = sumR en op g from rfl] at hSU2
    have hSc : SU (fun r => rs (en r) (op r) + 1) sy op s g (c + 1) = SU (fun r => rs (en r) (op r) + 1) sy op s g c + (sumR en op (subG sy op s (nI c) g) + (subG sy op s (nI c) g).length) := by
      rw [SU, sum_1]
      rfl
    have hsumg : ((g.map fun r => rs (en r) (op r)).sum) = sumR en op g := rfl
    rw [F_X9_laid_204, hL.1 1 (by omega), hC1, if_neg (nI_ge (by omega) (by omega)), ck_in (by omega) (by omega), bd_r, nI_clamp (by omega), hgc]
    by_cases hty : ct c = t
    · rw [if_pos (by rw [hty]), those_eq hRm hOm hs hgm haE (by omega) hE8, bo_s]
      have hz : (if bI (covB N ct ar sy en d g op K s t c) = 0 then F_X9_laid_254 rc (F_X9_laid_204 rc w) (nI a) (nI g.length) (nI dep) (nI s) (nI X.length) (nI E) (nI t) (nI c) (nI (subG sy op s (nI c) g).length) (sF (sA m 17 (put (gA m 17) E (subG sy op s (nI c) g))) 8 (nI (E + (subG sy op s (nI c) g).length))) else if nI (subG sy op s (nI c) g).length ≤ 0 then F_X9_laid_254 rc (F_X9_laid_204 rc w) (nI a) (nI g.length) (nI dep) (nI s) (nI X.length) (nI E) (nI t) (nI c) (nI (subG sy op s (nI c) g).length) (sF (sA m 17 (put (gA m 17) E (subG sy op s (nI c) g))) 8 (nI (E + (subG sy op s (nI c) g).length))) else F_X9_laid_255 rc (F_X9_laid_204 rc w) (nI a) (nI g.length) (nI dep) (nI s) (nI X.length) (nI E) (nI t) (nI c) (nI (subG sy op s (nI c) g).length) 1 (sF (sA m 17 (put (gA m 17) E (subG sy op s (nI c) g))) 8 (nI (E + (subG sy op s (nI c) g).length)))) = F_X9_laid_255 rc (F_X9_laid_204 rc w) (nI a) (nI g.length) (nI dep) (nI s) (nI X.length) (nI E) (nI t) (nI c) (nI (subG sy op s (nI c) g).length) (bI (covB N ct ar sy en d g op K s t c && !(subG sy op s (nI c) g).isEmpty)) (sF (sA m 17 (put (gA m 17) E (subG sy op s (nI c) g))) 8 (nI (E + (subG sy op s (nI c) g).length))) := by
        have hle : (subG sy op s (nI c) g).length ≤ g.length := List.length_filter_le _ _
        cases hcv : covB N ct ar sy en d g op K s t c
        · rw [if_pos (show bI false = 0 from rfl), F_X9_laid_254]
          rfl
        · rw [if_neg (show ¬ bI true = 0 by decide)]
          cases hsb : subG sy op s (nI c) g with
          | nil =>
            rw [if_pos (by decide), F_X9_laid_254]
            rfl
          | cons x l =>
            rw [hsb] at hle
            rw [if_neg (nI_nle (by simp) (by simp at hle ⊢; omega))]
            rfl
      rw [hz]
      by_cases h0 : 0 < (subG sy op s (nI c) g).length
      · have hne : (subG sy op s (nI c) g).isEmpty = false := by
          cases hsb : subG sy op s (nI c) g with
          | nil => rw [hsb] at h0; simp at h0
          | cons x l => rfl
        have hmx3 : mxN (X ++ (1, r0, q0, (kidsC sy op s c g).length, lab, dep) :: (kidsC sy op s c g).flatMap (kT N ar sy en d g op K s dep)) ≤ 400 := by
          rw [mxN_app]
          show max (mxN X) (max dep (mxN _)) ≤ 400
          omega
        obtain ⟨m', e1, e2, e3, e4, e5⟩ := child_step hW hrc hD (F_X9_laid_204 rc w) (nI a) (nI g.length) (nI t) (covB N ct ar sy en d g op K s t c && !(subG sy op s (nI c) g).isEmpty) hG hrs h24 hRm (hL.con hC) hL.2.2.2.2.1 hE hTE (by rw [hL.1 7 (by omega)]; exact h7) hE8 (by rw [hL.1 9 (by omega)]; exact h9) hs hcN hH h0 (by omega) hmx3 hdep
        rw [e1]
        have hk2 : kidsC sy op s (c + 1) g = kidsC sy op s c g ++ [c] := by rw [kidsC_succ, hne]; rfl
        have hfm : (kidsC sy op s (c + 1) g).flatMap (kT N ar sy en d g op K s dep) = (kidsC sy op s c g).flatMap (kT N ar sy en d g op K s dep) ++ kT N ar sy en d g op K s dep c := by
          rw [hk2, List.flatMap_append]
          simp
        have hcv2 : covB N ct ar sy en d g op K s t (c + 1) = (Cvr N ct ar sy en d (subG sy op s (nI c) g) (opT en op s (ar c)) (K + ar c - 1) && (covB N ct ar sy en d g op K s t c && !(subG sy op s (nI c) g).isEmpty)) := by
          rw [covB_succ, if_pos hty]
          unfold kC
          rw [hne]
          cases covB N ct ar sy en d g op K s t c <;> cases Cvr N ct ar sy en d (subG sy op s (nI c) g) (opT en op s (ar c)) (K + ar c - 1) <;> rfl
        rw [← hcv2]
        refine ih w (c + 1) m' (by omega) (by omega) (hL.trans e2) ?_ ?_ ?_
        · rw [hfm, hk2, List.length_append]
          exact e3
        · rw [hfm, hk2, List.length_append, List.length_append, hSc]
          have e4' : (kT N ar sy en d g op K s dep c).length + 1 ≤ sumR en op (subG sy op s (nI c) g) + (subG sy op s (nI c) g).length := e4
          simp only [List.length_singleton]
          omega
        · rw [hfm, mxN_app]
          have e5' : mxN (kT N ar sy en d g op K s dep c) ≤ dep + 1 + D := e5
          omega
      · have hsb : subG sy op s (nI c) g = [] := List.length_eq_zero_iff.mp (by omega)
        have hk2 : kidsC sy op s (c + 1) g = kidsC sy op s c g := by rw [kidsC_succ, hsb]; simp
        have hcv2 : covB N ct ar sy en d g op K s t (c + 1) = false := by
          rw [covB_succ, if_pos hty]
          unfold kC
          rw [hsb]
          simp
        rw [hsb, put_nil, sA_gA, show nI (E + ([] : List Nat).length) = gF m 8 from hE8.symm, sF_gF, F_X9_laid_255, if_pos (by rfl), F_X9_laid_345, nI_1]
        rw [show (covB N ct ar sy en d g op K s t c && !([] : List Nat).isEmpty) = covB N ct ar sy en d g op K s t (c + 1) by rw [hcv2]; simp]
        exact ih w (c + 1) m (by omega) (by omega) hL (by rw [hk2]; exact hH) (by rw [hk2, hSc]; omega) (by rw [hk2]; exact hmm)
    · have hsb : subG sy op s (nI c) g = [] := by
        rw [List.eq_nil_iff_forall_not_mem]
        intro r hr
        obtain ⟨h1, h2⟩ := subG_mem.mp hr
        exact hty (htyp r h1 c hcN h2)
      have hk2 : kidsC sy op s (c + 1) g = kidsC sy op s c g := by rw [kidsC_succ, hsb]; simp
      have hcv2 : covB N ct ar sy en d g op K s t (c + 1) = covB N ct ar sy en d g op K s t c := by
        rw [covB_succ, if_neg hty]
        simp
      rw [if_neg (fun q => hty (nI_inj (hct c hcN) ht q)), F_X9_laid_345, nI_1, ← hcv2]
      exact ih w (c + 1) m (by omega) (by omega) hL (by rw [hk2]; exact hH) (by rw [hk2, hSc]; omega) (by rw [hk2]; exact hmm)
