theorem nth_drop (l : List Nat) (i t : Nat) : nth (l.drop i) t = nth l (i + t) := by
  rw [nth_eq, nth_eq, List.getElem?_drop]
theorem seg_drop {f : Nat → Int32} {a i : Nat} {l : List Nat} (h : seg f a l) : seg f (a + i) (l.drop i) := by
  intro t ht
  rw [List.length_drop] at ht
  rw [nth_drop, Nat.add_assoc]
  exact h (i + t) (by omega)
theorem sumR_app (en : Nat → Nat → Nat) (op : Nat → List Nat) (l l' : List Nat) : sumR en op (l ++ l') = sumR en op l + sumR en op l' := by
  unfold sumR
  rw [List.map_append, List.sum_append]
/-- one row of rules of an or -/
theorem run_step {R N : Nat} {ln ct ar : Nat → Nat} {sy : Nat → Nat → Int32} {en wt : Nat → Nat → Nat} {d : Nat} {rc : Int32 → Int32 → Int32 → Int32 → St → Rs} (hrc : LaidOK R N ln ct ar sy en wt d rc) {D : Nat} (hD : D ≤ d) (k357 : Int32 → Int32 → Int32 → Int32 → Int32 → Int32 → Int32 → Int32 → St → Rs) (x1 x2 x5 : Int32) (z : Bool)
    {g l : List Nat} {op : Nat → List Nat} {K E TE dep i j : Nat} {X Y : List Nd} {lab : Int32} {m : St} (hG : GW R ln wt g op K) (hrs : ∀ r, r ∈ g → rs (en r) (op r) ≤ 160 ∧ rs (en r) (op r) + g.length ≤ D + 1) (h24 : g.length ≤ 24) (hR : RuM R ln sy en m) (hC : ConM N ct ar m) (hK : K ≤ 160) (hseg : ∀ r, r ∈ g → seg (gA m 16) (170 * r) (op r)) (hE : E + 24 * (D + 1) ≤ 4800) (hTE : TE + 24 * (D + 1) ≤ 4800) (h7 : gF m 7 = nI K) (h8 : gF m 8 = nI E) (h9 : gF m 9 = nI TE)
    (hl : l.Sublist g) (h0 : 0 < l.length) (hlt : l.length < g.length) (hH : Hold m (X ++ (2, 0, 0, j, lab, dep) :: Y)) (hcnt : X.length + 1 + Y.length + sumR en op l + 2 * l.length ≤ 4000) (hmx : mxN (X ++ (2, 0, 0, j, lab, dep) :: Y) ≤ 400) (hdep : dep + 1 + D ≤ 400) :
    ∃ m', (ck (inb (nI X.length) 4000) (bd (gA (sF (sA m 17 (put (gA m 17) E l)) 8 (nI (E + l.length))) 23 (nI X.length).toNatClampNeg) (fun y7 => ck (inb (nI X.length) 4000) (bd (sA (sF (sA m 17 (put (gA m 17) E l)) 8 (nI (E + l.length))) 23 (upd (gA (sF (sA m 17 (put (gA m 17) E l)) 8 (nI (E + l.length))) 23) (nI X.length).toNatClampNeg (y7 + 1))) (fun s9 => bo (rc (nI E) (nI l.length) (-1) (nI dep + 1) s9) (fun r10 s11 => if r10 = 0 then (if bI z = 0 then (F_X9_laid_420 rc k357 x1 x2 (nI dep) x5 (nI X.length) (nI E) (nI i) (nI l.length) 0 s11) else (F_X9_laid_415 rc k357 x1 x2 (nI dep) x5 (nI X.length) (nI E) (nI i) (nI l.length) s11)) else (F_X9_laid_415 rc k357 x1 x2 (nI dep) x5 (nI X.length) (nI E) (nI i) (nI l.length) s11))))))) = k357 x1 x2 (nI dep) x5 (nI X.length) (nI E) (bI (z || Cvr N ct ar sy en d l op K)) (nI (i + l.length)) m' ∧
      Lp E TE g op m m' ∧ Hold m' (X ++ (2, 0, 0, j + 1, lab, dep) :: (Y ++ Tr N ar sy en d l op K (-1) (dep + 1))) ∧ (Tr N ar sy en d l op K (-1) (dep + 1)).length + 1 ≤ sumR en op l + 2 * l.length ∧ mxN (Tr N ar sy en d l op K (-1) (dep + 1)) ≤ dep + 1 + D := by
  obtain ⟨hN, har, hC1, hC2⟩ := id hC
  obtain ⟨g1, g2, g3, g4⟩ := id hG
  obtain ⟨ma, hma⟩ : ∃ ma, sF (sA m 17 (put (gA m 17) E l)) 8 (nI (E + l.length)) = ma := ⟨_, rfl⟩
  have hHa : Hold ma (X ++ (2, 0, 0, j, lab, dep) :: Y) := by
    rw [← hma]
    exact hH.kept (fun i a b => by rw [gF_sF, if_neg (by omega), gF_sA]) (fun i a b => by rw [gA_sF, gA_sA, if_neg (by omega)])
  have h23 : gA ma 23 X.length = nI j := (hHa.2.2.2.2 X.length (2, 0, 0, j, lab, dep) (by rw [List.getElem?_append_right (Nat.le_refl _), Nat.sub_self]; rfl)).2.2.2.2.1
  have hHb := hHa.kids (j + 1)
  obtain ⟨mb, hmb⟩ : ∃ mb, sA ma 23 (upd (gA ma 23) X.length (nI (j + 1))) = mb := ⟨_, rfl⟩
  rw [hmb] at hHb
  have fb : ∀ i, i ≠ 8 → gF mb i = gF m i := by
    intro i hi
    rw [← hmb, gF_sA, ← hma, gF_sF, if_neg hi, gF_sA]
  have ab : ∀ i, i ≠ 17 → i ≠ 23 → gA mb i = gA m i := by
    intro i h1 h2
    rw [← hmb, gA_sA, if_neg h2, ← hma, gA_sF, gA_sA, if_neg h1]
  have a17 : gA mb 17 = put (gA m 17) E l := by
    rw [← hmb, gA_sA, if_neg (by omega), ← hma, gA_sF, gA_sA, if_pos rfl]
  have b8 : gF mb 8 = nI (E + l.length) := by rw [← hmb, gF_sA, ← hma, gF_sF, if_pos rfl]
  have hRb : RuM R ln sy en mb := by
    unfold RuM
    rw [ab 5 (by omega) (by omega), ab 8 (by omega) (by omega)]
    exact hR
  have hCb : ConM N ct ar mb := by
    unfold ConM
    rw [fb 1 (by omega), ab 1 (by omega) (by omega), ab 2 (by omega) (by omega)]
    exact hC
  have hsb : seg (gA mb 17) E l := by
    intro i hi
    rw [a17, put_in hi]
  have hmx2 : mxN (X ++ (2, 0, 0, j + 1, lab, dep) :: Y) ≤ 400 := by
    rw [mxN_app] at hmx ⊢
    exact hmx
  obtain ⟨mc, e1, e2, e3, e4, e5⟩ := hrc D l op K E (E + l.length) TE (X ++ (2, 0, 0, j + 1, lab, dep) :: Y) (-1) (dep + 1) mb hD (hG.run hl h0) (fun r hr => by have := hrs r (hl.subset hr); omega) (by omega) hRb hCb (fun r hr => by rw [ab 16 (by omega) (by omega)]; exact hseg r (hl.subset hr)) hsb (Nat.le_refl _) (by omega) (by omega) (by rw [fb 7 (by omega)]; exact h7) b8 (by rw [fb 9 (by omega)]; exact h9) hHb (by simp; omega) hmx2 (by omega)
  obtain ⟨l1, l2, l3, l4, l5, l6⟩ := e2
  refine ⟨sF mc 8 (nI E), ?_, ⟨?_, ?_, ?_, ?_, ?_, ?_⟩, ?_, e4, e5⟩
  · have hfin : ∀ v : Bool, F_X9_laid_420 rc k357 x1 x2 (nI dep) x5 (nI X.length) (nI E) (nI i) (nI l.length) (bI v) mc = k357 x1 x2 (nI dep) x5 (nI X.length) (nI E) (bI v) (nI (i + l.length)) (sF mc 8 (nI E)) := by
      intro v
      rw [F_X9_laid_420, bd_r, bd_r, nI_add]
    rw [hma, ck_in (by omega) (by omega), bd_r, nI_clamp (by omega), h23, nI_1 j, ck_in (by omega) (by omega), bd_r, hmb, nI_1 dep, e1, bo_s]
    cases hcv : Cvr N ct ar sy en d l op K
    · rw [if_pos (show bI false = 0 from rfl)]
      cases z
      · rw [if_pos (show bI false = 0 from rfl)]
        exact hfin false
      · rw [if_neg (show ¬ bI true = 0 by decide), F_X9_laid_415]
        exact hfin true
    · rw [if_neg (show ¬ bI true = 0 by decide), F_X9_laid_415, Bool.or_true]
      exact hfin true
  · intro i hi
    by_cases i8 : i = 8
    · subst i8
      rw [gF_sF, if_pos rfl, h8]
    · rw [gF_sF, if_neg i8, l1 i hi, fb i i8]
  · intro i hi
    rw [gA_sF, l2 i hi, ab i (by omega) (by omega)]
  · intro i hi
    rw [gA_sF, l3 i (by omega), a17, put_out (by omega)]
  · intro i hi
    rw [gA_sF, l4 i hi, ab 18 (by omega) (by omega)]
  · intro r hr
    by_cases hrl : r ∈ l
    · exact l5 r hrl
    · intro t ht
      have hle := (g3 r hr).2.1
      rw [gA_sF, l6 (170 * r + t) (fun r' hr' => offR_of (fun q => hrl (by rw [← q]; exact hr')) (by omega)), ab 16 (by omega) (by omega)]
      exact hseg r hr t ht
  · intro x hx
    rw [gA_sF, l6 x (fun r hr => hx r (hl.subset hr)), ab 16 (by omega) (by omega)]
  · have h5 := e3.kept (m' := sF mc 8 (nI E)) (fun i a b => by rw [gF_sF, if_neg (by omega)]) (fun i a b => rfl)
    rw [List.append_assoc] at h5
    exact h5
