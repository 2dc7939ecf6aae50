/-! covers -/
section
variable {N : Nat} {ct ar : Nat → Nat} {pk : Nat → Int32} {R : Nat} {ln bs : Nat → Nat} {sy : Nat → Nat → Int32} {en wt uc pc : Nat → Nat → Nat}
def cvI (N : Nat) (ct ar : Nat → Nat) (sy : Nat → Nat → Int32) (en : Nat → Nat → Nat) (d : Nat) (i : It) : Bool := Cvr N ct ar sy en d i.1 i.2.1 i.2.2.1
/-- a tree is its first node and its children's trees -/
theorem Tr_split (hW : ∀ r, r < R → PW N ct ar pk (ln r) (sy r) (en r) (wt r)) (hN : N ≤ 60) (d : Nat) (g : List Nat) (op : Nat → List Nat) (K : Nat) (lab : Int32) (dep : Nat) (hG : GW R ln wt g op K) (hrs : ∀ r, r ∈ g → rs (en r) (op r) + g.length ≤ d + 1) :
    ∃ x cs, Tr N ar sy en (d + 1) g op K lab dep = x :: cs.flatMap (trI N ar sy en d (dep + 1)) ∧ x.2.2.2.2.2 = dep ∧ (∀ i, i ∈ cs → GW R ln wt i.1 i.2.1 i.2.2.1 ∧ ∀ r, r ∈ i.1 → rs (en r) (i.2.1 r) + i.1.length ≤ d) ∧
      ((x.1 = 0 ∧ cs = [] ∧ Cvr N ct ar sy en (d + 1) g op K = true) ∨ (x.1 = 2 ∧ Cvr N ct ar sy en (d + 1) g op K = cs.any (cvI N ct ar sy en d)) ∨ (∃ s, pos (ndC sy op g) g.length K 0 none = some (true, s) ∧ s < K ∧ x = (1, nth g 0, nth (op (nth g 0)) s, (kidsC sy op s N g).length, lab, dep) ∧ (∀ r, r ∈ g → 0 ≤ sy r (nth (op r) s)) ∧ cs = (kidsC sy op s N g).map fun i => (subG sy op s (nI i) g, opT en op s (ar i), K + ar i - 1, nI i))) := by
  have hg1 := hG.1
  have hK : ∀ r, r ∈ g → (op r).length = K ∧ ∀ s, s < K → nth (op r) s < ln r := fun r hr => (hG.2.2.1 r hr).2
  cases hp : pos (ndC sy op g) g.length K 0 none with
  | none =>
    have hz := (pos_none K 0 none hp).2
    have hcv : Cvr N ct ar sy en (d + 1) g op K = true := by rw [Cvr, hp]
    by_cases h1 : g.length = 1
    · refine ⟨(0, nth g 0, 0, 0, lab, dep), [], ?_, rfl, fun i hi => (by cases hi), Or.inl ⟨rfl, rfl, hcv⟩⟩
      rw [Tr, hp]; dsimp only; rw [if_pos h1]; rfl
    · have hone : ∀ r, r ∈ g → ∃ d', d = d' + 1 ∧ pos (ndC sy op [r]) 1 K 0 none = none := by
        intro r hrg
        have hrd := hrs r hrg
        refine ⟨d - 1, by omega, pos_nil (by omega) K 0 (fun z h2 h3 => ?_)⟩
        have h4 := hz z h2 h3
        unfold ndC at h4 ⊢
        have h5 : ∀ r', r' ∈ g → ¬ decide (0 ≤ sy r' (nth (op r') z)) = true := List.filter_eq_nil_iff.mp (List.eq_nil_of_length_eq_zero h4)
        rw [List.filter_cons_of_neg (p := fun r => decide (0 ≤ sy r (nth (op r) z))) (h5 r hrg)]
        rfl
      refine ⟨(2, 0, 0, g.length, lab, dep), g.map fun r => ([r], op, K, -1), ?_, rfl, fun i hi => ?_, Or.inr (Or.inl ⟨rfl, ?_⟩)⟩
      · rw [Tr, hp]
        dsimp only
        rw [if_neg h1, List.flatMap_map]
        congr 1
        have : ∀ l : List Nat, (∀ r, r ∈ l → r ∈ g) → (l.map fun r => ((0, r, 0, 0, -1, dep + 1) : Nd)) = l.flatMap fun r => trI N ar sy en d (dep + 1) ([r], op, K, -1) := by
          intro l
          induction l with
          | nil => intro _; rfl
          | cons r l ihl =>
            intro hlm
            rw [List.map_cons, List.flatMap_cons, ihl (fun r' h' => hlm r' (List.mem_cons_of_mem _ h'))]
            obtain ⟨d', hd', hpr⟩ := hone r (hlm r List.mem_cons_self)
            have : trI N ar sy en d (dep + 1) ([r], op, K, -1) = [(0, r, 0, 0, -1, dep + 1)] := by
              show Tr N ar sy en d [r] op K (-1) (dep + 1) = _
              rw [hd', Tr, show [r].length = 1 from rfl, hpr]
              rfl
            rw [this]
            rfl
        exact this g (fun r hr => hr)
      · obtain ⟨r, hr, rfl⟩ := List.mem_map.mp hi
        have hsl : [r].Sublist g := List.singleton_sublist.mpr hr
        refine ⟨hG.run hsl (by simp), fun r' hr' => ?_⟩
        rw [List.mem_singleton.mp hr']
        have := hrs r hr
        show rs (en r) (op r) + 1 ≤ d
        omega
      · rw [hcv]
        symm
        rw [List.any_eq_true]
        obtain ⟨r, hr⟩ := List.exists_mem_of_length_pos hg1
        refine ⟨([r], op, K, -1), List.mem_map.mpr ⟨r, hr, rfl⟩, ?_⟩
        obtain ⟨d', hd', hpr⟩ := hone r hr
        show Cvr N ct ar sy en d [r] op K = true
        rw [hd', Cvr, show [r].length = 1 from rfl, hpr]
  | some x =>
    obtain ⟨b, s⟩ := x
    obtain ⟨hs, hbt, hbf⟩ := pos_some K 0 none b s hp (fun y hy => by cases hy)
    rw [Nat.zero_add] at hs
    cases b with
    | true =>
      refine ⟨_, _, ?_, rfl, fun i hi => ?_, Or.inr (Or.inr ⟨s, rfl, hs, rfl, fun r hr => ?_, rfl⟩)⟩
      · rw [Tr, hp]
        dsimp only
        rw [List.flatMap_map]
        rfl
      · obtain ⟨i0, hi0, rfl⟩ := List.mem_map.mp hi
        have hsub : (subG sy op s (nI i0) g).Sublist g := List.filter_sublist
        have hiN := (kids_mem.mp hi0).1
        refine ⟨hG.sub hW hN hs hiN (subG_pos hi0), fun r hr => ?_⟩
        have hrg := hsub.subset hr
        have hra := hrs r hrg
        have hlen := hsub.length_le
        have := rs_take (hW r (hG.2.2.1 r hrg).1) (l := op r) (s := s) (c := i0) (by rw [(hK r hrg).1]; exact hs) ((hK r hrg).2 s hs) (subG_mem.mp hr).2 (by omega) hN
        show rs (en r) (opL (op r) (chl (en r) (nth (op r) s + 1) (ar i0)) s) + (subG sy op s (nI i0) g).length ≤ d
        omega
      · have h4 : ngM sy op g s = g := List.Sublist.eq_of_length List.filter_sublist (hbt rfl)
        have h5 : r ∈ ngM sy op g s := by rw [h4]; exact hr
        exact of_decide_eq_true (List.mem_filter.mp h5).2
    | false =>
      obtain ⟨hb1, hb2⟩ := hbf rfl
      have hrsp := runs_spec (ndB sy op s) g.length g (Nat.le_refl _)
      refine ⟨(2, 0, 0, (runs (ndB sy op s) g.length g).length, lab, dep), (runs (ndB sy op s) g.length g).map fun l => (l, op, K, -1), ?_, rfl, fun i hi => ?_, Or.inr (Or.inl ⟨rfl, ?_⟩)⟩
      · rw [Tr, hp]
        dsimp only
        rw [List.flatMap_map]
        rfl
      · obtain ⟨l, hl', rfl⟩ := List.mem_map.mp hi
        obtain ⟨l1, l2, v, l3⟩ := hrsp.2 l hl'
        refine ⟨hG.run l2 l1, fun r hr => ?_⟩
        have := hrs r (l2.subset hr)
        have := run_short hb1 hb2 l2 l3
        show rs (en r) (op r) + l.length ≤ d
        omega
      · rw [Cvr, hp]
        dsimp only
        rw [List.any_map]
        rfl
/-- the class's constructors and their types -/
def CtC (N : Nat) (ct : Nat → Nat) (c : St) : Prop := N ≤ 60 ∧ gF c 2 = nI N ∧ ∀ i, i < N → gA c 9 i = nI (ct i) ∧ ct i < 12
def cot (ct : Nat → Nat) (t n : Nat) : Nat := ((List.range n).filter fun i => decide (ct i = t)).length
theorem cot_s (ct : Nat → Nat) (t n : Nat) : cot ct t (n + 1) = cot ct t n + (if ct n = t then 1 else 0) := by
  unfold cot
  rw [List.range_succ, List.filter_append, List.length_append]
  by_cases h : ct n = t
  · rw [if_pos h, List.filter_cons_of_pos (by simpa using h)]; rfl
  · rw [if_neg h, List.filter_cons_of_neg (by simpa using h)]; rfl
theorem cot_le (ct : Nat → Nat) (t n : Nat) : cot ct t n ≤ n := by
  unfold cot
  exact Nat.le_trans (List.length_filter_le _ _) (by simp)
theorem consOf {c : St} (h : CtC N ct c) {t : Nat} (ht : t < 12) : ∀ (d w i : Nat), i + d = N → d < w → F_X4_constructorsOf_4 w (nI t) (nI (cot ct t i)) (nI i) c = some (nI (cot ct t N), c) := by
  have hN := h.1
  intro d
  induction d with
  | zero =>
    intro w i hi hw
    obtain ⟨w, rfl⟩ : ∃ z, w = z + 1 := ⟨w - 1, by omega⟩
    rw [F_X4_constructorsOf_4, h.2.1, if_pos (nI_le (by omega) (by omega)), show i = N by omega]
  | succ d ih =>
    intro w i hi hw
    obtain ⟨w, rfl⟩ : ∃ z, w = z + 1 := ⟨w - 1, by omega⟩
    obtain ⟨h1, h2⟩ := h.2.2 i (by omega)
    have hc := cot_s ct t i
    rw [F_X4_constructorsOf_4, h.2.1, if_neg (nI_ge (by omega) (by omega)), rd_in _ (by omega) (by omega), h1, bd_r]
    by_cases hz : ct i = t
    · rw [if_pos hz] at hc
      rw [if_pos (by rw [hz]), F_X4_constructorsOf_27, nI_1, nI_1, ← hc]
      exact ih w (i + 1) (by omega) (by omega)
    · rw [if_neg hz] at hc
      have hc' : cot ct t (i + 1) = cot ct t i := hc
      rw [if_neg (fun q => hz (nI_inj (by omega) (by omega) q)), F_X4_constructorsOf_27, nI_1, ← hc']
      exact ih w (i + 1) (by omega) (by omega)
def bN (b : Bool) : Nat := if b = true then 1 else 0
/-- the row of covering counts: those at dep are a, deeper ones none -/
def Cvw (dep a : Nat) (f : Nat → Int32) : Prop := f dep = nI a ∧ ∀ j, dep < j → j < 186 → f j = 0
def CvOK (N : Nat) (ct ar : Nat → Nat) (R : Nat) (ln bs : Nat → Nat) (sy : Nat → Nat → Int32) (en wt uc pc : Nat → Nat → Nat) (d : Nat) : Prop :=
  ∀ (g : List Nat) (op : Nat → List Nat) (K : Nat) (lab : Int32) (dep a : Nat) (X P Q : List Nd) (c : St), GW R ln wt g op K → (∀ r, r ∈ g → rs (en r) (op r) + g.length ≤ d) → X = P ++ (Tr N ar sy en d g op K lab dep ++ Q) → X.length ≤ 559 → mxN X ≤ 184 → a < 1000 → RlC R ln bs sy en uc pc c → CtC N ct c → HoldC bs X c → Cvw dep a (gA c 28) →
    ∃ c', (∀ n, F_X6_coversAll_15 (n + (Tr N ar sy en d g op K lab dep).length) (hI (P.length + (Tr N ar sy en d g op K lab dep).length)) c = F_X6_coversAll_15 n (hI P.length) c') ∧ (∀ j, gF c' j = gF c j) ∧ (∀ j, j ≠ 28 → gA c' j = gA c j) ∧ Cvw dep (a + bN (Cvr N ct ar sy en d g op K)) (gA c' 28) ∧ ∀ j, j < dep → gA c' 28 j = gA c 28 j
theorem cv_run (hB : BsW R ln bs) {d : Nat} (ih : CvOK N ct ar R ln bs sy en wt uc pc d) {dep : Nat} {X : List Nd} (hX : X.length ≤ 559) (hm : mxN X ≤ 184) :
    ∀ (cs : List It) (a : Nat) (P Q : List Nd) (c : St), (∀ i, i ∈ cs → GW R ln wt i.1 i.2.1 i.2.2.1 ∧ ∀ r, r ∈ i.1 → rs (en r) (i.2.1 r) + i.1.length ≤ d) → X = P ++ (cs.flatMap (trI N ar sy en d dep) ++ Q) → a + cs.length < 1000 → RlC R ln bs sy en uc pc c → CtC N ct c → HoldC bs X c → Cvw dep a (gA c 28) →
    ∃ c', (∀ n, F_X6_coversAll_15 (n + (cs.flatMap (trI N ar sy en d dep)).length) (hI (P.length + (cs.flatMap (trI N ar sy en d dep)).length)) c = F_X6_coversAll_15 n (hI P.length) c') ∧ (∀ j, gF c' j = gF c j) ∧ (∀ j, j ≠ 28 → gA c' j = gA c j) ∧ Cvw dep (a + (cs.filter (cvI N ct ar sy en d)).length) (gA c' 28) ∧ ∀ j, j < dep → gA c' 28 j = gA c 28 j := by
  intro cs
  induction cs with
  | nil =>
    intro a P Q c h1 h2 h3 h4 h5 h6 h7
    exact ⟨c, fun n => rfl, fun _ => rfl, fun _ _ => rfl, h7, fun _ _ => rfl⟩
  | cons i cs ihc =>
    intro a P Q c h1 h2 h3 h4 h5 h6 h7
    rw [List.length_cons] at h3
    rw [List.flatMap_cons, List.append_assoc] at h2
    obtain ⟨c1, q1, q2, q3, q4, q5⟩ := ihc a (P ++ trI N ar sy en d dep i) Q c (fun j hj => h1 j (List.mem_cons_of_mem _ hj)) (by rw [h2, List.append_assoc]) (by omega) h4 h5 h6 h7
    obtain ⟨i1, i2⟩ := h1 i List.mem_cons_self
    have hfl := List.length_filter_le (cvI N ct ar sy en d) cs
    obtain ⟨c2, k1, k2, k3, k4, k5⟩ := ih i.1 i.2.1 i.2.2.1 i.2.2.2 dep (a + (cs.filter (cvI N ct ar sy en d)).length) X P (cs.flatMap (trI N ar sy en d dep) ++ Q) c1 i1 i2 h2 hX hm (by omega) (by
      unfold RlC
      rw [q2 8, q3 17 (by omega), q3 18 (by omega), q3 19 (by omega), q3 20 (by omega), q3 21 (by omega)]
      exact h4) (by
      unfold CtC
      rw [q2 2, q3 9 (by omega)]
      exact h5) (h6.kept (q2 9) (fun j j1 j2 => q3 j (by omega))) q4
    refine ⟨c2, fun n => ?_, fun j => by rw [k2, q2], fun j j1 => by rw [k3 j j1, q3 j j1], ?_, fun j j1 => by rw [k5 j j1, q5 j j1]⟩
    · have e1 := q1 (n + (trI N ar sy en d dep i).length)
      have e2 := k1 n
      rw [List.length_append] at e1
      rw [List.flatMap_cons, List.length_append, show n + ((trI N ar sy en d dep i).length + (cs.flatMap (trI N ar sy en d dep)).length) = n + (trI N ar sy en d dep i).length + (cs.flatMap (trI N ar sy en d dep)).length by omega, ← Nat.add_assoc, e1]
      exact e2
    · have : ((i :: cs).filter (cvI N ct ar sy en d)).length = (cs.filter (cvI N ct ar sy en d)).length + bN (cvI N ct ar sy en d i) := by
        unfold bN
        by_cases hz : cvI N ct ar sy en d i = true
        · rw [List.filter_cons_of_pos hz, if_pos hz]; rfl
        · rw [List.filter_cons_of_neg hz, if_neg hz]; rfl
      rw [this, ← Nat.add_assoc]
      exact k4
end
