/-! the class plants the tree -/
theorem pop_eq {W : Wt} {g : List Nat} {lab : Int32} {dep : Nat} {c : St} (h : WtC (W ++ [(g, lab, dep)]) c) (hW : W.length < 24) {k : Nat} (hk : k < 560) (n : Nat) :
    ∃ c0, F_X1_plant_48 (n + 1) (nI k) c = bo (F_X1_grow (mk g) lab (nI dep) c0) (fun _ s8 => F_X1_plant_48 n (nI (k + 1)) s8) ∧ WtC W c0 ∧ (∀ j, j ≠ 10 → gF c0 j = gF c j) ∧ ∀ j, gA c0 j = gA c j := by
  obtain ⟨h1, h2⟩ := h
  rw [List.length_append] at h1
  have h1' : gF c 10 = nI (W.length + 1) := h1
  obtain ⟨e1, e2, e3⟩ := h2 W.length (g, lab, dep) (by rw [List.getElem?_append_right (Nat.le_refl _), Nat.sub_self]; rfl)
  obtain ⟨c0, hc0⟩ : ∃ c0, sF c 10 (nI W.length) = c0 := ⟨_, rfl⟩
  have g0 : gF c0 10 = nI W.length := by rw [← hc0]; rfl
  have a0 : ∀ j, gA c0 j = gA c j := fun j => by rw [← hc0]; rfl
  refine ⟨c0, ?_, ⟨g0, fun i e he => ?_⟩, fun j j1 => by rw [← hc0, gF_sF, if_neg j1], a0⟩
  · rw [F_X1_plant_48, if_neg (show ¬ (560 : Int32) ≤ nI k from nI_ge (b := 560) hk (by omega)), h1', if_neg (nI_nle (by omega) (by omega)), sub1, bd_r, hc0, g0, rd_in _ hW (by omega), a0, e1, bd_r, rd_in _ hW (by omega), a0, e2, bd_r, rd_in _ hW (by omega), a0, e3, bd_r, nI_1]
  · have hi : i < W.length := (List.getElem?_eq_some_iff.mp he).1
    rw [a0, a0, a0]
    exact h2 i e (by rw [List.getElem?_append_left hi]; exact he)
section
variable {N : Nat} {ct ar : Nat → Nat} {pk : Nat → Int32} {R : Nat} {ln bs : Nat → Nat} {sy : Nat → Nat → Int32} {en wt uc pc : Nat → Nat → Nat}
def PlantOK (N : Nat) (ar : Nat → Nat) (R : Nat) (ln bs : Nat → Nat) (sy : Nat → Nat → Int32) (en wt uc pc : Nat → Nat → Nat) (d : Nat) : Prop :=
  ∀ (g : List Nat) (op : Nat → List Nat) (K : Nat) (lab : Int32) (dep : Nat) (W : Wt) (X : List Nd) (c : St), GS R g → GW R ln wt g op K → (∀ r, r ∈ g → rs (en r) (op r) + g.length ≤ d) → W.length + g.length ≤ 24 → RlC R ln bs sy en uc pc c → GTk R ln bs en (gA c 22) g op → WtC (W ++ [(g, lab, dep)]) c → HoldC bs X c → X.length + (Tr N ar sy en d g op K lab dep).length ≤ 560 → dep + d ≤ 1000 →
    ∃ c', (∀ n, F_X1_plant_48 (n + (Tr N ar sy en d g op K lab dep).length) (nI X.length) c = F_X1_plant_48 n (nI (X.length + (Tr N ar sy en d g op K lab dep).length)) c') ∧ WtC W c' ∧ HoldC bs (X ++ Tr N ar sy en d g op K lab dep) c' ∧ FrP c c' ∧ (∀ x, gA c 22 x ≠ -1 → gA c' 22 x = gA c 22 x) ∧ (∀ x, ¬ Rg ln bs g x → gA c' 22 x = gA c 22 x) ∧ Mrk N ar sy en bs (gA c' 22) d g op K dep
abbrev It : Type := List Nat × (Nat → List Nat) × Nat × Int32
def trI (N : Nat) (ar : Nat → Nat) (sy : Nat → Nat → Int32) (en : Nat → Nat → Nat) (d dep : Nat) (i : It) : List Nd := Tr N ar sy en d i.1 i.2.1 i.2.2.1 i.2.2.2 dep
theorem kids_run (hW : ∀ r, r < R → PW N ct ar pk (ln r) (sy r) (en r) (wt r)) (hN : N ≤ 60) (hB : BsW R ln bs) {d : Nat} (ih : PlantOK N ar R ln bs sy en wt uc pc d) {dep : Nat} (hdep : dep + d ≤ 1000) :
    ∀ (cs : List It) (W : Wt) (X : List Nd) (c : St), (∀ i, i ∈ cs → GS R i.1 ∧ GW R ln wt i.1 i.2.1 i.2.2.1 ∧ (∀ r, r ∈ i.1 → rs (en r) (i.2.1 r) + i.1.length ≤ d) ∧ GTk R ln bs en (gA c 22) i.1 i.2.1) → cs.Pairwise (fun a b => ∀ r, r ∈ a.1 → r ∉ b.1) → W.length + (cs.map fun i => i.1.length).sum ≤ 24 → RlC R ln bs sy en uc pc c → WtC (W ++ cs.reverse.map fun i => (i.1, i.2.2.2, dep)) c → HoldC bs X c → X.length + (cs.flatMap (trI N ar sy en d dep)).length ≤ 560 →
    ∃ c', (∀ n, F_X1_plant_48 (n + (cs.flatMap (trI N ar sy en d dep)).length) (nI X.length) c = F_X1_plant_48 n (nI (X.length + (cs.flatMap (trI N ar sy en d dep)).length)) c') ∧ WtC W c' ∧ HoldC bs (X ++ cs.flatMap (trI N ar sy en d dep)) c' ∧ FrP c c' ∧ (∀ x, gA c 22 x ≠ -1 → gA c' 22 x = gA c 22 x) ∧ (∀ x, (∀ i, i ∈ cs → ¬ Rg ln bs i.1 x) → gA c' 22 x = gA c 22 x) ∧ ∀ i, i ∈ cs → Mrk N ar sy en bs (gA c' 22) d i.1 i.2.1 i.2.2.1 dep := by
  have hen : ∀ (g : List Nat), GS R g → ∀ r, r ∈ g → ∀ q, q < ln r → q < en r q ∧ en r q ≤ ln r := fun g hg r hr q hq => ⟨(hW r (hg.2.2 r hr) q hq).1, (hW r (hg.2.2 r hr) q hq).2.1⟩
  intro cs
  induction cs with
  | nil =>
    intro W X c h1 h2 h3 h4 h5 h6 h7
    refine ⟨c, fun n => rfl, by simpa using h5, by simpa using h6, FrP.refl c, fun _ _ => rfl, fun _ _ => rfl, fun i hi => by cases hi⟩
  | cons i cs ihc =>
    intro W X c h1 h2 h3 h4 h5 h6 h7
    obtain ⟨i1, i2, i3, i4⟩ := h1 i List.mem_cons_self
    have hdis : ∀ j, j ∈ cs → ∀ r, r ∈ i.1 → r ∉ j.1 := fun j hj => List.rel_of_pairwise_cons h2 hj
    rw [List.map_cons, List.sum_cons] at h3
    have hone : ∀ (l : List It), (∀ j, j ∈ l → 0 < j.1.length) → l.length ≤ (l.map fun i => i.1.length).sum := by
      intro l
      induction l with
      | nil => intro _; simp
      | cons x l ihl =>
        intro hx
        have a1 := hx x List.mem_cons_self
        have a2 := ihl (fun j hj => hx j (List.mem_cons_of_mem _ hj))
        rw [List.length_cons, List.map_cons, List.sum_cons]
        omega
    have hcl := hone cs (fun j hj => (h1 j (List.mem_cons_of_mem _ hj)).2.1.1)
    rw [List.flatMap_cons, List.length_append] at h7
    rw [List.reverse_cons, List.map_append, ← List.append_assoc] at h5
    obtain ⟨c1, k1, k2, k3, k4, k5, k6, k7⟩ := ih i.1 i.2.1 i.2.2.1 i.2.2.2 dep (W ++ cs.reverse.map fun i => (i.1, i.2.2.2, dep)) X c i1 i2 i3 (by
      rw [List.length_append, List.length_map, List.length_reverse]
      omega) h4 i4 h5 h6 (by
      have : (trI N ar sy en d dep i).length = (Tr N ar sy en d i.1 i.2.1 i.2.2.1 i.2.2.2 dep).length := rfl
      omega) hdep
    have hoff : ∀ j, j ∈ cs → ∀ x, Rg ln bs j.1 x → ¬ Rg ln bs i.1 x := by
      intro j hj x hx hx2
      obtain ⟨r, r1, r2⟩ := hx
      obtain ⟨r', r3, r4⟩ := hx2
      have : r = r' := hB.disj ((h1 j (List.mem_cons_of_mem _ hj)).1.2.2 r r1) (i1.2.2 r' r3) r2 r4
      subst this
      exact hdis j hj r r3 r1
    have hXl : (X ++ trI N ar sy en d dep i).length = X.length + (trI N ar sy en d dep i).length := List.length_append
    obtain ⟨c', q1, q2, q3, q4, q5, q6, q7⟩ := ihc W (X ++ trI N ar sy en d dep i) c1 (fun j hj => by
      obtain ⟨j1, j2, j3, j4⟩ := h1 j (List.mem_cons_of_mem _ hj)
      exact ⟨j1, j2, j3, j4.congr (hen j.1 j1) (fun x hx => k6 x (hoff j hj x hx))⟩) (List.Pairwise.of_cons h2) (by omega) (k4.rl h4) k2 k3 (by omega)
    refine ⟨c', fun n => ?_, q2, ?_, k4.trans q4, fun x hx => ?_, fun x hx => ?_, fun j hj => ?_⟩
    · have e1 := k1 (n + (cs.flatMap (trI N ar sy en d dep)).length)
      have e2 := q1 n
      rw [hXl] at e2
      have e3 : n + (cs.flatMap (trI N ar sy en d dep)).length + (Tr N ar sy en d i.1 i.2.1 i.2.2.1 i.2.2.2 dep).length = n + ((i :: cs).flatMap (trI N ar sy en d dep)).length := by
        rw [List.flatMap_cons, List.length_append]
        show _ = n + ((Tr N ar sy en d i.1 i.2.1 i.2.2.1 i.2.2.2 dep).length + _)
        omega
      rw [e3] at e1
      rw [e1]
      have e4 : X.length + ((i :: cs).flatMap (trI N ar sy en d dep)).length = X.length + (trI N ar sy en d dep i).length + (cs.flatMap (trI N ar sy en d dep)).length := by
        rw [List.flatMap_cons, List.length_append]
        omega
      rw [e4]
      exact e2
    · rw [List.flatMap_cons, ← List.append_assoc]; exact q3
    · rw [q5 x (by rw [k5 x hx]; exact hx), k5 x hx]
    · rw [q6 x (fun j hj => hx j (List.mem_cons_of_mem _ hj)), k6 x (hx i List.mem_cons_self)]
    · rcases List.mem_cons.mp hj with z | z
      · rw [z]
        exact Mrk.congr hW hN d _ _ _ _ i2 (fun x hx => q6 x (fun j hj hx2 => hoff j hj x hx2 hx)) k7
      · exact q7 j z
theorem sum_len_le : ∀ (l : List (List Nat)), (l.map fun x => x.length).sum = l.flatten.length := by
  intro l
  induction l with
  | nil => rfl
  | cons x l ih => rw [List.map_cons, List.sum_cons, List.flatten_cons, List.length_append, ih]
theorem runs_disj (f : Nat → Bool) {g : List Nat} (hnd : g.Nodup) : (runs f g.length g).Pairwise (fun a b => ∀ r, r ∈ a → r ∉ b) := by
  have hfl := (runs_spec f g.length g (Nat.le_refl _)).1
  have : ∀ (L : List (List Nat)), L.flatten.Nodup → L.Pairwise (fun a b => ∀ r, r ∈ a → r ∉ b) := by
    intro L
    induction L with
    | nil => intro _; exact List.Pairwise.nil
    | cons x L ih =>
      intro h
      rw [List.flatten_cons, List.nodup_append] at h
      obtain ⟨h1, h2, h3⟩ := h
      refine List.Pairwise.cons (fun b hb r hr hr2 => ?_) (ih h2)
      exact h3 r hr r (List.mem_flatten.mpr ⟨b, hb, hr2⟩) rfl
  exact this _ (by rw [hfl]; exact hnd)
theorem sum_one : ∀ l : List Nat, (l.map fun _ => 1).sum = l.length := by
  intro l
  induction l with
  | nil => rfl
  | cons x l ih => rw [List.map_cons, List.sum_cons, ih, List.length_cons, Nat.add_comm]
theorem subs_len {sy : Nat → Nat → Int32} {op : Nat → List Nat} {s N : Nat} (hN : N ≤ 60) (g : List Nat) : ((kidsC sy op s N g).map fun c => (subG sy op s (nI c) g).length).sum ≤ g.length := by
  have h1 : ∀ n, ((kidsC sy op s n g).map fun c => (subG sy op s (nI c) g).length).sum ≤ SU (fun _ => 1) sy op s g n := by
    intro n
    induction n with
    | zero => simp [kidsC]
    | succ n ih =>
      rw [kidsC_succ, List.map_append, List.sum_append, SU]
      have h2 : ((subG sy op s (nI n) g).map fun _ => 1).sum = (subG sy op s (nI n) g).length := sum_one _
      rw [h2]
      split
      · simp
        omega
      · simp
        omega
  have h3 := SU_le (fun _ => 1) sy op s N hN g
  have h4 : (g.map fun _ => 1).sum = g.length := sum_one g
  have := h1 N
  omega
theorem Tr_pos (d : Nat) (g : List Nat) (op : Nat → List Nat) (K : Nat) (lab : Int32) (dep : Nat) : 0 < (Tr N ar sy en (d + 1) g op K lab dep).length := by
  rw [Tr]
  cases pos (ndC sy op g) g.length K 0 none with
  | none =>
    dsimp only
    split <;> simp
  | some x =>
    obtain ⟨b, s⟩ := x
    cases b <;> simp
theorem plant_main (hW : ∀ r, r < R → PW N ct ar pk (ln r) (sy r) (en r) (wt r)) (hN : N ≤ 60) (hB : BsW R ln bs) : ∀ d, PlantOK N ar R ln bs sy en wt uc pc d := by
  intro d
  induction d with
  | zero =>
    intro g op K lab dep W X c hG hGW hrs
    obtain ⟨r, hr⟩ := List.exists_mem_of_length_pos hGW.1
    have := hrs r hr
    have := hGW.1
    omega
  | succ d ih =>
    intro g op K lab dep W X c hG hGW hrs hWl hR hT hWc hX hl hdep
    have hg1 := hGW.1
    have hX560 : X.length < 560 := by
      have := Tr_pos (N := N) (ar := ar) (sy := sy) (en := en) d g op K lab dep
      omega
    have hen : ∀ r, r ∈ g → ∀ q, q < ln r → q < en r q ∧ en r q ≤ ln r := fun r hr q hq => ⟨(hW r (hG.2.2 r hr) q hq).1, (hW r (hG.2.2 r hr) q hq).2.1⟩
    have hen1 : ∀ r, r ∈ g → ∀ q, q < ln r → q < en r q := fun r hr q hq => (hen r hr q hq).1
    have hK : ∀ r, r ∈ g → (op r).length = K ∧ ∀ s, s < K → nth (op r) s < ln r := fun r hr => (hGW.2.2.1 r hr).2
    -- one step, and then the children
    have fin : ∀ (x : Nd) (cs : List It) (c1 : St), Tr N ar sy en (d + 1) g op K lab dep = x :: cs.flatMap (trI N ar sy en d (dep + 1)) → (∀ c0, WtC W c0 → (∀ j, j ≠ 10 → gF c0 j = gF c j) → (∀ j, gA c0 j = gA c j) → ∃ c2, F_X1_grow (mk g) lab (nI dep) c0 = some (0, c2) ∧ WtC (W ++ cs.reverse.map fun i => (i.1, i.2.2.2, dep + 1)) c2 ∧ HoldC bs (X ++ [x]) c2 ∧ FrP c0 c2 ∧ (∀ y, gA c 22 y ≠ -1 → gA c2 22 y = gA c 22 y) ∧ (∀ y, ¬ Rg ln bs g y → gA c2 22 y = gA c 22 y) ∧ (∀ i, i ∈ cs → GS R i.1 ∧ GW R ln wt i.1 i.2.1 i.2.2.1 ∧ (∀ r, r ∈ i.1 → rs (en r) (i.2.1 r) + i.1.length ≤ d) ∧ GTk R ln bs en (gA c2 22) i.1 i.2.1 ∧ ∀ r, r ∈ i.1 → r ∈ g) ∧ (∀ f, (∀ y, gA c2 22 y ≠ -1 → f y = gA c2 22 y) → (∀ i, i ∈ cs → Mrk N ar sy en bs f d i.1 i.2.1 i.2.2.1 (dep + 1)) → Mrk N ar sy en bs f (d + 1) g op K dep)) → cs.Pairwise (fun a b => ∀ r, r ∈ a.1 → r ∉ b.1) → (cs.map fun i => i.1.length).sum ≤ g.length →
        ∃ c', (∀ n, F_X1_plant_48 (n + (Tr N ar sy en (d + 1) g op K lab dep).length) (nI X.length) c = F_X1_plant_48 n (nI (X.length + (Tr N ar sy en (d + 1) g op K lab dep).length)) c') ∧ WtC W c' ∧ HoldC bs (X ++ Tr N ar sy en (d + 1) g op K lab dep) c' ∧ FrP c c' ∧ (∀ x, gA c 22 x ≠ -1 → gA c' 22 x = gA c 22 x) ∧ (∀ x, ¬ Rg ln bs g x → gA c' 22 x = gA c 22 x) ∧ Mrk N ar sy en bs (gA c' 22) (d + 1) g op K dep := by
      intro x cs c1 hTr hgrow hdis hsum
      rw [hTr, List.length_cons] at hl
      obtain ⟨c0, p1, p2, p3, p4⟩ := pop_eq hWc (by omega) (show X.length < 560 by omega) 0
      obtain ⟨c2, g1, g2, g3, g4, g5, g6, g7, g8⟩ := hgrow c0 p2 p3 p4
      have hFr : FrP c c2 := FrP.trans ⟨fun j _ j2 => p3 j j2, fun j _ => p4 j⟩ g4
      have hXl : (X ++ [x]).length = X.length + 1 := by simp
      obtain ⟨c', q1, q2, q3, q4, q5, q6, q7⟩ := kids_run hW hN hB ih (dep := dep + 1) (by omega) cs W (X ++ [x]) c2 (fun i hi => ⟨(g7 i hi).1, (g7 i hi).2.1, (g7 i hi).2.2.1, (g7 i hi).2.2.2.1⟩) hdis (by omega) (hFr.rl hR) g2 g3 (by omega)
      refine ⟨c', fun n => ?_, q2, ?_, hFr.trans q4, fun y hy => ?_, fun y hy => ?_, ?_⟩
      · rw [hTr, List.length_cons]
        obtain ⟨c0', p1', p2', p3', p4'⟩ := pop_eq hWc (by omega) (show X.length < 560 by omega) (n + (cs.flatMap (trI N ar sy en d (dep + 1))).length)
        have hcc : c0' = c0 := by
          refine Prod.ext (funext fun j => ?_) (funext fun j => ?_)
          · by_cases hj : j = 10
            · subst hj
              show gF c0' 10 = gF c0 10
              rw [p2'.1, p2.1]
            · show gF c0' j = gF c0 j
              rw [p3' j hj, p3 j hj]
          · show gA c0' j = gA c0 j
            rw [p4' j, p4 j]
        rw [show n + ((cs.flatMap (trI N ar sy en d (dep + 1))).length + 1) = n + (cs.flatMap (trI N ar sy en d (dep + 1))).length + 1 by omega, p1', hcc, g1, bo_s, ← hXl, q1 n, hXl]
        congr 2
        omega
      · rw [hTr]
        rw [List.append_assoc] at q3
        exact q3
      · rw [q5 y (by rw [g5 y hy]; exact hy), g5 y hy]
      · rw [q6 y (fun i hi hy2 => hy (hy2.sub (g7 i hi).2.2.2.2)), g6 y hy]
      · exact g8 _ q5 q7
    cases hp : pos (ndC sy op g) g.length K 0 none with
    | none =>
      by_cases h1 : g.length = 1
      · refine fin (0, nth g 0, 0, 0, lab, dep) [] c ?_ (fun c0 w0 f0 a0 => ?_) List.Pairwise.nil (by simp)
        · rw [Tr, hp]; dsimp only; rw [if_pos h1]; rfl
        · have hR0 : RlC R ln bs sy en uc pc c0 := FrP.rl ⟨fun j _ j2 => f0 j j2, fun j _ => a0 j⟩ hR
          obtain ⟨c2, e1, e2, e3, e4, e5⟩ := grow_leaf (lab := lab) (dep := dep) hG hg1 hB hen1 hK hR0 (by rw [a0]; exact hT) w0 (hX.kept (f0 9 (by omega)) (fun j _ _ => a0 j)) (by omega) hp h1
          refine ⟨c2, e1, by simpa using e2, e3, e4, fun y _ => by rw [e5, a0], fun y _ => by rw [e5, a0], fun i hi => (by cases hi), fun f _ _ => ?_⟩
          rw [Mrk, hp]
          trivial
      · have hz := (pos_none K 0 none hp).2
        refine fin (2, 0, 0, g.length, lab, dep) (g.map fun r => ([r], op, K, -1)) c ?_ (fun c0 w0 f0 a0 => ?_) ?_ ?_
        · rw [Tr, hp]
          dsimp only
          rw [if_neg h1, List.flatMap_map]
          congr 1
          have : ∀ l : List Nat, (∀ r, r ∈ l → r ∈ g) → (l.map fun r => ((0, r, 0, 0, -1, dep + 1) : Nd)) = l.flatMap fun r => trI N ar sy en d (dep + 1) ([r], op, K, -1) := by
            intro l
            induction l with
            | nil => intro _; rfl
            | cons r l ihl =>
              intro hlm
              rw [List.map_cons, List.flatMap_cons, ihl (fun r' h' => hlm r' (List.mem_cons_of_mem _ h'))]
              have hrg := hlm r List.mem_cons_self
              have hrd := hrs r hrg
              obtain ⟨d', rfl⟩ : ∃ d', d = d' + 1 := ⟨d - 1, by omega⟩
              have hpr : pos (ndC sy op [r]) 1 K 0 none = none := by
                refine pos_nil (by omega) K 0 (fun z h2 h3 => ?_)
                have h4 := hz z h2 h3
                unfold ndC at h4 ⊢
                have h5 : ∀ r', r' ∈ g → ¬ decide (0 ≤ sy r' (nth (op r') z)) = true := List.filter_eq_nil_iff.mp (List.eq_nil_of_length_eq_zero h4)
                rw [List.filter_cons_of_neg (p := fun r => decide (0 ≤ sy r (nth (op r) z))) (h5 r hrg)]
                rfl
              have : trI N ar sy en (d' + 1) (dep + 1) ([r], op, K, -1) = [(0, r, 0, 0, -1, dep + 1)] := by
                show Tr N ar sy en (d' + 1) [r] op K (-1) (dep + 1) = _
                rw [Tr, show [r].length = 1 from rfl, hpr]
                rfl
              rw [this]
              rfl
          exact this g (fun r hr => hr)
        · have hR0 : RlC R ln bs sy en uc pc c0 := FrP.rl ⟨fun j _ j2 => f0 j j2, fun j _ => a0 j⟩ hR
          obtain ⟨c2, e1, e2, e3, e4, e5⟩ := grow_each (lab := lab) (dep := dep) hG hg1 hB hen1 hK hR0 (by rw [a0]; exact hT) w0 (hX.kept (f0 9 (by omega)) (fun j _ _ => a0 j)) (by omega) hWl hp h1
          refine ⟨c2, e1, ?_, e3, e4, fun y _ => by rw [e5, a0], fun y _ => by rw [e5, a0], fun i hi => ?_, fun f _ _ => ?_⟩
          · rw [← List.map_reverse, List.map_map]
            exact e2
          · obtain ⟨r, hr, rfl⟩ := List.mem_map.mp hi
            have hsl : [r].Sublist g := List.singleton_sublist.mpr hr
            refine ⟨hG.sub hsl, hGW.run hsl (by simp), fun r' hr' => ?_, ?_, fun r' hr' => ?_⟩
            · rw [List.mem_singleton.mp hr']
              have := hrs r hr
              show rs (en r) (op r) + 1 ≤ d
              omega
            · rw [e5, a0]
              exact hT.sub (fun r' hr' => by rw [List.mem_singleton.mp hr']; exact hr)
            · rw [List.mem_singleton.mp hr']; exact hr
          · rw [Mrk, hp]
            trivial
        · rw [List.pairwise_map]
          refine hG.2.1.imp (fun {a b} hab r hr hr2 => ?_)
          rw [List.mem_singleton] at hr hr2
          omega
        · rw [List.map_map]
          have : ((fun i : It => i.1.length) ∘ fun r : Nat => (([r], op, K, -1) : It)) = fun _ => 1 := rfl
          rw [this, sum_one]
          exact Nat.le_refl _
    | some x =>
      obtain ⟨b, s⟩ := x
      obtain ⟨hs, hbt, hbf⟩ := pos_some K 0 none b s hp (fun y hy => by cases hy)
      rw [Nat.zero_add] at hs
      cases b with
      | true =>
        have hall := hbt rfl
        have hneed : ∀ r, r ∈ g → ∃ i, i < N ∧ sy r (nth (op r) s) = nI i ∧ en r (nth (op r) s) = ch (en r) (nth (op r) s + 1) (ar i) ∧ ∀ k, k < ar i → ch (en r) (nth (op r) s + 1) k < ln r := by
          intro r hr
          have h3 : 0 ≤ sy r (nth (op r) s) := by
            have h4 : ngM sy op g s = g := List.Sublist.eq_of_length List.filter_sublist hall
            have h5 : r ∈ ngM sy op g s := by rw [h4]; exact hr
            exact of_decide_eq_true (List.mem_filter.mp h5).2
          obtain ⟨-, -, h6⟩ := hW r (hG.2.2 r hr) _ ((hK r hr).2 s hs)
          rcases h6 with h6 | ⟨i, a1, a2, a3, a4, a5⟩
          · rw [h6] at h3
            exact absurd h3 (by decide)
          · exact ⟨i, a1, a2, a4, fun k hk => (a5 k hk).1⟩
        have hkf : ∀ r, r ∈ g → nth (op r) s < ln r ∧ sy r (nth (op r) s) = nI (sy r (nth (op r) s)).toNatClampNeg ∧ (sy r (nth (op r) s)).toNatClampNeg < N := by
          intro r hr
          obtain ⟨i, a1, a2, -⟩ := hneed r hr
          rw [a2, nI_clamp (by omega)]
          exact ⟨(hK r hr).2 s hs, rfl, a1⟩
        refine fin (1, nth g 0, nth (op (nth g 0)) s, (kidsC sy op s N g).length, lab, dep) ((kidsC sy op s N g).map fun i => (subG sy op s (nI i) g, opT en op s (ar i), K + ar i - 1, nI i)) c ?_ (fun c0 w0 f0 a0 => ?_) ?_ ?_
        · rw [Tr, hp]
          dsimp only
          rw [List.flatMap_map]
          rfl
        · have hR0 : RlC R ln bs sy en uc pc c0 := FrP.rl ⟨fun j _ j2 => f0 j j2, fun j _ => a0 j⟩ hR
          obtain ⟨c2, e1, e2, e3, e4, e5, e6⟩ := grow_ask (lab := lab) (dep := dep) hN hG hg1 hB hen1 hK hR0 (by rw [a0]; exact hT) w0 (hX.kept (f0 9 (by omega)) (fun j _ _ => a0 j)) (by omega) hWl hp (k := fun r => (sy r (nth (op r) s)).toNatClampNeg) hkf
          rw [a0] at e6
          have hun : ∀ r, r ∈ g → gA c 22 (bs r + nth (op r) s) = -1 := by
            intro r hr
            obtain ⟨sh, hT'⟩ := hT
            obtain ⟨T, ⟨-, t2, t3⟩, -⟩ := hT' r hr
            obtain ⟨k1, k2⟩ := hK r hr
            have hm : nth (op r) s ∈ op r := gD_mem (by omega)
            have := t3 _ hm _ (Nat.le_refl _) (hen1 r hr _ (k2 s hs))
            unfold asked at this
            exact Classical.not_not.mp (of_decide_eq_false this)
          refine ⟨c2, e1, ?_, e3, e4, fun y hy => ?_, fun y hy => ?_, fun i hi => ?_, fun f hf hm => ?_⟩
          · rw [← List.map_reverse, List.map_map]
            exact e2
          · exact e6 y (fun r hr z => hy (by rw [z]; exact hun r hr))
          · refine e6 y (fun r hr z => hy ⟨r, hr, ?_⟩)
            have := (hK r hr).2 s hs
            omega
          · obtain ⟨i0, hi0, rfl⟩ := List.mem_map.mp hi
            have hsub : (subG sy op s (nI i0) g).Sublist g := List.filter_sublist
            have hiN := (kids_mem.mp hi0).1
            refine ⟨hG.sub hsub, hGW.sub hW hN hs hiN (subG_pos hi0), fun r hr => ?_, ?_, fun r hr => hsub.subset hr⟩
            · have hrg := hsub.subset hr
              have hra := hrs r hrg
              have hlen := hsub.length_le
              have := rs_take (hW r (hG.2.2 r hrg)) (l := op r) (s := s) (c := i0) (by rw [(hK r hrg).1]; exact hs) ((hK r hrg).2 s hs) (subG_mem.mp hr).2 (by omega) hN
              show rs (en r) (opL (op r) (chl (en r) (nth (op r) s + 1) (ar i0)) s) + (subG sy op s (nI i0) g).length ≤ d
              omega
            · refine GTk.take hB hG.2.2 hT hen hK hs (fun r hr => ?_) (fun r hr => ?_) e6
              · have hrg := hsub.subset hr
                obtain ⟨i, b1, b2, b3, b4⟩ := hneed r hrg
                have : i = i0 := nI_inj (by omega) (by omega) (b2.symm.trans (subG_mem.mp hr).2)
                subst this
                exact ⟨hrg, b3, b4⟩
              · rw [e5 r hr]; exact nI_ne_m1 (by omega)
          · rw [Mrk, hp]
            dsimp only
            refine ⟨fun r hr => ?_, fun i hi => ?_⟩
            · rw [hf _ (by rw [e5 r hr]; exact nI_ne_m1 (by omega)), e5 r hr]
            · exact hm (subG sy op s (nI i) g, opT en op s (ar i), K + ar i - 1, nI i) (List.mem_map.mpr ⟨i, hi, rfl⟩)
        · rw [List.pairwise_map]
          have hk2 : ∀ i, i ∈ kidsC sy op s N g → i < N := fun i hi => (kids_mem.mp hi).1
          refine List.Pairwise.imp_of_mem (fun {a b} ha hb hab r hr hr2 => ?_) (kids_sorted sy op s N g)
          have h8 := (subG_mem.mp hr).2
          rw [(subG_mem.mp hr2).2] at h8
          have := hk2 a ha
          have := hk2 b hb
          have := nI_inj (by omega) (by omega) h8
          omega
        · rw [List.map_map]
          exact subs_len hN g
      | false =>
        obtain ⟨hb1, hb2⟩ := hbf rfl
        have hrsp := runs_spec (ndB sy op s) g.length g (Nat.le_refl _)
        refine fin (2, 0, 0, (runs (ndB sy op s) g.length g).length, lab, dep) ((runs (ndB sy op s) g.length g).map fun l => (l, op, K, -1)) c ?_ (fun c0 w0 f0 a0 => ?_) ?_ ?_
        · rw [Tr, hp]
          dsimp only
          rw [List.flatMap_map]
          rfl
        · have hR0 : RlC R ln bs sy en uc pc c0 := FrP.rl ⟨fun j _ j2 => f0 j j2, fun j _ => a0 j⟩ hR
          obtain ⟨c2, e1, e2, e3, e4, e5⟩ := grow_need (lab := lab) (dep := dep) hG hg1 hB hen1 hK hR0 (by rw [a0]; exact hT) w0 (hX.kept (f0 9 (by omega)) (fun j _ _ => a0 j)) (by omega) hWl hp
          refine ⟨c2, e1, ?_, e3, e4, fun y _ => by rw [e5, a0], fun y _ => by rw [e5, a0], fun i hi => ?_, fun f _ hm => ?_⟩
          · rw [← List.map_reverse, List.map_map]
            exact e2
          · obtain ⟨l, hl', rfl⟩ := List.mem_map.mp hi
            obtain ⟨l1, l2, v, l3⟩ := hrsp.2 l hl'
            refine ⟨hG.sub l2, hGW.run l2 l1, fun r hr => ?_, ?_, fun r hr => l2.subset hr⟩
            · have := hrs r (l2.subset hr)
              have := run_short hb1 hb2 l2 l3
              show rs (en r) (op r) + l.length ≤ d
              omega
            · rw [e5, a0]
              exact hT.sub (fun r hr => l2.subset hr)
          · rw [Mrk, hp]
            dsimp only
            intro l hl'
            exact hm (l, op, K, -1) (List.mem_map.mpr ⟨l, hl', rfl⟩)
        · rw [List.pairwise_map]
          exact runs_disj _ hGW.2.1
        · rw [List.map_map]
          have : ((fun i : It => i.1.length) ∘ fun l : List Nat => ((l, op, K, -1) : It)) = fun l => l.length := rfl
          rw [this, sum_len_le, hrsp.1]
          exact Nat.le_refl _
end
