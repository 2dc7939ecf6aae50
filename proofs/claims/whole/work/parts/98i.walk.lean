/-! the class walks the tree -/
abbrev Wi : Type := List Nat × (Nat → List Nat) × Nat × Option Nat × (Bd → List Nat)
theorem Tr_deep {N : Nat} {ar : Nat → Nat} {sy : Nat → Nat → Int32} {en : Nat → Nat → Nat} : ∀ (d : Nat) (g : List Nat) (op : Nat → List Nat) (K : Nat) (lab : Int32) (dep : Nat) (x : Nd), x ∈ Tr N ar sy en d g op K lab dep → dep ≤ x.2.2.2.2.2 := by
  intro d
  induction d with
  | zero => intro g op K lab dep x hx; cases hx
  | succ d ih =>
    intro g op K lab dep x hx
    rw [Tr] at hx
    cases hp : pos (ndC sy op g) g.length K 0 none with
    | none =>
      rw [hp] at hx
      dsimp only at hx
      split at hx
      · rw [List.mem_singleton] at hx; rw [hx]; exact Nat.le_refl _
      · rcases List.mem_cons.mp hx with k | k
        · rw [k]; exact Nat.le_refl _
        · obtain ⟨r, hr, e⟩ := List.mem_map.mp k
          rw [← e]; exact Nat.le_succ _
    | some y =>
      obtain ⟨b, s⟩ := y
      rw [hp] at hx
      cases b with
      | true =>
        dsimp only at hx
        rcases List.mem_cons.mp hx with k | k
        · rw [k]; exact Nat.le_refl _
        · obtain ⟨i, hi, k2⟩ := List.mem_flatMap.mp k
          have := ih _ _ _ _ _ x k2
          omega
      | false =>
        dsimp only at hx
        rcases List.mem_cons.mp hx with k | k
        · rw [k]; exact Nat.le_refl _
        · obtain ⟨l, hl, k2⟩ := List.mem_flatMap.mp k
          have := ih _ _ _ _ _ x k2
          omega
section
variable {N n A R : Nat} {ct ar : Nat → Nat} {pk : Nat → Int32} {rw : Nat → Int32} {te : Nat → Nat} {ln bs : Nat → Nat} {sy : Nat → Nat → Int32} {en wt uc pc : Nat → Nat → Nat} {f22 : Nat → Int32} {X : List Nd}
def trW (N : Nat) (ar : Nat → Nat) (sy : Nat → Nat → Int32) (en : Nat → Nat → Nat) (d dep : Nat) (i : Wi) : List Nd := Tr N ar sy en d i.1 i.2.1 i.2.2.1 (lbI i.2.2.2.1) dep
def outW (N n : Nat) (ar : Nat → Nat) (rw : Nat → Int32) (te : Nat → Nat) (sy : Nat → Nat → Int32) (en : Nat → Nat → Nat) (d : Nat) (β : Bd) (x as af : Nat) (i : Wi) : List Ot := match acc n rw ar β x i.2.2.2.1 with
  | none => []
  | some β1 => Led N n ar rw te sy en d i.1 i.2.1 i.2.2.1 (i.2.2.2.2 β1) β1 as af
def shO (n : Nat) (rw : Nat → Int32) (ar : Nat → Nat) (o : Ot) : Prop := (Vl n rw ar o.2.2.2).length ≤ 400
def ocO (n : Nat) (rw : Nat → Int32) (ar : Nat → Nat) (o : Ot) : Oc := (o.1, o.2.1, o.2.2.1, nmb n rw ar o.2.2.2 [] (Vl n rw ar o.2.2.2))
/-- rows of the walk, up to an entry -/
def FrE (dep : Nat) (c c' : St) : Prop := ∀ j y, 44 ≤ j → j ≤ 47 → y ≤ dep → gA c' j y = gA c j y
theorem Pth.congr {f45 f45' : Nat → Int32} {dep : Nat} {g : List Nat} {op : Nat → List Nat} {K : Nat} {ts : List Nat} {β : Bd} (h : Pth n A rw te ar ln bs uc pc f22 f45 dep g op K ts β) (hf : ∀ y, y ≤ dep → f45' y = f45 y) : Pth n A rw te ar ln bs uc pc f22 f45' dep g op K ts β := by
  intro r hr s hs
  rcases h r hr s hs with h | ⟨p, y, dp, i, h1, h2, h3, h4, h5, h6⟩
  · exact Or.inl h
  · exact Or.inr ⟨p, y, dp, i, h1, h2, h3, h4, by rw [hf _ (by omega)]; exact h5, h6⟩
/-- what is known when the walk comes to a tree -/
def WkIn (N n A : Nat) (ar : Nat → Nat) (rw : Nat → Int32) (te : Nat → Nat) (R : Nat) (ln bs : Nat → Nat) (sy : Nat → Nat → Int32) (en wt uc pc : Nat → Nat → Nat) (f22 : Nat → Int32) (d dep : Nat) (β : Bd) (x : Nat) (i : Wi) (f45 : Nat → Int32) : Prop :=
  GW R ln wt i.1 i.2.1 i.2.2.1 ∧ (∀ r, r ∈ i.1 → rs (en r) (i.2.1 r) + i.1.length ≤ d ∧ β.length + (if i.2.2.2.1.isSome = true then 1 else 0) + rs (en r) (i.2.1 r) ≤ 160) ∧ Mrk N ar sy en bs f22 d i.1 i.2.1 i.2.2.1 dep ∧ (∀ j, i.2.2.2.1 = some j → j < N ∧ f45 dep = nI x ∧ VId n rw ar β x) ∧ ∀ β1, acc n rw ar β x i.2.2.2.1 = some β1 → (i.2.2.2.2 β1).length = i.2.2.1 ∧ (∀ s, s < i.2.2.1 → VId n rw ar β1 (nth (i.2.2.2.2 β1) s)) ∧ Pth n A rw te ar ln bs uc pc f22 f45 dep i.1 i.2.1 i.2.2.1 (i.2.2.2.2 β1) β1
theorem WkIn.congr {d dep : Nat} {β : Bd} {x : Nat} {i : Wi} {f45 f45' : Nat → Int32} (h : WkIn N n A ar rw te R ln bs sy en wt uc pc f22 d dep β x i f45) (hf : ∀ y, y ≤ dep → f45' y = f45 y) : WkIn N n A ar rw te R ln bs sy en wt uc pc f22 d dep β x i f45' := by
  obtain ⟨h1, h2, h3, h4, h5⟩ := h
  exact ⟨h1, h2, h3, fun j hj => by rw [hf dep (Nat.le_refl _)]; exact h4 j hj, fun β1 hb => ⟨(h5 β1 hb).1, (h5 β1 hb).2.1, (h5 β1 hb).2.2.congr hf⟩⟩
/-- what the walk of some trees gives -/
def WkOut (N n A : Nat) (ar : Nat → Nat) (rw : Nat → Int32) (te : Nat → Nat) (β : Bd) (dep cl k len : Nat) (outs : List Ot) (O : List Oc) (c : St) : Prop :=
  ((∀ o, o ∈ outs → shO n rw ar o) → ∃ c' cl' γ', (∀ w, F_X7_reachesAll_6 (w + len) (nI cl) (nI k) c = F_X7_reachesAll_6 w (nI cl') (nI (k + len)) c') ∧ dep ≤ cl' ∧ cl' ≤ 186 ∧ BW n N ar (β ++ γ') ∧ (β ++ γ').length ≤ 160 ∧ CT n rw te ar (β ++ γ') c' ∧ OutC (O ++ outs.map (ocO n rw ar)) c' ∧ FrK c c' ∧ FrE dep c c') ∧
  ((¬ ∀ o, o ∈ outs → shO n rw ar o) → ∃ c', (∀ w, F_X7_reachesAll_6 (w + len) (nI cl) (nI k) c = some (0, c')) ∧ FrK c c' ∧ FrE dep c c' ∧ (gF c' 16 = 0 ∨ gF c' 16 = nI 9600))
def WalkOK (N n A : Nat) (ar : Nat → Nat) (rw : Nat → Int32) (te : Nat → Nat) (R : Nat) (ln bs : Nat → Nat) (sy : Nat → Nat → Int32) (en wt uc pc : Nat → Nat → Nat) (f22 : Nat → Int32) (X : List Nd) (d : Nat) : Prop :=
  ∀ (i : Wi) (dep : Nat) (β γ : Bd) (as af x cl : Nat) (P Q : List Nd) (O : List Oc) (c : St), X = P ++ (trW N ar sy en d dep i ++ Q) → WkC N n A ar R ln bs sy en uc pc f22 X c → BW n N ar (β ++ γ) → (β ++ γ).length ≤ 160 → CT n rw te ar (β ++ γ) c → Ent dep β as af c → WkIn N n A ar rw te R ln bs sy en wt uc pc f22 d dep β x i (gA c 45) → dep ≤ cl → cl ≤ 186 → OutC O c → O.length + (outW N n ar rw te sy en d β x as af i).length ≤ 24 →
    WkOut N n A ar rw te β dep cl P.length (trW N ar sy en d dep i).length (outW N n ar rw te sy en d β x as af i) O c
theorem walk_run {d : Nat} (ih : WalkOK N n A ar rw te R ln bs sy en wt uc pc f22 X d) {dep : Nat} {β : Bd} {as af x : Nat} :
    ∀ (cs : List Wi) (γ : Bd) (cl : Nat) (P Q : List Nd) (O : List Oc) (c : St), X = P ++ (cs.flatMap (trW N ar sy en d dep) ++ Q) → WkC N n A ar R ln bs sy en uc pc f22 X c → BW n N ar (β ++ γ) → (β ++ γ).length ≤ 160 → CT n rw te ar (β ++ γ) c → Ent dep β as af c → (∀ i, i ∈ cs → WkIn N n A ar rw te R ln bs sy en wt uc pc f22 d dep β x i (gA c 45)) → dep ≤ cl → cl ≤ 186 → OutC O c → O.length + (cs.flatMap (outW N n ar rw te sy en d β x as af)).length ≤ 24 →
    WkOut N n A ar rw te β dep cl P.length (cs.flatMap (trW N ar sy en d dep)).length (cs.flatMap (outW N n ar rw te sy en d β x as af)) O c := by
  intro cs
  induction cs with
  | nil =>
    intro γ cl P Q O c h1 h2 h3 h4 h5 h6 h7 h8 h9 h10 h11
    refine ⟨fun _ => ⟨c, cl, γ, fun w => rfl, h8, h9, h3, h4, h5, by simpa using h10, FrK.refl c, fun _ _ _ _ _ => rfl⟩, fun hn => absurd (fun o ho => by cases ho) hn⟩
  | cons i cs ihc =>
    intro γ cl P Q O c h1 h2 h3 h4 h5 h6 h7 h8 h9 h10 h11
    rw [List.flatMap_cons] at h1 h11 ⊢
    rw [List.append_assoc] at h1
    rw [List.length_append] at h11
    rw [List.flatMap_cons]
    obtain ⟨k1, k2⟩ := ih i dep β γ as af x cl P (cs.flatMap (trW N ar sy en d dep) ++ Q) O c h1 h2 h3 h4 h5 h6 (h7 i List.mem_cons_self) h8 h9 h10 (by omega)
    obtain ⟨T1, hT1⟩ : ∃ T, trW N ar sy en d dep i = T := ⟨_, rfl⟩
    obtain ⟨T2, hT2⟩ : ∃ T, cs.flatMap (trW N ar sy en d dep) = T := ⟨_, rfl⟩
    obtain ⟨o1, ho1⟩ : ∃ o, outW N n ar rw te sy en d β x as af i = o := ⟨_, rfl⟩
    obtain ⟨o2, ho2⟩ : ∃ o, cs.flatMap (outW N n ar rw te sy en d β x as af) = o := ⟨_, rfl⟩
    rw [hT1, ho1] at k1 k2
    rw [hT1, hT2] at h1
    rw [ho1, ho2] at h11
    rw [hT1, hT2, ho1, ho2]
    by_cases hs : ∀ o, o ∈ o1 → shO n rw ar o
    · obtain ⟨c1, cl1, γ1, q1, q2, q3, q4, q5, q6, q7, q8, q9⟩ := k1 hs
      have hPl : (P ++ T1).length = P.length + T1.length := List.length_append
      have hOl : (O ++ o1.map (ocO n rw ar)).length = O.length + o1.length := by simp
      obtain ⟨j1, j2⟩ := ihc γ1 cl1 (P ++ T1) Q (O ++ o1.map (ocO n rw ar)) c1 (by rw [hT2, h1, List.append_assoc]) (h2.kept q8) q4 q5 q6 ⟨by rw [q9 44 dep (by omega) (by omega) (Nat.le_refl _)]; exact h6.1, by rw [q9 46 dep (by omega) (by omega) (Nat.le_refl _)]; exact h6.2.1, by rw [q9 47 dep (by omega) (by omega) (Nat.le_refl _)]; exact h6.2.2⟩ (fun j hj => (h7 j (List.mem_cons_of_mem _ hj)).congr (fun y hy => q9 45 y (by omega) (by omega) hy)) q2 q3 q7 (by rw [hOl, ho2]; omega)
      rw [hT2, ho2, hPl] at j1 j2
      have hcomp : ∀ w, F_X7_reachesAll_6 (w + (T1 ++ T2).length) (nI cl) (nI P.length) c = F_X7_reachesAll_6 (w + T2.length) (nI cl1) (nI (P.length + T1.length)) c1 := by
        intro w
        have := q1 (w + T2.length)
        rw [List.length_append, show w + (T1.length + T2.length) = w + T2.length + T1.length by omega]
        exact this
      refine ⟨fun hall => ?_, fun hn => ?_⟩
      · obtain ⟨c2, cl2, γ2, r1, r2, r3, r4, r5, r6, r7, r8, r9⟩ := j1 (fun o ho => hall o (List.mem_append_right _ ho))
        refine ⟨c2, cl2, γ2, fun w => ?_, r2, r3, r4, r5, r6, ?_, q8.trans r8, fun j y y1 y2 y3 => by rw [r9 j y y1 y2 y3, q9 j y y1 y2 y3]⟩
        · rw [hcomp, r1 w, List.length_append, Nat.add_assoc]
        · rw [List.map_append, ← List.append_assoc]; exact r7
      · obtain ⟨c2, r1, r2, r3, r4⟩ := j2 (fun z => hn (fun o ho => by
          rcases List.mem_append.mp ho with y | y
          · exact hs o y
          · exact z o y))
        exact ⟨c2, fun w => by rw [hcomp, r1 w], q8.trans r2, fun j y y1 y2 y3 => by rw [r3 j y y1 y2 y3, q9 j y y1 y2 y3], r4⟩
    · obtain ⟨c1, q1, q2, q3, q4⟩ := k2 hs
      refine ⟨fun hall => absurd (fun o ho => hall o (List.mem_append_left _ ho)) hs, fun _ => ⟨c1, fun w => ?_, q2, q3, q4⟩⟩
      have := q1 (w + T2.length)
      rw [List.length_append, show w + (T1.length + T2.length) = w + T2.length + T1.length by omega]
      exact this
/-- nodes that are deeper than what is closed are passed -/
theorem skip_loop {c : St} (hH : HoldC bs X c) (hX : X.length ≤ 559) (hm : mxN X ≤ 184) {cl : Nat} : ∀ (S P Q : List Nd), X = P ++ (S ++ Q) → (∀ x, x ∈ S → cl < x.2.2.2.2.2) → ∀ w, F_X7_reachesAll_6 (w + S.length) (nI cl) (nI P.length) c = F_X7_reachesAll_6 w (nI cl) (nI (P.length + S.length)) c := by
  intro S
  induction S with
  | nil => intro P Q _ _ w; rfl
  | cons x S ih =>
    intro P Q hXe hd w
    have hl : X.length = P.length + (S.length + 1) + Q.length := by rw [hXe]; simp; omega
    have hxk : X[P.length]? = some x := by
      rw [hXe, List.getElem?_append_right (Nat.le_refl _), Nat.sub_self]
      rfl
    have hxd := hd x List.mem_cons_self
    have hxm := mxN_le (List.mem_of_getElem? hxk)
    rw [List.length_cons, show w + (S.length + 1) = w + S.length + 1 by omega, F_X7_reachesAll_6, hH.1, if_neg (nI_ge (by omega) (by omega)), rd_in _ (by omega) (by omega), (hH.2 _ x hxk).2.2.2.2, bd_r, if_neg (nI_ge hxd (by omega)), F_X7_reachesAll_132, nI_1]
    have := ih (P ++ [x]) Q (by rw [hXe]; simp) (fun y hy => hd y (List.mem_cons_of_mem _ hy)) w
    rw [List.length_append] at this
    have e : P.length + [x].length = P.length + 1 := rfl
    rw [e] at this
    rw [this]
    congr 2
    omega
end
