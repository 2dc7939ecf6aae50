theorem flat_congr {α β : Type} {f g : α → List β} : ∀ l : List α, (∀ x, x ∈ l → f x = g x) → l.flatMap f = l.flatMap g := by
  intro l
  induction l with
  | nil => intro _; rfl
  | cons x l ih =>
    intro h
    rw [List.flatMap_cons, List.flatMap_cons, h x List.mem_cons_self, ih (fun y hy => h y (List.mem_cons_of_mem _ hy))]
theorem flat_one {β : Type} (F : Nat → List β) (c : Nat) : ∀ l : List Nat, l.Nodup → (l.flatMap fun i => if c = i then F i else []) = if c ∈ l then F c else [] := by
  intro l
  induction l with
  | nil => intro _; rfl
  | cons x l ih =>
    intro h
    rw [List.nodup_cons] at h
    rw [List.flatMap_cons, ih h.2]
    by_cases hx : c = x
    · subst hx
      rw [if_pos rfl, if_neg h.1, List.append_nil, if_pos List.mem_cons_self]
    · rw [if_neg hx, List.nil_append]
      by_cases hl : c ∈ l
      · rw [if_pos hl, if_pos (List.mem_cons_of_mem _ hl)]
      · rw [if_neg hl, if_neg (fun z => (List.mem_cons.mp z).elim hx hl)]
section
variable {N n A R : Nat} {ct ar : Nat → Nat} {pk : Nat → Int32} {rw : Nat → Int32} {te : Nat → Nat} {ln bs : Nat → Nat} {sy : Nat → Nat → Int32} {en wt uc pc : Nat → Nat → Nat} {f22 : Nat → Int32} {X : List Nd}
/-- holders and places of the rules' numbers -/
def UcW (R N A : Nat) (ar : Nat → Nat) (ln : Nat → Nat) (sy : Nat → Nat → Int32) (en uc pc : Nat → Nat → Nat) : Prop :=
  ∀ r, r < R → (∀ q, q < ln r → ∀ i, i < N → sy r q = nI i → ∀ k, k < ar i → uc r (ch (en r) (q + 1) k) = q + 1 ∧ pc r (ch (en r) (q + 1) k) = k) ∧ ∀ k, k < A → uc r (ch (en r) 0 k) = 0 ∧ pc r (ch (en r) 0 k) = k
theorem acc_ext {β β1 : Bd} {x : Nat} {lab : Option Nat} (h : acc n rw ar β x lab = some β1) : ∃ δ, β1 = β ++ δ ∧ δ.length ≤ (if lab.isSome = true then 1 else 0) := by
  unfold acc at h
  cases lab with
  | none =>
    cases h
    exact ⟨[], by simp, by simp⟩
  | some i =>
    dsimp only at h
    cases hc : cn n rw ar β x with
    | none =>
      rw [hc] at h
      cases h
      exact ⟨[(x, i)], rfl, by simp⟩
    | some j =>
      rw [hc] at h
      dsimp only at h
      split at h
      · cases h
        exact ⟨[], by simp, by simp⟩
      · cases h
/-- the spots of a child of a branch -/
theorem Pth_kid (hW : ∀ r, r < R → PW N ct ar pk (ln r) (sy r) (en r) (wt r)) (hT : TmW n N A rw te ar) (hN : N ≤ 60) (hU : UcW R N A ar ln sy en uc pc) {f45 f45' : Nat → Int32} {dep : Nat} {g : List Nat} {op : Nat → List Nat} {K : Nat} {ts : List Nat} {β β1 : Bd} (hG : GW R ln wt g op K) (hts : ts.length = K) (hval : ∀ s, s < K → VId n rw ar β (nth ts s)) (h : Pth n A rw te ar ln bs uc pc f22 f45 dep g op K ts β) (hf : ∀ y, y ≤ dep → f45' y = f45 y) {s i : Nat} (hs : s < K) (hi : i < N) (hf22 : ∀ r, r ∈ g → f22 (bs r + nth (op r) s) = nI dep) (h45 : f45' (dep + 1) = nI (nth ts s)) (hacc : acc n rw ar β (nth ts s) (some i) = some β1) (hB1 : BW n N ar β1) :
    (opL ts (kd n rw te ar β1 (nth ts s)) s).length = K + ar i - 1 ∧ (∀ t, t < K + ar i - 1 → VId n rw ar β1 (nth (opL ts (kd n rw te ar β1 (nth ts s)) s) t)) ∧ Pth n A rw te ar ln bs uc pc f22 f45' (dep + 1) (subG sy op s (nI i) g) (opT en op s (ar i)) (K + ar i - 1) (opL ts (kd n rw te ar β1 (nth ts s)) s) β1 := by
  have hv := hval s hs
  -- the asked id has the constructor now, and all else stays
  have hnow : cn n rw ar β1 (nth ts s) = some i ∧ VId n rw ar β1 (nth ts s) ∧ (∀ y, VId n rw ar β y → VId n rw ar β1 y) ∧ (∀ y j, cn n rw ar β y = some j → cn n rw ar β1 y = some j ∧ ∀ k, chT n rw te ar β1 y k = chT n rw te ar β y k) := by
    unfold acc at hacc
    dsimp only at hacc
    cases hc : cn n rw ar β (nth ts s) with
    | none =>
      rw [hc] at hacc
      cases hacc
      obtain ⟨m1, m2⟩ := free_nm hv hc
      exact ⟨new_cn m1 m2, ext_id hv, fun y hy => ext_id hy, fun y j hj => ⟨ext_cn hj, fun k => ext_ch hj⟩⟩
    | some j =>
      rw [hc] at hacc
      dsimp only at hacc
      split at hacc
      · next hji =>
        cases hacc
        rw [hji] at hc
        exact ⟨hc, hv, fun y hy => hy, fun y j hj => ⟨hj, fun k => rfl⟩⟩
      · cases hacc
  obtain ⟨n1, n2, n3, n4⟩ := hnow
  have hkl := kd_len (te := te) n1
  have hlen : (opL ts (kd n rw te ar β1 (nth ts s)) s).length = K + ar i - 1 := by rw [opL_len (by omega), hkl, hts]; omega
  -- where a spot of the child comes from
  have key : ∀ t, t < K + ar i - 1 → (t < s ∧ nth (opL ts (kd n rw te ar β1 (nth ts s)) s) t = nth ts t ∧ ∀ r, r ∈ g → nth (opT en op s (ar i) r) t = nth (op r) t) ∨ (∃ k, k < ar i ∧ t = s + k ∧ nth (opL ts (kd n rw te ar β1 (nth ts s)) s) t = chT n rw te ar β1 (nth ts s) k ∧ ∀ r, r ∈ g → nth (opT en op s (ar i) r) t = ch (en r) (nth (op r) s + 1) k) ∨ (∃ j, s + 1 + j < K ∧ nth (opL ts (kd n rw te ar β1 (nth ts s)) s) t = nth ts (s + 1 + j) ∧ ∀ r, r ∈ g → nth (opT en op s (ar i) r) t = nth (op r) (s + 1 + j)) := by
    intro t ht
    by_cases t1 : t < s
    · refine Or.inl ⟨t1, opL_lo (by omega) t1, fun r hr => ?_⟩
      have hl := (hG.2.2.1 r hr).2.1
      exact opL_lo (by omega) t1
    · by_cases t2 : t < s + ar i
      · refine Or.inr (Or.inl ⟨t - s, by omega, by omega, ?_, fun r hr => ?_⟩)
        · have h5 := opL_mid (l := ts) (c := kd n rw te ar β1 (nth ts s)) (s := s) (i := t - s) (by omega) (by rw [hkl]; omega)
          rw [show s + (t - s) = t by omega, kd_get n1 (by omega)] at h5
          exact h5
        · have hl := (hG.2.2.1 r hr).2.1
          have h5 := opL_mid (l := op r) (c := chl (en r) (nth (op r) s + 1) (ar i)) (s := s) (i := t - s) (by omega) (by rw [chl_len]; omega)
          rw [show s + (t - s) = t by omega, chl_get _ _ (by omega)] at h5
          exact h5
      · refine Or.inr (Or.inr ⟨t - s - ar i, by omega, ?_, fun r hr => ?_⟩)
        · have h5 := opL_hi (l := ts) (c := kd n rw te ar β1 (nth ts s)) (s := s) (i := t - s - ar i) (by omega)
          rw [hkl, show s + ar i + (t - s - ar i) = t by omega] at h5
          exact h5
        · have hl := (hG.2.2.1 r hr).2.1
          have h5 := opL_hi (l := op r) (c := chl (en r) (nth (op r) s + 1) (ar i)) (s := s) (i := t - s - ar i) (by omega)
          rw [chl_len, show s + ar i + (t - s - ar i) = t by omega] at h5
          exact h5
  have old : ∀ r, r ∈ g → ∀ t u, u < K → nth (opT en op s (ar i) r) t = nth (op r) u → nth (opL ts (kd n rw te ar β1 (nth ts s)) s) t = nth ts u → (uc r (nth (opT en op s (ar i) r) t) = 0 ∧ pc r (nth (opT en op s (ar i) r) t) < A ∧ nth (opL ts (kd n rw te ar β1 (nth ts s)) s) t = mtp rw (ch te 0 (pc r (nth (opT en op s (ar i) r) t)))) ∨ ∃ p y dp j, uc r (nth (opT en op s (ar i) r) t) = p + 1 ∧ p < ln r ∧ f22 (bs r + p) = nI dp ∧ dp < dep + 1 ∧ f45' (dp + 1) = nI y ∧ VId n rw ar β1 y ∧ cn n rw ar β1 y = some j ∧ pc r (nth (opT en op s (ar i) r) t) < ar j ∧ nth (opL ts (kd n rw te ar β1 (nth ts s)) s) t = chT n rw te ar β1 y (pc r (nth (opT en op s (ar i) r) t)) := by
    intro r hr t u hu e1 e2
    rw [e1, e2]
    rcases h r hr u hu with q | ⟨p, y, dp, j, q1, q2, q3, q4, q5, q6, q7, q8, q9⟩
    · exact Or.inl q
    · exact Or.inr ⟨p, y, dp, j, q1, q2, q3, by omega, by rw [hf _ (by omega)]; exact q5, n3 y q6, (n4 y j q7).1, q8, by rw [q9, (n4 y j q7).2]⟩
  refine ⟨hlen, fun t ht => ?_, fun r hr t ht => ?_⟩
  · rcases key t ht with ⟨a1, a2, -⟩ | ⟨k, a1, a2, a3, -⟩ | ⟨j, a1, a2, -⟩
    · rw [a2]; exact n3 _ (hval t (by omega))
    · rw [a3]; exact kid_id hT hN hB1 n2 n1 a1
    · rw [a2]; exact n3 _ (hval _ a1)
  · obtain ⟨hrg, hsy⟩ := subG_mem.mp hr
    rcases key t ht with ⟨a1, a2, a3⟩ | ⟨k, a1, a2, a3, a4⟩ | ⟨j, a1, a2, a3⟩
    · exact old r hrg t t (by omega) (a3 r hrg) a2
    · right
      have hq := (hG.2.2.1 r hrg).2.2 s hs
      have hR := (hG.2.2.1 r hrg).1
      obtain ⟨u1, u2⟩ := (hU r hR).1 _ hq i hi hsy k a1
      refine ⟨nth (op r) s, nth ts s, dep, i, ?_, hq, hf22 r hrg, by omega, h45, n2, n1, ?_, ?_⟩
      · rw [a4 r hrg]; exact u1
      · rw [a4 r hrg, u2]; exact a1
      · rw [a3, a4 r hrg, u2]
    · exact old r hrg t (s + 1 + j) a1 (a3 r hrg) a2
/-- one step of the walk -/
theorem reach_step {c : St} (hH : HoldC bs X c) (hX : X.length ≤ 559) (hm : mxN X ≤ 184) {k dep cl : Nat} {x : Nd} (hx : X[k]? = some x) (hd : x.2.2.2.2.2 = dep) (hcl : dep ≤ cl) (hcl2 : cl ≤ 186) (w : Nat) : F_X7_reachesAll_6 (w + 1) (nI cl) (nI k) c = bo (F_X7_comesTo (nI k) (nI dep) c) (fun r5 s6 => ck (gF s6 16 == gF c 16) (if r5 = 0 then (F_X7_reachesAll_53 (F_X7_reachesAll_6 w) (nI k) (nI dep) (nI dep) s6) else (F_X7_reachesAll_53 (F_X7_reachesAll_6 w) (nI k) (nI dep) 186 s6))) := by
  have hk : k < X.length := (List.getElem?_eq_some_iff.mp hx).1
  rw [F_X7_reachesAll_6, hH.1, if_neg (nI_ge (by omega) (by omega)), rd_in _ (by omega) (by omega), (hH.2 k x hx).2.2.2.2, hd, bd_r, if_pos (nI_le hcl (by omega))]
end
