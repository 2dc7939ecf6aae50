/-! the children of a branch wait -/
theorem kids_sorted (sy : Nat → Nat → Int32) (op : Nat → List Nat) (s N : Nat) (g : List Nat) : (kidsC sy op s N g).Pairwise (fun a b => a < b) := by
  unfold kidsC
  exact List.Pairwise.sublist List.filter_sublist List.pairwise_lt_range
theorem kids_mem {sy : Nat → Nat → Int32} {op : Nat → List Nat} {s N : Nat} {g : List Nat} {c : Nat} : c ∈ kidsC sy op s N g ↔ c < N ∧ ∃ r, r ∈ g ∧ sy r (nth (op r) s) = nI c := by
  unfold kidsC
  rw [List.mem_filter, List.mem_range]
  refine and_congr_right fun _ => ?_
  constructor
  · intro h
    have h2 : subG sy op s (nI c) g ≠ [] := by
      intro z
      rw [z] at h
      cases h
    obtain ⟨r, hr⟩ := List.exists_mem_of_ne_nil _ h2
    exact ⟨r, (subG_mem.mp hr).1, (subG_mem.mp hr).2⟩
  · intro h
    obtain ⟨r, h1, h2⟩ := h
    have h3 : r ∈ subG sy op s (nI c) g := subG_mem.mpr ⟨h1, h2⟩
    cases hz : subG sy op s (nI c) g with
    | nil => rw [hz] at h3; cases h3
    | cons x l => rfl
theorem kids_loop {R N : Nat} {g : List Nat} (hG : GS R g) (hN : N ≤ 60) {ln bs : Nat → Nat} {sy : Nat → Nat → Int32} {en uc pc : Nat → Nat → Nat} {op : Nat → List Nat} {s : Nat} {k : Nat → Nat} (hB : BsW R ln bs) (hp : ∀ r, r ∈ g → nth (op r) s < ln r ∧ sy r (nth (op r) s) = nI (k r) ∧ k r < N) {W : Wt} {dep : Nat} (hW : W.length + g.length ≤ 24) :
    ∀ (d t w : Nat) (c : St), t ≤ d → t < w → t ≤ N → (hiL (kidsC sy op s N g) t).length + (g.filter fun r => decide (k r < t)).length ≤ g.length → RlC R ln bs sy en uc pc c → CrC bs g (fun r => nth (op r) s) c → WtC (W ++ (hiL (kidsC sy op s N g) t).reverse.map fun i => (subG sy op s (nI i) g, nI i, dep + 1)) c →
      ∃ c', F_X1_ask_5 w (mk g) (nI dep) (mk (g.filter fun r => decide (k r < t))) (nI (hiL (kidsC sy op s N g) t).length) c = F_X1_ask_56 (mk g) (nI dep) c' ∧ WtC (W ++ (kidsC sy op s N g).reverse.map fun i => (subG sy op s (nI i) g, nI i, dep + 1)) c' ∧ FrW c c' := by
  intro d
  induction d with
  | zero =>
    intro t w c ht hw htN hlen hR hC h
    obtain ⟨w, rfl⟩ : ∃ z, w = z + 1 := ⟨w - 1, by omega⟩
    have ht0 : t = 0 := by omega
    subst ht0
    rw [hiL_0] at h hlen ⊢
    have he : (g.filter fun r => decide (k r < 0)) = [] := by rw [List.filter_eq_nil_iff]; simp
    rw [he, F_X1_ask_5]
    refine ⟨c, ?_, h, FrW.refl c⟩
    by_cases h24 : 24 ≤ (kidsC sy op s N g).length
    · rw [if_pos (show (24 : Int32) ≤ _ from nI_le (a := 24) h24 (by omega))]
    · rw [if_neg (show ¬ (24 : Int32) ≤ _ from nI_ge (b := 24) (by omega) (by omega)), if_pos (by rfl)]
  | succ d ih =>
    intro t w c ht hw htN hlen hR hC h
    obtain ⟨w, rfl⟩ : ∃ z, w = z + 1 := ⟨w - 1, by omega⟩
    obtain ⟨L, hL⟩ : ∃ L, (g.filter fun r => decide (k r < t)) = L := ⟨_, rfl⟩
    have hLm : ∀ r, r ∈ L ↔ r ∈ g ∧ k r < t := by
      intro r
      rw [← hL, List.mem_filter, decide_eq_true_eq]
    have hLs : L.Sublist g := by rw [← hL]; exact List.filter_sublist
    have hGL : GS R L := hG.sub hLs
    rw [hL] at hlen ⊢
    by_cases hL0 : L = []
    · have hk : hiL (kidsC sy op s N g) t = kidsC sy op s N g := by
        unfold hiL
        rw [List.filter_eq_self]
        intro i hi
        obtain ⟨h1, r, h2, h3⟩ := kids_mem.mp hi
        obtain ⟨p1, p2, p3⟩ := hp r h2
        have hik : k r = i := nI_inj (by omega) (by omega) (p2.symm.trans h3)
        refine decide_eq_true ?_
        rcases Nat.lt_or_ge i t with z | z
        · have : r ∈ L := (hLm r).mpr ⟨h2, by omega⟩
          rw [hL0] at this
          cases this
        · exact z
      rw [hk] at h hlen ⊢
      rw [hL0, F_X1_ask_5]
      refine ⟨c, ?_, h, FrW.refl c⟩
      by_cases h24 : 24 ≤ (kidsC sy op s N g).length
      · rw [if_pos (show (24 : Int32) ≤ _ from nI_le (a := 24) h24 (by omega))]
      · rw [if_neg (show ¬ (24 : Int32) ≤ _ from nI_ge (b := 24) (by omega) (by omega)), if_pos (by rfl)]
    · have hLp : 0 < L.length := List.length_pos_iff.mpr hL0
      obtain ⟨r0, m1, m2⟩ := (mx1_mem (k := k)).2 hL0
      have mle := (mx1_mem (k := k) (l := L)).1
      obtain ⟨q, hq⟩ : ∃ q, k r0 = q := ⟨_, rfl⟩
      rw [hq] at m2
      have hqt : q < t := by rw [← hq]; exact ((hLm r0).mp m1).2
      have hmk0 : ¬ mk L = 0 := by
        intro z
        have hb := bt_mk L hGL.lt r0 (by have := hGL.lt r0 m1; omega)
        rw [z, bt_0, decide_eq_true m1] at hb
        cases hb
      have hlast := last_loop hGL (k := k) hB hR (p := fun r => nth (op r) s) (fun r hr => hC r (hLs.subset hr)) (fun r hr => ⟨(hp r (hLs.subset hr)).1, (hp r (hLs.subset hr)).2.1, by have := (hp r (hLs.subset hr)).2.2; omega⟩) R 5000 0 (by omega) (by have := hG.1; omega)
      rw [lo_0, m2, hI_s] at hlast
      have hlast' : F_X1_lastConstructor (mk L) c = some (nI q, c) := hlast
      have hhav := having_loop hGL hB hR (p := fun r => nth (op r) s) (fun r hr => hC r (hLs.subset hr)) (fun r hr => (hp r (hLs.subset hr)).1) (nI q) R 5000 0 (by omega) (by have := hG.1; omega)
      rw [lo_0] at hhav
      have hsub : (L.filter fun r => decide (sy r (nth (op r) s) = nI q)) = subG sy op s (nI q) g := by
        unfold subG
        rw [← hL, List.filter_filter]
        apply List.filter_congr
        intro r hr
        obtain ⟨p1, p2, p3⟩ := hp r hr
        by_cases hz : sy r (nth (op r) s) = nI q
        · have : k r = q := nI_inj (by omega) (by omega) (p2.symm.trans hz)
          rw [decide_eq_true hz, decide_eq_true (show k r < t by omega)]
          rfl
        · rw [decide_eq_false hz]
          rfl
      have hhav' : F_X1_having (mk L) (nI q) c = some (mk (subG sy op s (nI q) g), c) := by
        rw [← hsub]
        exact hhav
      have hsubm : ∀ r, r ∈ subG sy op s (nI q) g ↔ r ∈ g ∧ k r = q := by
        intro r
        rw [subG_mem]
        refine and_congr_right fun hr => ?_
        obtain ⟨p1, p2, p3⟩ := hp r hr
        constructor
        · intro z; exact nI_inj (by omega) (by omega) (p2.symm.trans z)
        · intro z; rw [p2, z]
      have hqN : q < N := by rw [← hq]; exact (hp r0 (hLs.subset m1)).2.2
      have hqk : q ∈ kidsC sy op s N g := kids_mem.mpr ⟨hqN, r0, hLs.subset m1, by rw [(hp r0 (hLs.subset m1)).2.1, hq]⟩
      have hh : hiL (kidsC sy op s N g) q = q :: hiL (kidsC sy op s N g) t := by
        rw [hiL_in (kids_sorted sy op s N g) hqk]
        congr 1
        unfold hiL
        apply List.filter_congr
        intro i hi
        apply decide_eq_decide.mpr
        constructor
        · intro z
          rcases Nat.lt_or_ge i t with y | y
          · obtain ⟨h1, r, h2, h3⟩ := kids_mem.mp hi
            obtain ⟨p1, p2, p3⟩ := hp r h2
            have hik : k r = i := nI_inj (by omega) (by omega) (p2.symm.trans h3)
            have := mle r ((hLm r).mpr ⟨h2, by omega⟩)
            omega
          · exact y
        · intro z; omega
      have hnew : (L.filter fun r => decide (r ∉ subG sy op s (nI q) g)) = g.filter fun r => decide (k r < q) := by
        rw [← hL, List.filter_filter]
        apply List.filter_congr
        intro r hr
        have hm : r ∉ subG sy op s (nI q) g ↔ k r ≠ q := by rw [hsubm]; exact ⟨fun z y => z ⟨hr, y⟩, fun z y => z y.2⟩
        rw [← Bool.decide_and]
        apply decide_eq_decide.mpr
        rw [hm]
        constructor
        · intro z
          have := mle r ((hLm r).mpr ⟨hr, z.2⟩)
          have := z.1
          omega
        · intro z; exact ⟨by omega, by omega⟩
      have hcnt := filt_len (fun r => decide (r ∉ subG sy op s (nI q) g)) L
      have hpos : 0 < (L.filter fun r => !decide (r ∉ subG sy op s (nI q) g)).length := by
        apply List.length_pos_iff.mpr
        intro z
        have : r0 ∈ L.filter fun r => !decide (r ∉ subG sy op s (nI q) g) := List.mem_filter.mpr ⟨m1, by
          rw [decide_eq_false (fun y => y ((hsubm r0).mpr ⟨hLs.subset m1, hq⟩))]; rfl⟩
        rw [z] at this
        cases this
      rw [hnew] at hcnt
      obtain ⟨c1, e1, e2, e3⟩ := await_eq h (by
        rw [List.length_append, List.length_map, List.length_reverse]
        omega) (subG sy op s (nI q) g) (nI q) (dep + 1)
      have hsl : ∀ r, r ∈ subG sy op s (nI q) g → r < 24 := fun r hr => hG.lt r ((hsubm r).mp hr).1
      rw [F_X1_ask_5, if_neg (show ¬ (24 : Int32) ≤ _ from nI_ge (b := 24) (by omega) (by omega)), if_neg hmk0, hlast', bo_s, hhav', bo_s, nI_1, e1, bo_s, mk_sub hGL.lt hsl, hnew, bd_r, nI_1]
      have hlen2 : (hiL (kidsC sy op s N g) t).length + 1 = (hiL (kidsC sy op s N g) q).length := by rw [hh]; rfl
      rw [hlen2]
      obtain ⟨c', r1, r2, r3⟩ := ih q w c1 (by omega) (by omega) (by omega) (by omega) (by
        unfold RlC
        rw [e3.1 8 (by omega), e3.2 17 (by omega), e3.2 18 (by omega), e3.2 19 (by omega), e3.2 20 (by omega), e3.2 21 (by omega)]
        exact hR) (fun r hr => by rw [e3.2 32 (by omega)]; exact hC r hr) (by
        rw [hh, List.reverse_cons, List.map_append, ← List.append_assoc]
        exact e2)
      exact ⟨c', r1, r2, e3.trans r3⟩
theorem askP_eq {R N : Nat} {g : List Nat} (hG : GS R g) (hN : N ≤ 60) {ln bs : Nat → Nat} {sy : Nat → Nat → Int32} {en uc pc : Nat → Nat → Nat} {op : Nat → List Nat} {s : Nat} {k : Nat → Nat} (hB : BsW R ln bs) (hp : ∀ r, r ∈ g → nth (op r) s < ln r ∧ sy r (nth (op r) s) = nI (k r) ∧ k r < N) {W : Wt} {dep : Nat} (hW : W.length + g.length ≤ 24) {c : St} (hR : RlC R ln bs sy en uc pc c) (hC : CrC bs g (fun r => nth (op r) s) c) (h : WtC W c) :
    ∃ c', F_X1_ask (mk g) (nI dep) c = some (0, c') ∧ WtC (W ++ (kidsC sy op s N g).reverse.map fun i => (subG sy op s (nI i) g, nI i, dep + 1)) c' ∧ (∀ j, j ≠ 10 → gF c' j = gF c j) ∧ (∀ j, j < 22 ∨ (22 < j ∧ j < 29) ∨ 31 < j → gA c' j = gA c j) ∧ (∀ r, r ∈ g → gA c' 22 (bs r + nth (op r) s) = nI dep) ∧ ∀ x, (∀ r, r ∈ g → x ≠ bs r + nth (op r) s) → gA c' 22 x = gA c 22 x := by
  have hR24 := hG.1
  have hn0 : hiL (kidsC sy op s N g) N = [] := hiL_all (fun i hi => (kids_mem.mp hi).1)
  have hgN : (g.filter fun r => decide (k r < N)) = g := by
    rw [List.filter_eq_self]
    intro r hr
    exact decide_eq_true (hp r hr).2.2
  obtain ⟨c1, e1, e2, e3⟩ := kids_loop hG hN hB hp (W := W) (dep := dep) hW N N 5000 c (Nat.le_refl _) (by omega) (Nat.le_refl _) (by rw [hn0, hgN]; simp) hR hC (by rw [hn0]; simpa using h)
  rw [hn0, hgN] at e1
  have e1' : F_X1_ask (mk g) (nI dep) c = _ := e1
  obtain ⟨c', r1, r2, r3, r4, r5⟩ := mark_loop hG (p := fun r => nth (op r) s) (dep := dep) hB (fun r hr => (hp r hr).1) R 5000 0 c1 (by omega) (by omega) (by rw [e3.1 8 (by omega)]; exact hR.1) (fun r hr => by rw [e3.2 32 (by omega)]; exact hC r hr)
  have r1' : F_X1_ask_56 (mk g) (nI dep) c1 = some (0, c') := r1
  refine ⟨c', by rw [e1', r1'], e2.kept (r2 10) (fun j j1 j2 => r3 j (by omega)), fun j j1 => by rw [r2, e3.1 j j1], fun j j1 => by rw [r3 j (by omega), e3.2 j (by omega)], fun r hr => r4 r hr (Nat.zero_le _), fun x hx => ?_⟩
  rw [r5 x (fun r hr _ => hx r hr), e3.2 22 (by omega)]
