/-! what the nodes say -/
def NdW (R : Nat) (ln : Nat → Nat) (x : Nd) : Prop := (x.1 = 0 ∧ x.2.1 < R) ∨ (x.1 = 1 ∧ x.2.1 < R ∧ x.2.2.1 < ln x.2.1) ∨ x.1 = 2
theorem Tr_nodes {N : Nat} {ct ar : Nat → Nat} {pk : Nat → Int32} {R : Nat} {ln : Nat → Nat} {sy : Nat → Nat → Int32} {en wt : Nat → Nat → Nat} (hW : ∀ r, r < R → PW N ct ar pk (ln r) (sy r) (en r) (wt r)) (hN : N ≤ 60) : ∀ (d : Nat) (g : List Nat) (op : Nat → List Nat) (K : Nat) (lab : Int32) (dep : Nat), GW R ln wt g op K → ∀ x, x ∈ Tr N ar sy en d g op K lab dep → NdW R ln x := by
  intro d
  induction d with
  | zero => intro g op K lab dep _ x hx; cases hx
  | succ d ih =>
    intro g op K lab dep hG x hx
    have hm0 : nth g 0 ∈ g := gD_mem hG.1
    have h0R := (hG.2.2.1 _ hm0).1
    rw [Tr] at hx
    cases hp : pos (ndC sy op g) g.length K 0 none with
    | none =>
      rw [hp] at hx
      dsimp only at hx
      split at hx
      · rw [List.mem_singleton] at hx
        rw [hx]
        exact Or.inl ⟨rfl, h0R⟩
      · rcases List.mem_cons.mp hx with k | k
        · rw [k]; exact Or.inr (Or.inr rfl)
        · obtain ⟨r, hr, e⟩ := List.mem_map.mp k
          rw [← e]
          exact Or.inl ⟨rfl, (hG.2.2.1 r hr).1⟩
    | some y =>
      obtain ⟨b, s⟩ := y
      obtain ⟨hs, -, -⟩ := pos_some K 0 none b s hp (fun y hy => by cases hy)
      rw [Nat.zero_add] at hs
      rw [hp] at hx
      cases b with
      | true =>
        dsimp only at hx
        rcases List.mem_cons.mp hx with k | k
        · rw [k]; exact Or.inr (Or.inl ⟨rfl, h0R, (hG.2.2.1 _ hm0).2.2 s hs⟩)
        · obtain ⟨i, hi, k2⟩ := List.mem_flatMap.mp k
          exact ih _ _ _ _ _ (hG.sub hW hN hs (kids_mem.mp hi).1 (subG_pos hi)) x k2
      | false =>
        dsimp only at hx
        rcases List.mem_cons.mp hx with k | k
        · rw [k]; exact Or.inr (Or.inr rfl)
        · obtain ⟨l, hl, k2⟩ := List.mem_flatMap.mp k
          obtain ⟨l1, l2, -⟩ := (runs_spec (ndB sy op s) g.length g (Nat.le_refl _)).2 l hl
          exact ih _ _ _ _ _ (hG.run l2 l1) x k2
theorem TT_nodes {N : Nat} {ct ar : Nat → Nat} {pk : Nat → Int32} {R A : Nat} {fp : Int32} {ln : Nat → Nat} {sy : Nat → Nat → Int32} {en wt : Nat → Nat → Nat} (hW : ∀ r, r < R → PW N ct ar pk (ln r) (sy r) (en r) (wt r)) (hN : N ≤ 60) (hT : TopW R A fp ln en wt) : ∀ x, x ∈ TT R A N ar sy en → NdW R ln x := by
  intro x hx
  unfold TT at hx
  split at hx
  · cases hx
  · next h0 => exact Tr_nodes hW hN 300 _ _ _ _ _ (top_GW hT (by omega)) x hx
theorem cnt_take {k : Nat} {X : List Nd} {i : Nat} {x : Nd} (h : X[i]? = some x) : X.take (i + 1) = X.take i ++ [x] := by
  obtain ⟨hi, e⟩ := List.getElem?_eq_some_iff.mp h
  rw [List.take_succ_eq_append_getElem hi, e]
theorem many_loop {bs : Nat → Nat} {X : List Nd} {c : St} (h : HoldC bs X c) (hX : X.length ≤ 560) (hk : ∀ x, x ∈ X → x.1 ≤ 2) {k : Nat} (hk2 : k ≤ 2) :
    ∀ (d w i : Nat), i + d = X.length → d < w → F_X6_howMany_4 w (nI k) (nI (cntN k (X.take i))) (nI i) c = some (nI (cntN k X), c) := by
  intro d
  induction d with
  | zero =>
    intro w i hi hw
    obtain ⟨w, rfl⟩ : ∃ z, w = z + 1 := ⟨w - 1, by omega⟩
    rw [F_X6_howMany_4, h.1, if_pos (nI_le (by omega) (by omega)), show i = X.length by omega, List.take_length]
  | succ d ih =>
    intro w i hi hw
    obtain ⟨w, rfl⟩ : ∃ z, w = z + 1 := ⟨w - 1, by omega⟩
    obtain ⟨x, hx⟩ : ∃ x, X[i]? = some x := ⟨_, List.getElem?_eq_getElem (by omega)⟩
    have hxk := hk x (List.mem_of_getElem? hx)
    have htk := cnt_take (k := k) hx
    rw [F_X6_howMany_4, h.1, if_neg (nI_ge (by omega) (by omega)), rd_in _ (by omega) (by omega), (h.2 i x hx).1, bd_r]
    have hc : cntN k (X.take (i + 1)) = cntN k (X.take i) + (if x.1 = k then 1 else 0) := by
      rw [htk, cntN_app]
      congr 1
      unfold cntN
      by_cases hz : x.1 = k
      · rw [if_pos hz, List.filter_cons_of_pos (by simpa using hz)]; rfl
      · rw [if_neg hz, List.filter_cons_of_neg (by simpa using hz)]; rfl
    by_cases hz : x.1 = k
    · rw [if_pos hz] at hc
      rw [if_pos (by rw [hz]), F_X6_howMany_27, nI_1, nI_1, ← hc]
      exact ih w (i + 1) (by omega) (by omega)
    · rw [if_neg hz] at hc
      have hc' : cntN k (X.take (i + 1)) = cntN k (X.take i) := hc
      rw [if_neg (fun q => hz (nI_inj (by omega) (by omega) q)), F_X6_howMany_27, nI_1, ← hc']
      exact ih w (i + 1) (by omega) (by omega)
theorem mxN_le {X : List Nd} {x : Nd} (h : x ∈ X) : x.2.2.2.2.2 ≤ mxN X := by
  induction X with
  | nil => cases h
  | cons y X ih =>
    show _ ≤ max y.2.2.2.2.2 (mxN X)
    rcases List.mem_cons.mp h with k | k
    · rw [k]; omega
    · have := ih k; omega
theorem deep_loop {bs : Nat → Nat} {X : List Nd} {c : St} (h : HoldC bs X c) (hX : X.length ≤ 560) (hm : mxN X ≤ 1000) :
    ∀ (d w i : Nat), i + d = X.length → d < w → F_X6_deepest_4 w (nI (mxN (X.take i))) (nI i) c = some (nI (mxN X), c) := by
  intro d
  induction d with
  | zero =>
    intro w i hi hw
    obtain ⟨w, rfl⟩ : ∃ z, w = z + 1 := ⟨w - 1, by omega⟩
    rw [F_X6_deepest_4, h.1, if_pos (nI_le (by omega) (by omega)), show i = X.length by omega, List.take_length]
  | succ d ih =>
    intro w i hi hw
    obtain ⟨w, rfl⟩ : ∃ z, w = z + 1 := ⟨w - 1, by omega⟩
    obtain ⟨x, hx⟩ : ∃ x, X[i]? = some x := ⟨_, List.getElem?_eq_getElem (by omega)⟩
    have htk := cnt_take (k := 0) hx
    have hxm := mxN_le (List.mem_of_getElem? hx)
    have hpm : mxN (X.take i) ≤ mxN X := by
      conv => rhs; rw [← List.take_append_drop i X]
      rw [mxN_app]
      omega
    have hc : mxN (X.take (i + 1)) = max (mxN (X.take i)) x.2.2.2.2.2 := by
      rw [htk, mxN_app]
      show max _ (max x.2.2.2.2.2 0) = _
      omega
    rw [F_X6_deepest_4, h.1, if_neg (nI_ge (by omega) (by omega)), rd_in _ (by omega) (by omega), (h.2 i x hx).2.2.2.2, bd_r, mx_step (by omega) (by omega), bd_r, nI_1, ← hc]
    exact ih w (i + 1) (by omega) (by omega)
/-! positions: how many places lead to a number, and the i-th of them -/
def dpf (uc : Nat → Nat) : Nat → Nat → Nat
  | 0, _ => 0
  | f + 1, h => if h = 0 then 0 else 1 + dpf uc f (uc (h - 1))
def wy (uc : Nat → Nat) : Nat → Nat → Nat
  | 0, h => h
  | t + 1, h => wy uc t (uc (h - 1))
theorem dpf_le (uc : Nat → Nat) : ∀ f h, dpf uc f h ≤ f := by
  intro f
  induction f with
  | zero => intro h; exact Nat.le_refl _
  | succ f ih =>
    intro h
    rw [dpf]
    split
    · omega
    · have := ih (uc (h - 1)); omega
section
variable {R : Nat} {ln bs : Nat → Nat} {sy : Nat → Nat → Int32} {en uc pc : Nat → Nat → Nat} {c m : St} {r : Nat}
theorem upI_s (b q : Nat) : upI b (q + 1) = nI (b + q) := rfl
theorem placesC (hB : BsW R ln bs) (hR : RlC R ln bs sy en uc pc c) (hr : r < R) (huc : ∀ q, q < ln r → uc r q ≤ q) :
    ∀ (f h w a x : Nat), h ≤ f → h ≤ ln r → x + h ≤ 160 → h < w → F_X3_placesTo_7 w (nI a) (upI (bs r) h) (nI x) c = some (nI (a + dpf (uc r) f h), c) := by
  have hb := hB.2.2.2
  intro f
  induction f with
  | zero =>
    intro h w a x hf hl hx hw
    obtain ⟨w, rfl⟩ : ∃ z, w = z + 1 := ⟨w - 1, by omega⟩
    have : h = 0 := by omega
    subst this
    rw [F_X3_placesTo_7]
    by_cases h160 : 160 ≤ x
    · rw [if_pos (show (160 : Int32) ≤ nI x from nI_le (a := 160) h160 (by omega))]; rfl
    · rw [if_neg (show ¬ (160 : Int32) ≤ nI x from nI_ge (b := 160) (by omega) (by omega)), if_pos (by rfl)]; rfl
  | succ f ih =>
    intro h w a x hf hl hx hw
    obtain ⟨w, rfl⟩ : ∃ z, w = z + 1 := ⟨w - 1, by omega⟩
    rw [F_X3_placesTo_7, dpf]
    by_cases h0 : h = 0
    · subst h0
      rw [if_pos rfl]
      by_cases h160 : 160 ≤ x
      · rw [if_pos (show (160 : Int32) ≤ nI x from nI_le (a := 160) h160 (by omega))]; rfl
      · rw [if_neg (show ¬ (160 : Int32) ≤ nI x from nI_ge (b := 160) (by omega) (by omega)), if_pos (by rfl)]; rfl
    · obtain ⟨q, rfl⟩ : ∃ q, h = q + 1 := ⟨h - 1, by omega⟩
      have hlt := hB.lt hr (show q < ln r by omega)
      have hu := huc q (by omega)
      rw [if_neg h0, if_neg (show ¬ (160 : Int32) ≤ nI x from nI_ge (b := 160) (by omega) (by omega)), upI_s, if_neg (nI_ne_m1 (by omega)), rd_in _ (by omega) (by omega), (hR.2.2 r hr q (by omega)).2.1, bd_r, nI_1, nI_1, ih (uc r q) w (a + 1) (x + 1) (by omega) (by omega) (by omega) (by omega)]
      congr 2
      show nI (a + 1 + dpf (uc r) f (uc r q)) = nI (a + (1 + dpf (uc r) f (uc r q)))
      congr 1
      omega
theorem wayC (hB : BsW R ln bs) (hR : RlC R ln bs sy en uc pc c) (hr : r < R) (huc : ∀ q, q < ln r → uc r q ≤ q) :
    ∀ (t h w i : Nat), h ≤ ln r → t + i < dpf (uc r) 300 h + 0 → t < w → (∀ f, h ≤ f → f ≤ 300 → dpf (uc r) f h = dpf (uc r) 300 h) → F_X3_placeOnWay_11 w (nI i) (upI (bs r) h) (nI (t + i)) c = some (nI (pc r (wy (uc r) t h - 1)), c) ∧ wy (uc r) t h ≠ 0 ∧ wy (uc r) t h ≤ ln r := by
  have hb := hB.2.2.2
  intro t
  induction t with
  | zero =>
    intro h w i hl hd hw hs
    obtain ⟨w, rfl⟩ : ∃ z, w = z + 1 := ⟨w - 1, by omega⟩
    have h0 : h ≠ 0 := by
      intro z
      subst z
      rw [dpf, if_pos rfl] at hd
      omega
    obtain ⟨q, rfl⟩ : ∃ q, h = q + 1 := ⟨h - 1, by omega⟩
    have hlt := hB.lt hr (show q < ln r by omega)
    have hdl := dpf_le (uc r) 300 (q + 1)
    refine ⟨?_, h0, hl⟩
    rw [F_X3_placeOnWay_11, if_pos (nI_le (by omega) (by omega)), F_X3_placeOnWay_32, upI_s, rd_in _ (by omega) (by omega), (hR.2.2 r hr q (by omega)).2.2.1, bd_r]
    rfl
  | succ t ih =>
    intro h w i hl hd hw hs
    obtain ⟨w, rfl⟩ : ∃ z, w = z + 1 := ⟨w - 1, by omega⟩
    have hln := (hB.2.2.1 r hr).2
    have h0 : h ≠ 0 := by
      intro z
      subst z
      rw [dpf, if_pos rfl] at hd
      omega
    obtain ⟨q, rfl⟩ : ∃ q, h = q + 1 := ⟨h - 1, by omega⟩
    have hlt := hB.lt hr (show q < ln r by omega)
    have hu := huc q (by omega)
    have hdl := dpf_le (uc r) 300 (q + 1)
    have hstab : ∀ f, uc r q ≤ f → f ≤ 300 → dpf (uc r) f (uc r q) = dpf (uc r) 300 (uc r q) := by
      intro f hf1 hf2
      -- both are one less than those of q + 1, or the fuel is large
      have key : ∀ (f h : Nat), h ≤ f → h ≤ ln r → dpf (uc r) f h = dpf (uc r) (f + 1) h := by
        intro f
        induction f with
        | zero =>
          intro h hh _
          have : h = 0 := by omega
          subst this
          rfl
        | succ f ihf =>
          intro h hh hh2
          rw [dpf, dpf]
          by_cases z : h = 0
          · rw [if_pos z, if_pos z]
          · rw [if_neg z, if_neg z, ihf (uc r (h - 1)) (by have := huc (h - 1) (by omega); omega) (by have := huc (h - 1) (by omega); omega)]
      have up : ∀ k, dpf (uc r) f (uc r q) = dpf (uc r) (f + k) (uc r q) := by
        intro k
        induction k with
        | zero => rfl
        | succ k ihk => rw [ihk, key (f + k) (uc r q) (by omega) (by omega)]; rfl
      have := up (300 - f)
      rw [show f + (300 - f) = 300 by omega] at this
      exact this
    have hdq : dpf (uc r) 300 (q + 1) = 1 + dpf (uc r) 300 (uc r q) := by
      rw [dpf, if_neg h0]
      show 1 + dpf (uc r) 299 (uc r q) = _
      rw [hstab 299 (by omega) (by omega)]
    obtain ⟨j1, j2, j3⟩ := ih (uc r q) w i (by omega) (by omega) (by omega) hstab
    refine ⟨?_, j2, j3⟩
    rw [F_X3_placeOnWay_11, if_neg (nI_ge (by omega) (by omega)), upI_s, rd_in _ (by omega) (by omega), (hR.2.2 r hr q (by omega)).2.1, bd_r, show t + 1 + i = (t + i) + 1 by omega, pk_m1]
    exact j1
theorem placesM (hB : BsW R ln bs) (hR : RlM R ln sy en uc pc m) (hr : r < R) (huc : ∀ q, q < ln r → uc r q ≤ q) :
    ∀ (f h w a : Nat), h ≤ f → h ≤ ln r → h < w → F_X9_places_5 w (nI r) (nI a) (hI h) m = some (nI (a + dpf (uc r) f h), m) := by
  have hR24 := hB.1
  have hln := (hB.2.2.1 r hr).2
  intro f
  induction f with
  | zero =>
    intro h w a hf hl hw
    obtain ⟨w, rfl⟩ : ∃ z, w = z + 1 := ⟨w - 1, by omega⟩
    have : h = 0 := by omega
    subst this
    rw [F_X9_places_5, if_pos hI_neg0]
    rfl
  | succ f ih =>
    intro h w a hf hl hw
    obtain ⟨w, rfl⟩ : ∃ z, w = z + 1 := ⟨w - 1, by omega⟩
    rw [F_X9_places_5, dpf]
    by_cases h0 : h = 0
    · subst h0
      rw [if_pos rfl, if_pos hI_neg0]
      rfl
    · obtain ⟨q, rfl⟩ : ∃ q, h = q + 1 := ⟨h - 1, by omega⟩
      have hu := huc q (by omega)
      rw [if_neg h0, hI_s, if_neg (nI_pos (by omega)), mul160, nI_add, ck_in (by omega) (by omega), bd_r, nI_clamp (by omega), ((hR.2 r hr).2 q (by omega)).2.1, nI_1, ih (uc r q) w (a + 1) (by omega) (by omega) (by omega)]
      congr 2
      show nI (a + 1 + dpf (uc r) f (uc r q)) = nI (a + (1 + dpf (uc r) f (uc r q)))
      congr 1
      omega
theorem wayM (hB : BsW R ln bs) (hR : RlM R ln sy en uc pc m) (hr : r < R) {k wh : Nat} (hk : k < 4000) (h21 : gA m 21 k = nI r) (hwh : 5 ≤ wh) (hwb : wh < 2 ^ 31) :
    ∀ (t h w : Nat), h ≠ 0 → h ≤ ln r → (∀ s, s ≤ t → wy (uc r) s h ≠ 0 ∧ wy (uc r) s h ≤ ln r) → t < w → t + (wh - 5) < 1000 → F_X9_node__156 w (nI k) (nI wh) (hI h) (nI (t + (wh - 5))) m = some (nI (pc r (wy (uc r) t h - 1)), m) := by
  have hR24 := hB.1
  have hln := (hB.2.2.1 r hr).2
  have h5 : nI wh - 5 = nI (wh - 5) := pk_sub (b := 5) hwh
  intro t
  induction t with
  | zero =>
    intro h w h0 hl hs hw hb
    obtain ⟨w, rfl⟩ : ∃ z, w = z + 1 := ⟨w - 1, by omega⟩
    obtain ⟨q, rfl⟩ : ∃ q, h = q + 1 := ⟨h - 1, by omega⟩
    rw [F_X9_node__156, h5, if_pos (nI_le (by omega) (by omega)), F_X9_node__190, ck_in hk (by omega), bd_r, nI_clamp (by omega), h21, hI_s, mul160, nI_add, ck_in (by omega) (by omega), bd_r, nI_clamp (by omega), ((hR.2 r hr).2 q (by omega)).2.2.1]
    rfl
  | succ t ih =>
    intro h w h0 hl hs hw hb
    obtain ⟨w, rfl⟩ : ∃ z, w = z + 1 := ⟨w - 1, by omega⟩
    obtain ⟨q, rfl⟩ : ∃ q, h = q + 1 := ⟨h - 1, by omega⟩
    have h1 := hs 1 (by omega)
    have h1' : uc r q ≠ 0 ∧ uc r q ≤ ln r := h1
    rw [F_X9_node__156, h5, if_neg (nI_ge (by omega) (by omega)), ck_in hk (by omega), bd_r, nI_clamp (by omega), h21, hI_s, mul160, nI_add, ck_in (by omega) (by omega), bd_r, nI_clamp (by omega), ((hR.2 r hr).2 q (by omega)).2.1, show t + 1 + (wh - 5) = (t + (wh - 5)) + 1 by omega, pk_m1]
    exact ih (uc r q) w h1'.1 h1'.2 (fun s hs2 => hs (s + 1) (by omega)) (by omega) (by omega)
/-- what a node answers, both sides -/
theorem node_both (hB : BsW R ln bs) (hRC : RlC R ln bs sy en uc pc c) (hRM : RlM R ln sy en uc pc m) (huc : ∀ r, r < R → ∀ q, q < ln r → uc r q ≤ q) {X : List Nd} (hC : HoldC bs X c) (hM : Hold m X) (hX : X.length ≤ 559) (hn : ∀ x, x ∈ X → NdW R ln x) (x1 x2 : Int32) :
    ∃ v, F_X6_answer x1 x2 c = some (v, c) ∧ F_X9_node_ x1 x2 m = some (v, m) := by
  have hR24 := hB.1
  have hb := hB.2.2.2
  unfold F_X6_answer F_X9_node_
  by_cases h1 : x1 < 0
  · rw [if_pos h1, if_pos h1]; exact ⟨_, rfl, rfl⟩
  · rw [if_neg h1, if_neg h1]
    obtain ⟨k, hk, rfl⟩ := nI_of h1
    rw [hC.1, hM.1]
    by_cases h2 : X.length ≤ k
    · rw [if_pos (nI_le h2 hk), if_pos (nI_le h2 hk)]; exact ⟨_, rfl, rfl⟩
    · have hkX : k < X.length := by omega
      rw [if_neg (nI_ge hkX (by omega)), if_neg (nI_ge hkX (by omega))]
      by_cases h3 : 0 ≤ x2
      · obtain ⟨wh, hwh, rfl⟩ := nI_of (Int32.not_lt.mpr h3)
        obtain ⟨x, hx⟩ : ∃ x, X[k]? = some x := ⟨_, List.getElem?_eq_getElem hkX⟩
        obtain ⟨n1, n2, n3, n4, n5⟩ := hC.2 k x hx
        obtain ⟨m1, m2, m3, m4, m5, m6, m7⟩ := hM.2.2.2.2 k x hx
        have hnw := hn x (List.mem_of_getElem? hx)
        rw [if_pos h3, if_pos h3, ck_in (by omega) (by omega), nI_clamp (n := k) (by omega), m1, bd_r (nI x.1)]
        have hlit : ∀ a : Nat, a < 100 → (nI wh = nI a ↔ wh = a) := fun a ha => nI_eq hwh (by omega)
        -- the places
        have hpl : ∃ z, (∃ f : Nat, z = f ∧ f < 1000) ∧ F_X6_places (nI k) c = some (nI z, c) ∧ (if nI x.1 = 1 then (ck (inb (nI k) 4000) (bd (gA m 21 k) (fun y8 => ck (inb (nI k) 4000) (bd (gA m 22 k) (fun y10 => bo (F_X9_places y8 y10 m) (fun r11 s12 => F_X9_node__49 (nI k) (nI wh) r11 s12)))))) else F_X9_node__49 (nI k) (nI wh) 0 m) = F_X9_node__49 (nI k) (nI wh) (nI z) m ∧ ((x.1 = 1 ∧ z = dpf (uc x.2.1) 300 (x.2.2.1 + 1)) ∨ (x.1 ≠ 1 ∧ z = 0)) := by
          by_cases hx1 : x.1 = 1
          · rcases hnw with q | q | q
            · rw [hx1] at q; cases q.1
            · obtain ⟨-, q2, q3⟩ := q
              have hln := (hB.2.2.1 _ q2).2
              have hlt := hB.lt q2 q3
              have e1 := placesC hB hRC q2 (huc _ q2) 300 (x.2.2.1 + 1) 5000 0 0 (by omega) (by omega) (by omega) (by omega)
              have e2 := placesM hB hRM q2 (huc _ q2) 300 (x.2.2.1 + 1) 5000 0 (by omega) (by omega) (by omega)
              rw [Nat.zero_add] at e1 e2
              have e1' : F_X3_placesTo (nI (bs x.2.1 + x.2.2.1)) c = some (nI (dpf (uc x.2.1) 300 (x.2.2.1 + 1)), c) := e1
              have e2' : F_X9_places (nI x.2.1) (nI x.2.2.1) m = some (nI (dpf (uc x.2.1) 300 (x.2.2.1 + 1)), m) := e2
              have hsb : sbj bs x = nI (bs x.2.1 + x.2.2.1) := by unfold sbj; rw [if_neg (by omega), if_pos hx1]
              refine ⟨_, ⟨_, rfl, by have := dpf_le (uc x.2.1) 300 (x.2.2.1 + 1); omega⟩, ?_, ?_, Or.inl ⟨hx1, rfl⟩⟩
              · unfold F_X6_places
                rw [rd_in _ (by omega) (by omega), n1, bd_r, hx1, if_pos (by rfl), rd_in _ (by omega) (by omega), n2, hsb, bd_r, e1', bo_s]
              · rw [hx1, if_pos (by rfl), ck_in (by omega) (by omega), bd_r, m3, if_pos hx1, ck_in (by omega) (by omega), bd_r, m4, if_pos hx1, e2', bo_s]
            · rw [hx1] at q; cases q
          · have hne : ¬ nI x.1 = 1 := by
              intro z
              have : x.1 = 1 := by
                rcases hnw with q | q | q
                · rw [q.1] at z; exact absurd z (by decide)
                · exact q.1
                · rw [q] at z; exact absurd z (by decide)
              exact hx1 this
            refine ⟨0, ⟨0, rfl, by omega⟩, ?_, ?_, Or.inr ⟨hx1, rfl⟩⟩
            · unfold F_X6_places
              rw [rd_in _ (by omega) (by omega), n1, bd_r, if_neg hne]
              rfl
            · rw [if_neg hne]
              rfl
        obtain ⟨z, ⟨f, hzf, hf⟩, p1, p2, p3⟩ := hpl
        have hz1000 : z < 1000 := by omega
        rw [p2, F_X9_node__49]
        by_cases w0 : wh = 0
        · subst w0
          rw [if_pos (by rfl), if_pos (by rfl), rd_in _ (by omega) (by omega), n1, bd_r, ck_in (by omega) (by omega), bd_r, nI_clamp (n := k) (by omega), m1]
          exact ⟨_, rfl, rfl⟩
        · have w0' : ¬ nI wh = 0 := fun q => w0 ((hlit 0 (by omega)).mp q)
          rw [if_neg w0', if_neg w0']
          by_cases w1 : wh = 1
          · subst w1
            rw [if_pos (by rfl), if_pos (by rfl), rd_in _ (by omega) (by omega), n1, bd_r, ck_in (by omega) (by omega), bd_r, nI_clamp (n := k) (by omega), m1]
            rcases hnw with q | q | q
            · have hsb : sbj bs x = nI x.2.1 := if_pos q.1
              rw [q.1, if_pos (by rfl), rd_in _ (by omega) (by omega), n2, hsb, bd_r, if_neg (by decide), ck_in (by omega) (by omega), bd_r, m2, if_pos q.1]
              exact ⟨_, rfl, rfl⟩
            · rw [q.1, if_neg (by decide), p1, bo_s, bd_r, if_pos (by rfl)]
              exact ⟨_, rfl, rfl⟩
            · have hz0 : z = 0 := by
                rcases p3 with y | y
                · rw [y.1] at q; cases q
                · exact y.2
              rw [q, if_neg (by decide), p1, bo_s, bd_r, if_neg (by decide), ck_in (by omega) (by omega), bd_r, m2, if_neg (by omega), hz0]
              exact ⟨_, rfl, rfl⟩
          · have w1' : ¬ nI wh = 1 := fun q => w1 ((hlit 1 (by omega)).mp q)
            rw [if_neg w1', if_neg w1']
            by_cases w2 : wh = 2
            · subst w2
              rw [if_pos (by rfl), if_pos (by rfl), rd_in _ (by omega) (by omega), n3, bd_r, ck_in (by omega) (by omega), bd_r, nI_clamp (n := k) (by omega), m5]
              exact ⟨_, rfl, rfl⟩
            · have w2' : ¬ nI wh = 2 := fun q => w2 ((hlit 2 (by omega)).mp q)
              rw [if_neg w2', if_neg w2']
              by_cases w3 : wh = 3
              · subst w3
                rw [if_pos (by rfl), if_pos (by rfl), rd_in _ (by omega) (by omega), n4, bd_r, ck_in (by omega) (by omega), bd_r, nI_clamp (n := k) (by omega), m6]
                exact ⟨_, rfl, rfl⟩
              · have w3' : ¬ nI wh = 3 := fun q => w3 ((hlit 3 (by omega)).mp q)
                rw [if_neg w3', if_neg w3']
                by_cases w4 : wh = 4
                · subst w4
                  rw [if_pos (by rfl), if_pos (by rfl), rd_in _ (by omega) (by omega), n5, bd_r, ck_in (by omega) (by omega), bd_r, nI_clamp (n := k) (by omega), m7]
                  exact ⟨_, rfl, rfl⟩
                · have w4' : ¬ nI wh = 4 := fun q => w4 ((hlit 4 (by omega)).mp q)
                  have h5 : nI wh - 5 = nI (wh - 5) := pk_sub (b := 5) (by omega)
                  rw [if_neg w4', if_neg w4', h5, bd_r, p1, bo_s]
                  by_cases hzw : z ≤ wh - 5
                  · rw [if_pos (nI_le hzw (by omega)), if_neg (nI_nlt hzw (by omega))]
                    exact ⟨_, rfl, rfl⟩
                  · rcases p3 with y | y
                    · obtain ⟨y1, y2⟩ := y
                      rcases hnw with q | q | q
                      · rw [y1] at q; cases q.1
                      · obtain ⟨-, q2, q3⟩ := q
                        have hln := (hB.2.2.1 _ q2).2
                        have hlt := hB.lt q2 q3
                        have hsb : sbj bs x = nI (bs x.2.1 + x.2.2.1) := by unfold sbj; rw [if_neg (by omega), if_pos y1]
                        obtain ⟨t, ht⟩ : ∃ t, z = t + (wh - 5) + 1 := ⟨z - 1 - (wh - 5), by omega⟩
                        have stab : ∀ f, x.2.2.1 + 1 ≤ f → f ≤ 300 → dpf (uc x.2.1) f (x.2.2.1 + 1) = dpf (uc x.2.1) 300 (x.2.2.1 + 1) := by
                          intro f hf1 hf2
                          have e1 := placesC hB hRC q2 (huc _ q2) 300 (x.2.2.1 + 1) 5000 0 0 (by omega) (by omega) (by omega) (by omega)
                          have e2 := placesC hB hRC q2 (huc _ q2) f (x.2.2.1 + 1) 5000 0 0 (by omega) (by omega) (by omega) (by omega)
                          rw [e1] at e2
                          injection e2 with e2
                          have := congrArg Prod.fst e2
                          have l1 := dpf_le (uc x.2.1) 300 (x.2.2.1 + 1)
                          have l2 := dpf_le (uc x.2.1) f (x.2.2.1 + 1)
                          have := nI_inj (by omega) (by omega) this
                          omega
                        have hway := fun s (hs : s ≤ t) => wayC hB hRC q2 (huc _ q2) s (x.2.2.1 + 1) 5000 (wh - 5) (by omega) (by omega) (by omega) stab
                        have hw1 := (hway t (Nat.le_refl _)).1
                        have hw2 := wayM hB hRM q2 (k := k) (wh := wh) (by omega) (by rw [m3, if_pos y1]) (by omega) hwh t (x.2.2.1 + 1) 5000 (by omega) (by omega) (fun s hs => (hway s hs).2) (by omega) (by omega)
                        have hpw : F_X3_placeOnWay (nI (bs x.2.1 + x.2.2.1)) (nI (wh - 5)) c = some (nI (pc x.2.1 (wy (uc x.2.1) t (x.2.2.1 + 1) - 1)), c) := by
                          unfold F_X3_placeOnWay
                          have e1 := placesC hB hRC q2 (huc _ q2) 300 (x.2.2.1 + 1) 5000 0 0 (by omega) (by omega) (by omega) (by omega)
                          rw [Nat.zero_add] at e1
                          have e1' : F_X3_placesTo (nI (bs x.2.1 + x.2.2.1)) c = some (nI (dpf (uc x.2.1) 300 (x.2.2.1 + 1)), c) := e1
                          rw [e1', bo_s, ← y2, ht, sub1, bd_r]
                          exact hw1
                        rw [if_neg (nI_ge (by omega) (by omega)), rd_in _ (by omega) (by omega), n2, hsb, bd_r, hpw, bo_s, if_pos (nI_lt (by omega) (by omega)), ck_in (by omega) (by omega), bd_r, nI_clamp (n := k) (by omega), m4, if_pos y1, ht, sub1, bd_r]
                        exact ⟨_, rfl, hw2⟩
                      · rw [y1] at q; cases q
                    · omega
      · rw [if_neg h3, if_neg h3]; exact ⟨_, rfl, rfl⟩
end
