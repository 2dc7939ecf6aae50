/-- outside a row of the open ones -/
def offR (r j : Nat) : Prop := ¬ (170 * r ≤ j ∧ j < 170 * r + 170)
theorem take_row (k3 : Int32 → Int32 → Int32 → Int32 → Int32 → St → Rs) (x1 x2 : Int32) {R : Nat} {ln : Nat → Nat} {sy : Nat → Nat → Int32} {en : Nat → Nat → Nat} {σ : St} {f : Nat → Int32} {s K n i r q : Nat} {L : List Nat} (h : RuM R ln sy en σ) (hr : r < R) (hi : i < 4800) (hset : gA σ 17 i = nI r) (hL : L.length = K) (hs : s < K) (hKn : K + n ≤ 165) (hf : gA σ 16 = f) (hseg : seg f (170 * r) L) (hK : gF σ 7 = nI K) (hqs : nth L s = q) (hq : ∀ k, k < n → ch (en r) (q + 1) k < ln r) :
    ∃ f', seg f' (170 * r) (opL L (chl (en r) (q + 1) n) s) ∧ (∀ j, offR r j → f' j = f j) ∧
      (if nI n = 0 then (bd (nI s + 1) (fun y12 => F_X9_take_66 k3 5000 x1 x2 (nI s) (nI n) (nI i) (nI (170 * r)) (nI q) y12 σ)) else (bd ((gF σ 7) - 1) (fun y11 => F_X9_take_114 k3 5000 x1 x2 (nI s) (nI n) (nI i) (nI (170 * r)) (nI q) y11 σ))) = F_X9_take_205 k3 x1 x2 (nI s) (nI n) (nI i) (sA σ 16 f') := by
  have h1 := h.1
  have hlen : (opL L (chl (en r) (q + 1) n) s).length = K - 1 + n := by rw [opL_len (by omega), chl_len, hL]
  by_cases hn : n = 0
  · subst hn
    refine ⟨shl f (170 * r) s K, ?_, ?_, ?_⟩
    · intro t ht
      rw [hlen] at ht
      by_cases h2 : t < s
      · rw [opL_lo (by omega) h2, ← hseg t (by omega)]
        exact if_neg (by omega)
      · obtain ⟨z, rfl⟩ : ∃ z, t = s + 0 + z := ⟨t - s, by omega⟩
        have h3 := opL_hi (l := L) (c := chl (en r) (q + 1) 0) (s := s) (i := z) (by omega)
        rw [chl_len] at h3
        rw [h3, ← hseg (s + 1 + z) (by omega)]
        unfold shl
        rw [if_pos (by omega)]
        congr 1
        omega
    · intro j hj
      unfold offR at hj
      exact if_neg (by omega)
    · rw [if_pos (by rfl), bd_r, nI_1]
      have h5 := take66 k3 x1 x2 (nI 0) (nI i) (nI q) (σ := σ) (f := f) (o := 170 * r) (s := s) (K := K) hK (by omega) (K - (s + 1)) 5000 (s + 1) (by omega) (by omega) (by omega)
      rw [shl_0, ← hf, sA_gA] at h5
      rw [h5, F_X9_take_103, F_X9_take_151]
      have h6 := take157 k3 x1 x2 (σ := σ) (f := shl f (170 * r) s K) (o := 170 * r) (s := s) (n := 0) (i := i) (r := r) (q := q + 1) h hr hi hset hq (by omega) 0 5000 0 (by omega) (by omega)
      rw [show chl (en r) (q + 1) 0 = [] from rfl, put_nil] at h6
      rw [nI_1, ← hf]
      rw [← hf] at h6
      exact h6
  · refine ⟨put (shr f (170 * r) s n K) (170 * r + s) (chl (en r) (q + 1) n), ?_, ?_, ?_⟩
    · intro t ht
      rw [hlen] at ht
      by_cases h2 : t < s
      · rw [opL_lo (by omega) h2, ← hseg t (by omega), put_out (by omega)]
        exact if_neg (by omega)
      · by_cases h3 : t < s + n
        · obtain ⟨z, rfl⟩ : ∃ z, t = s + z := ⟨t - s, by omega⟩
          rw [opL_mid (by omega) (by rw [chl_len]; omega), ← Nat.add_assoc, put_in (by rw [chl_len]; omega)]
        · obtain ⟨z, rfl⟩ : ∃ z, t = s + n + z := ⟨t - s - n, by omega⟩
          have h4 := opL_hi (l := L) (c := chl (en r) (q + 1) n) (s := s) (i := z) (by omega)
          rw [chl_len] at h4
          rw [h4, ← hseg (s + 1 + z) (by omega), put_out (by rw [chl_len]; omega)]
          unfold shr
          rw [if_pos (by omega)]
          congr 1
          omega
    · intro j hj
      unfold offR at hj
      rw [put_out (by rw [chl_len]; omega)]
      exact if_neg (by omega)
    · rw [if_neg (nI_ne0 (by omega) (by omega)), bd_r, hK, sub_one (by omega)]
      have h5 := take114 k3 x1 x2 (nI i) (nI q) (σ := σ) (f := f) (o := 170 * r) (s := s) (K := K) (n := n) (by omega) hs (by omega) (K - 1 - s) 5000 (K - 1) (by omega) (by omega) (by omega)
      rw [shr_0 f (by omega), ← hf, sA_gA] at h5
      rw [h5, F_X9_take_151]
      have h6 := take157 k3 x1 x2 (σ := σ) (f := shr f (170 * r) s n K) (o := 170 * r) (s := s) (n := n) (i := i) (r := r) (q := q + 1) h hr hi hset hq (by omega) n 5000 0 (by omega) (by omega)
      rw [show chl (en r) (q + 1) 0 = [] from rfl, put_nil] at h6
      rw [nI_1, ← hf]
      rw [← hf] at h6
      exact h6
/-- what stays beside some numbers and rows -/
def Fr (fs as : List Nat) (m m' : St) : Prop := (∀ k, k ∉ fs → gF m' k = gF m k) ∧ ∀ k, k ∉ as → gA m' k = gA m k
def opT (en : Nat → Nat → Nat) (op : Nat → List Nat) (s n : Nat) : Nat → List Nat := fun r => opL (op r) (chl (en r) (nth (op r) s + 1) n) s
theorem take_sum {K n : Nat} (h : 1 ≤ K) : nI K + (nI n - 1) = nI (K + n - 1) := by
  cases n with
  | zero =>
    obtain ⟨K, rfl⟩ : ∃ z, K = z + 1 := ⟨K - 1, by omega⟩
    exact pk_m1 K
  | succ n =>
    rw [sub1, nI_add]
    congr 1
theorem nd_inj {l : List Nat} (h : l.Nodup) {i j : Nat} (hi : i < l.length) (hj : j < l.length) (e : nth l i = nth l j) : i = j := by
  rw [gD hi, gD hj] at e
  have h2 := List.pairwise_iff_getElem.mp h
  rcases Nat.lt_trichotomy i j with q | q | q
  · exact absurd e (h2 i j hi hj q)
  · exact q
  · exact absurd e.symm (h2 j i hj hi q)
theorem offR_of {r q t : Nat} (h : r ≠ q) (ht : t < 170) : offR r (170 * q + t) := by
  unfold offR
  omega
theorem take_loop {R : Nat} {ln : Nat → Nat} {sy : Nat → Nat → Int32} {en : Nat → Nat → Nat} {op : Nat → List Nat} {K s a n TE : Nat} {g : List Nat} {m : St} (h : RuM R ln sy en m) (hop : OpM R ln op K g m) (hs : s < K) (hKn : K + n ≤ 165) (hg : seg (gA m 17) a g) (hE : a + g.length ≤ 4800) (hT : TE + g.length ≤ 4800) (hk : gF m 7 = nI K) (hnd : g.Nodup) (hch : ∀ r, r ∈ g → ∀ k, k < n → ch (en r) (nth (op r) s + 1) k < ln r) :
    ∀ (d w i : Nat) (f : Nat → Int32), i + d = g.length → d < w →
      (∀ j, j < i → seg f (170 * nth g j) (opT en op s n (nth g j))) → (∀ j, i ≤ j → j < g.length → seg f (170 * nth g j) (op (nth g j))) → (∀ x, (∀ r, r ∈ g → offR r x) → f x = gA m 16 x) →
      ∃ f', (∀ r, r ∈ g → seg f' (170 * r) (opT en op s n r)) ∧ (∀ x, (∀ r, r ∈ g → offR r x) → f' x = gA m 16 x) ∧
        F_X9_take_3 w (nI a) (nI g.length) (nI s) (nI n) (nI (a + i)) (sA (sF (sA m 18 (put (gA m 18) TE ((g.take i).map fun r => nth (op r) s))) 9 (nI (TE + i))) 16 f) = some (0, sF (sA (sF (sA m 18 (put (gA m 18) TE (g.map fun r => nth (op r) s))) 9 (nI (TE + g.length))) 16 f') 7 (nI (K + n - 1))) := by
  have h1 := h.1
  intro d
  induction d with
  | zero =>
    intro w i f hi hw hlo hhi hoff
    obtain ⟨w, rfl⟩ : ∃ z, w = z + 1 := ⟨w - 1, by omega⟩
    refine ⟨f, fun r hr => ?_, hoff, ?_⟩
    · obtain ⟨j, hj, e⟩ := List.getElem_of_mem hr
      have := hlo j (by omega)
      rw [gD hj, e] at this
      exact this
    · rw [show g.take i = g by rw [show i = g.length by omega, List.take_length], show i = g.length by omega, F_X9_take_3, nI_add, if_pos (nI_le (by omega) (by omega)), F_X9_take_211, bd_r]
      have hz : gF (sA (sF (sA m 18 (put (gA m 18) TE (g.map fun r => nth (op r) s))) 9 (nI (TE + g.length))) 16 f) 7 = nI K := hk
      rw [hz, take_sum (by omega)]
  | succ d ih =>
    intro w i f hi hw hlo hhi hoff
    obtain ⟨w, rfl⟩ : ∃ z, w = z + 1 := ⟨w - 1, by omega⟩
    have hil : i < g.length := by omega
    obtain ⟨r, hr⟩ : ∃ r, nth g i = r := ⟨_, rfl⟩
    have hrm : r ∈ g := by
      rw [← hr]
      exact gD_mem hil
    obtain ⟨hrR, hlen, -, hsp⟩ := hop.2 r hrm
    have hseg : seg f (170 * r) (op r) := by
      have := hhi i (Nat.le_refl i) hil
      rwa [hr] at this
    obtain ⟨q, hq⟩ : ∃ q, nth (op r) s = q := ⟨_, rfl⟩
    have hfq : f (170 * r + s) = nI q := by rw [hseg s (by omega), hq]
    have htk : (g.take (i + 1)).map (fun r => nth (op r) s) = (g.take i).map (fun r => nth (op r) s) ++ [q] := by
      rw [List.take_succ_eq_append_getElem hil, ← gD hil, hr, List.map_append]
      simp [hq]
    have hml : ((g.take i).map fun r => nth (op r) s).length = i := by simp; omega
    have hput := put_snoc (gA m 18) TE ((g.take i).map fun r => nth (op r) s) q
    rw [hml, ← htk] at hput
    have hset : gA m 17 (a + i) = nI r := by rw [hg i hil, hr]
    obtain ⟨f2, k1, k2, k3⟩ := take_row (F_X9_take_3 w) (nI a) (nI g.length) (σ := sA (sF (sA m 18 (put (gA m 18) TE ((g.take (i + 1)).map fun r => nth (op r) s))) 9 (nI (TE + (i + 1)))) 16 f) (f := f) (s := s) (K := K) (n := n) (i := a + i) (r := r) (q := q) (L := op r) h hrR (by omega) hset hlen hs hKn rfl hseg hk hq (by rw [← hq]; exact hch r hrm)
    have hz : F_X9_take_3 (w + 1) (nI a) (nI g.length) (nI s) (nI n) (nI (a + i)) (sA (sF (sA m 18 (put (gA m 18) TE ((g.take i).map fun r => nth (op r) s))) 9 (nI (TE + i))) 16 f) = F_X9_take_3 w (nI a) (nI g.length) (nI s) (nI n) (nI (a + (i + 1))) (sA (sF (sA m 18 (put (gA m 18) TE ((g.take (i + 1)).map fun r => nth (op r) s))) 9 (nI (TE + (i + 1)))) 16 f2) := by
      have hset' : gA (sA (sF (sA m 18 (put (gA m 18) TE ((g.take i).map fun r => nth (op r) s))) 9 (nI (TE + i))) 16 f) 17 (a + i) = nI r := hset
      have h9 : gF (sA (sF (sA m 18 (put (gA m 18) TE ((g.take i).map fun r => nth (op r) s))) 9 (nI (TE + i))) 16 f) 9 = nI (TE + i) := rfl
      have h18 : gA (sA (sF (sA m 18 (put (gA m 18) TE ((g.take i).map fun r => nth (op r) s))) 9 (nI (TE + i))) 16 f) 18 = put (gA m 18) TE ((g.take i).map fun r => nth (op r) s) := rfl
      have hst : sF (sA (sA (sF (sA m 18 (put (gA m 18) TE ((g.take i).map fun r => nth (op r) s))) 9 (nI (TE + i))) 16 f) 18 (put (gA m 18) TE ((g.take (i + 1)).map fun r => nth (op r) s))) 9 (nI (TE + i) + 1) = sA (sF (sA m 18 (put (gA m 18) TE ((g.take (i + 1)).map fun r => nth (op r) s))) 9 (nI (TE + (i + 1)))) 16 f := by
        rw [nI_1]
        exact Prod.ext (up_up _ _ _ _) (by
          funext z
          show va_up (va_up (va_up m.2 18 _) 16 f) 18 _ z = va_up (va_up m.2 18 _) 16 f z
          unfold va_up
          by_cases z1 : z = 18
          · subst z1; rfl
          · rw [if_neg z1, if_neg z1]
            by_cases z2 : z = 16
            · rw [if_pos z2, if_pos z2]
            · rw [if_neg z2, if_neg z2, if_neg z1])
      have h9b : gF (sA (sA (sF (sA m 18 (put (gA m 18) TE ((g.take i).map fun r => nth (op r) s))) 9 (nI (TE + i))) 16 f) 18 (put (gA m 18) TE ((g.take (i + 1)).map fun r => nth (op r) s))) 9 = nI (TE + i) := rfl
      rw [F_X9_take_3, nI_add, if_neg (nI_ge (by omega) (by omega)), ck_in (by omega) (by omega), bd_r, nI_clamp (by omega), hset', bd_r, mul170, nI_add, ck_in (by omega) (by omega), bd_r, nI_clamp (by omega), gA_sA_s, hfq, h9, ck_in (by omega) (by omega), bd_r, nI_clamp (by omega), h18, hput, bd_r, h9b, hst, k3, F_X9_take_205, nI_1, sA_sA]
      rfl
    rw [hz]
    refine ih w (i + 1) f2 (by omega) (by omega) (fun j hj => ?_) (fun j hj hjl => ?_) (fun x hx => ?_)
    · by_cases hji : j = i
      · subst hji
        rw [hr]
        show seg f2 (170 * r) (opL (op r) (chl (en r) (nth (op r) s + 1) n) s)
        rw [hq]
        exact k1
      · have hjl : j < g.length := by omega
        have hne : r ≠ nth g j := by
          rw [← hr]
          intro z
          exact hji (nd_inj hnd hjl hil z.symm)
        intro t ht
        have h5 := hlo j (by omega) t ht
        have hlj : (op (nth g j)).length = K := (hop.2 _ (gD_mem hjl)).2.1
        have ht2 : t < 170 := by
          have h6 : (opT en op s n (nth g j)).length = K - 1 + n := by
            unfold opT
            rw [opL_len (by omega), chl_len, hlj]
          omega
        rw [k2 _ (offR_of hne ht2)]
        exact h5
    · have hne : r ≠ nth g j := by
        rw [← hr]
        intro z
        have := nd_inj hnd hil hjl z
        omega
      intro t ht
      have hlj : (op (nth g j)).length = K := (hop.2 _ (gD_mem hjl)).2.1
      rw [k2 _ (offR_of hne (by omega))]
      exact hhi j (by omega) hjl t ht
    · rw [k2 x (hx r hrm)]
      exact hoff x hx
theorem take_eq {R : Nat} {ln : Nat → Nat} {sy : Nat → Nat → Int32} {en : Nat → Nat → Nat} {op : Nat → List Nat} {K s a n TE : Nat} {g : List Nat} {m : St} (h : RuM R ln sy en m) (hop : OpM R ln op K g m) (hs : s < K) (hKn : K + n ≤ 165) (hg : seg (gA m 17) a g) (hE : a + g.length ≤ 4800) (hT : TE + g.length ≤ 4800) (hk : gF m 7 = nI K) (he : gF m 9 = nI TE) (hnd : g.Nodup) (hch : ∀ r, r ∈ g → ∀ k, k < n → ch (en r) (nth (op r) s + 1) k < ln r) :
    ∃ f', (∀ r, r ∈ g → seg f' (170 * r) (opT en op s n r)) ∧ (∀ x, (∀ r, r ∈ g → offR r x) → f' x = gA m 16 x) ∧
      F_X9_take (nI a) (nI g.length) (nI s) (nI n) m = some (0, sF (sA (sF (sA m 18 (put (gA m 18) TE (g.map fun r => nth (op r) s))) 9 (nI (TE + g.length))) 16 f') 7 (nI (K + n - 1))) := by
  obtain ⟨f', k1, k2, k3⟩ := take_loop h hop hs hKn hg hE hT hk hnd hch g.length 5000 0 (gA m 16) (by omega) (by omega) (fun j hj => absurd hj (Nat.not_lt_zero j)) (fun j _ hj => (hop.2 _ (gD_mem hj)).2.2.1) (fun x _ => rfl)
  refine ⟨f', k1, k2, ?_⟩
  rw [List.take_zero, List.map_nil, put_nil, sA_gA, show nI (TE + 0) = gF m 9 from he.symm, sF_gF, sA_gA] at k3
  exact k3
