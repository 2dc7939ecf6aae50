theorem add_m1 (x : Int32) : x + (-1) = x - 1 := (Int32.sub_eq_add_neg x 1).symm
def shB (f : Nat → Int32) (o k K : Nat) : Nat → Int32 := fun j => if o + k < j ∧ j < o + K then f (j - 1) else f j
theorem shB_0 (f : Nat → Int32) (o K : Nat) (h : 1 ≤ K) : shB f o (K - 1) K = f := by
  funext j
  exact if_neg (by omega)
theorem shB_s {f : Nat → Int32} {o k K : Nat} (h : k + 1 < K) : upd (shB f o (k + 1) K) (o + (k + 1)) (f (o + (k + 1) - 1)) = shB f o k K := by
  funext j
  unfold upd shB
  by_cases hj : j = o + (k + 1)
  · rw [if_pos hj, if_pos (by omega), hj]
  · rw [if_neg hj]
    by_cases h2 : o + (k + 1) < j ∧ j < o + K
    · rw [if_pos h2, if_pos (by omega)]
    · rw [if_neg h2, if_neg (by omega)]
theorem back52 (k20 : Int32 → Int32 → Int32 → Int32 → St → Rs) (x1 x4 x5 : Int32) {σ : St} {f : Nat → Int32} {o s K : Nat} (hs : s < K) (ho : o + K ≤ 4080) :
    ∀ (d w k : Nat), k = s + d → k < K → d < w → F_X9_putBack_52 k20 w x1 (nI s) x4 x5 (nI o) (nI k) (sA σ 16 (shB f o k K)) = F_X9_putBack_134 k20 x1 (nI s) x4 x5 (nI o) (sA σ 16 (shB f o s K)) := by
  intro d
  induction d with
  | zero =>
    intro w k hk hkK hw
    obtain ⟨w, rfl⟩ : ∃ z, w = z + 1 := ⟨w - 1, by omega⟩
    rw [F_X9_putBack_52, if_pos (nI_le (by omega) (by omega)), show k = s by omega, F_X9_putBack_86]
  | succ d ih =>
    intro w k hk hkK hw
    obtain ⟨w, rfl⟩ : ∃ z, w = z + 1 := ⟨w - 1, by omega⟩
    obtain ⟨k, rfl⟩ : ∃ z, k = z + 1 := ⟨k - 1, by omega⟩
    have hrd : shB f o (k + 1) K (o + (k + 1) - 1) = f (o + (k + 1) - 1) := if_neg (by omega)
    rw [F_X9_putBack_52, if_neg (nI_ge (by omega) (by omega)), nI_add, sub_one (by omega), ck_in (by omega) (by omega), bd_r, nI_clamp (n := o + (k + 1) - 1) (by omega), gA_sA_s, hrd, ck_in (by omega) (by omega), bd_r, nI_clamp (n := o + (k + 1)) (by omega), shB_s hkK, sA_sA, pk_m1]
    exact ih w k (by omega) (by omega) (by omega)
def shC (f : Nat → Int32) (o s k n : Nat) : Nat → Int32 := fun j => if o + s + 1 ≤ j ∧ j < o + k then f (j + n - 1) else f j
theorem shC_0 (f : Nat → Int32) (o s n : Nat) : shC f o s (s + 1) n = f := by
  funext j
  exact if_neg (by omega)
theorem shC_s {f : Nat → Int32} {o s k n : Nat} (h : s + 1 ≤ k) : upd (shC f o s k n) (o + k) (f (o + k + n - 1)) = shC f o s (k + 1) n := by
  funext j
  unfold upd shC
  by_cases hj : j = o + k
  · rw [if_pos hj, if_pos (by omega), hj]
  · rw [if_neg hj]
    by_cases h2 : o + s + 1 ≤ j ∧ j < o + k
    · rw [if_pos h2, if_pos (by omega)]
    · rw [if_neg h2, if_neg (by omega)]
theorem back94 (k20 : Int32 → Int32 → Int32 → Int32 → St → Rs) (x1 x5 : Int32) {σ : St} {f : Nat → Int32} {o s K n : Nat} (hn : 1 ≤ n) (hK : gF σ 7 = nI K) (ho : o + K + n ≤ 4080) :
    ∀ (d w k : Nat), k + d = K → s + 1 ≤ k → d < w → F_X9_putBack_94 k20 w x1 (nI s) (nI n) x5 (nI o) (nI k) (sA σ 16 (shC f o s k n)) = F_X9_putBack_134 k20 x1 (nI s) (nI n) x5 (nI o) (sA σ 16 (shC f o s K n)) := by
  intro d
  induction d with
  | zero =>
    intro w k hk hs hw
    obtain ⟨w, rfl⟩ : ∃ z, w = z + 1 := ⟨w - 1, by omega⟩
    rw [F_X9_putBack_94, gF_sA, hK, if_pos (nI_le (by omega) (by omega)), show k = K by omega]
  | succ d ih =>
    intro w k hk hs hw
    obtain ⟨w, rfl⟩ : ∃ z, w = z + 1 := ⟨w - 1, by omega⟩
    have hrd : shC f o s k n (o + k + n - 1) = f (o + k + n - 1) := if_neg (by omega)
    rw [F_X9_putBack_94, gF_sA, hK, if_neg (nI_ge (by omega) (by omega)), nI_add, nI_add, sub_one (by omega), ck_in (by omega) (by omega), bd_r, nI_clamp (n := o + k + n - 1) (by omega), gA_sA_s, hrd, ck_in (by omega) (by omega), bd_r, nI_clamp (n := o + k) (by omega), shC_s hs, sA_sA, nI_1]
    exact ih w (k + 1) (by omega) (by omega) (by omega)
theorem back_row (k20 : Int32 → Int32 → Int32 → Int32 → St → Rs) (x1 x5 : Int32) {σ : St} {f : Nat → Int32} {s K n r T : Nat} {L c : List Nat} (hr : r < 24) (hL : L.length = K) (hc : c.length = n) (hs : s < K) (hKn : K + n ≤ 165) (hf : gA σ 16 = f) (hseg : seg f (170 * r) (opL L c s)) (hK : gF σ 7 = nI K) (h9 : gF σ 9 = nI (T + 1)) (hT : T < 4800) (htk : gA σ 18 T = nI (nth L s)) :
    ∃ f', seg f' (170 * r) L ∧ (∀ j, offR r j → f' j = f j) ∧
      (if nI n = 0 then (bd ((gF σ 7) - 1) (fun y7 => F_X9_putBack_52 k20 5000 x1 (nI s) (nI n) x5 (nI (170 * r)) y7 σ)) else (bd (nI s + 1) (fun y6 => F_X9_putBack_94 k20 5000 x1 (nI s) (nI n) x5 (nI (170 * r)) y6 σ))) = k20 x1 (nI s) (nI n) (x5 + (-1)) (sA (sF σ 9 (nI T)) 16 f') := by
  have hlen : (opL L c s).length = K - 1 + n := by rw [opL_len (by omega), hc, hL]
  have hend : ∀ g, F_X9_putBack_134 k20 x1 (nI s) (nI n) x5 (nI (170 * r)) (sA σ 16 g) = k20 x1 (nI s) (nI n) (x5 + (-1)) (sA (sF σ 9 (nI T)) 16 (upd g (170 * r + s) (nI (nth L s)))) := by
    intro g
    have e9 : gF (sA σ 16 g) 9 = nI (T + 1) := h9
    have e18 : gA (sF (sA σ 16 g) 9 (nI T)) 18 T = nI (nth L s) := htk
    rw [F_X9_putBack_134, e9, bd_r, sub1, gF_sF, if_pos rfl, ck_in hT (by omega), bd_r, nI_clamp (by omega), e18, nI_add, ck_in (by omega) (by omega), bd_r, nI_clamp (by omega), gA_sF, gA_sA_s, sA_sF, sA_sA]
    rfl
  by_cases hn : n = 0
  · subst hn
    refine ⟨upd (shB f (170 * r) s K) (170 * r + s) (nI (nth L s)), ?_, ?_, ?_⟩
    · intro t ht
      by_cases h1 : t = s
      · subst h1
        exact upd_s _ _ _
      · rw [upd_n _ _ (by omega)]
        by_cases h2 : t < s
        · rw [← opL_lo (c := c) (s := s) (by omega) h2, ← hseg t (by omega)]
          exact if_neg (by omega)
        · obtain ⟨z, rfl⟩ : ∃ z, t = s + 1 + z := ⟨t - s - 1, by omega⟩
          have h3 := opL_hi (l := L) (c := c) (s := s) (i := z) (by omega)
          rw [hc] at h3
          rw [← h3, ← hseg (s + 0 + z) (by omega)]
          unfold shB
          rw [if_pos (by omega)]
          congr 1
          omega
    · intro j hj
      unfold offR at hj
      rw [upd_n _ _ (by omega)]
      exact if_neg (by omega)
    · rw [if_pos (by rfl), bd_r, hK, sub_one (by omega)]
      have h5 := back52 k20 x1 (nI 0) x5 (σ := σ) (f := f) (o := 170 * r) (s := s) (K := K) hs (by omega) (K - 1 - s) 5000 (K - 1) (by omega) (by omega) (by omega)
      rw [shB_0 f _ _ (by omega), ← hf, sA_gA] at h5
      rw [h5, hend, hf]
  · refine ⟨upd (shC f (170 * r) s K n) (170 * r + s) (nI (nth L s)), ?_, ?_, ?_⟩
    · intro t ht
      by_cases h1 : t = s
      · subst h1
        exact upd_s _ _ _
      · rw [upd_n _ _ (by omega)]
        by_cases h2 : t < s
        · rw [← opL_lo (c := c) (s := s) (by omega) h2, ← hseg t (by omega)]
          exact if_neg (by omega)
        · obtain ⟨z, rfl⟩ : ∃ z, t = s + 1 + z := ⟨t - s - 1, by omega⟩
          have h3 := opL_hi (l := L) (c := c) (s := s) (i := z) (by omega)
          rw [hc] at h3
          rw [← h3, ← hseg (s + n + z) (by omega)]
          unfold shC
          rw [if_pos (by omega)]
          congr 1
          omega
    · intro j hj
      unfold offR at hj
      rw [upd_n _ _ (by omega)]
      exact if_neg (by omega)
    · rw [if_neg (nI_ne0 (by omega) (by omega)), bd_r, nI_1]
      have h5 := back94 k20 x1 x5 (σ := σ) (f := f) (o := 170 * r) (s := s) (K := K) (n := n) (by omega) hK (by omega) (K - (s + 1)) 5000 (s + 1) (by omega) (by omega) (by omega)
      rw [shC_0, ← hf, sA_gA] at h5
      rw [h5, hend, hf]
theorem back_loop {R : Nat} {op : Nat → List Nat} {cc : Nat → List Nat} {K s a n TE : Nat} {g : List Nat} {m : St} (hR : R ≤ 24) (hgR : ∀ r, r ∈ g → r < R ∧ (op r).length = K ∧ (cc r).length = n) (hs : s < K) (hKn : K + n ≤ 165) (hg : seg (gA m 17) a g) (hE : a + g.length ≤ 4800) (hT : TE + g.length ≤ 4800) (hk : gF m 7 = nI K) (htk : seg (gA m 18) TE (g.map fun r => nth (op r) s)) (hnd : g.Nodup) :
    ∀ (d w : Nat) (f : Nat → Int32), d ≤ g.length → d < w →
      (∀ j, j < d → seg f (170 * nth g j) (opL (op (nth g j)) (cc (nth g j)) s)) → (∀ j, d ≤ j → j < g.length → seg f (170 * nth g j) (op (nth g j))) → (∀ x, (∀ r, r ∈ g → offR r x) → f x = gA m 16 x) →
      ∃ f', (∀ r, r ∈ g → seg f' (170 * r) (op r)) ∧ (∀ x, (∀ r, r ∈ g → offR r x) → f' x = gA m 16 x) ∧
        F_X9_putBack_20 w (nI a) (nI s) (nI n) (nI (a + d) - 1) (sA (sF m 9 (nI (TE + d))) 16 f) = some (0, sA (sF m 9 (nI TE)) 16 f') := by
  intro d
  induction d with
  | zero =>
    intro w f hd hw hlo hhi hoff
    obtain ⟨w, rfl⟩ : ∃ z, w = z + 1 := ⟨w - 1, by omega⟩
    refine ⟨f, fun r hr => ?_, hoff, ?_⟩
    · obtain ⟨j, hj, e⟩ := List.getElem_of_mem hr
      have := hhi j (by omega) hj
      rwa [gD hj, e] at this
    · have hlt : nI (a + 0) - 1 < nI a := by
        cases a with
        | zero => decide
        | succ a =>
          rw [Nat.add_zero, sub1]
          exact nI_lt (by omega) (by omega)
      rw [F_X9_putBack_20, if_pos hlt]
      rfl
  | succ d ih =>
    intro w f hd hw hlo hhi hoff
    obtain ⟨w, rfl⟩ : ∃ z, w = z + 1 := ⟨w - 1, by omega⟩
    have hil : d < g.length := by omega
    obtain ⟨r, hr⟩ : ∃ r, nth g d = r := ⟨_, rfl⟩
    have hrm : r ∈ g := by
      rw [← hr]
      exact gD_mem hil
    obtain ⟨hrR, hlen, hcl⟩ := hgR r hrm
    have hseg : seg f (170 * r) (opL (op r) (cc r) s) := by
      have := hlo d (by omega)
      rwa [hr] at this
    have ht : gA m 18 (TE + d) = nI (nth (op r) s) := by
      have h5 := htk d (by simp; omega)
      rw [h5, gD (by simp; omega)]
      simp only [List.getElem_map]
      rw [← gD hil, hr]
    have hset : gA m 17 (a + d) = nI r := by rw [hg d hil, hr]
    obtain ⟨f2, k1, k2, k3⟩ := back_row (F_X9_putBack_20 w) (nI a) (nI (a + d)) (σ := sA (sF m 9 (nI (TE + (d + 1)))) 16 f) (f := f) (s := s) (K := K) (n := n) (r := r) (T := TE + d) (L := op r) (c := cc r) (by omega) hlen hcl hs hKn rfl hseg hk rfl (by omega) ht
    have hz : F_X9_putBack_20 (w + 1) (nI a) (nI s) (nI n) (nI (a + (d + 1)) - 1) (sA (sF m 9 (nI (TE + (d + 1)))) 16 f) = F_X9_putBack_20 w (nI a) (nI s) (nI n) (nI (a + d) - 1) (sA (sF m 9 (nI (TE + d))) 16 f2) := by
      have hset' : gA (sA (sF m 9 (nI (TE + (d + 1)))) 16 f) 17 (a + d) = nI r := hset
      have hsub : nI (a + (d + 1)) - 1 = nI (a + d) := nI_pred (a + d)
      rw [hsub, F_X9_putBack_20, if_neg (nI_nlt (by omega) (by omega)), ck_in (by omega) (by omega), bd_r, nI_clamp (by omega), hset', bd_r, mul170, k3, add_m1]
      congr 1
      exact Prod.ext (up_up _ _ _ _) (up_up _ _ _ _)
    rw [hz]
    refine ih w f2 (by omega) (by omega) (fun j hj => ?_) (fun j hj hjl => ?_) (fun x hx => ?_)
    · have hjl : j < g.length := by omega
      have hne : r ≠ nth g j := by
        rw [← hr]
        intro z
        have := nd_inj hnd hil hjl z
        omega
      intro t ht
      have h5 := hlo j (by omega) t ht
      obtain ⟨-, l1, l2⟩ := hgR _ (gD_mem hjl)
      have h6 : (opL (op (nth g j)) (cc (nth g j)) s).length = K - 1 + n := by rw [opL_len (by omega), l2, l1]
      rw [k2 _ (offR_of hne (by omega))]
      exact h5
    · by_cases hji : j = d
      · subst hji
        rw [hr]
        exact k1
      · have hne : r ≠ nth g j := by
          rw [← hr]
          intro z
          have := nd_inj hnd hil hjl z
          omega
        intro t ht
        obtain ⟨-, l1, l2⟩ := hgR _ (gD_mem hjl)
        rw [k2 _ (offR_of hne (by omega))]
        exact hhi j (by omega) hjl t ht
    · rw [k2 x (hx r hrm)]
      exact hoff x hx
theorem back_sum {K n : Nat} (h : 1 ≤ K) : nI (K + n - 1) - (nI n - 1) = nI K := by
  cases n with
  | zero =>
    obtain ⟨K, rfl⟩ : ∃ z, K = z + 1 := ⟨K - 1, by omega⟩
    show nI K - (nI 0 - 1) = nI (K + 1)
    rw [show nI 0 - 1 = -1 from by decide, ← nI_1 K, Int32.sub_eq_add_neg]
    congr 1
  | succ n =>
    rw [sub1, show K + (n + 1) - 1 = K + n by omega, pk_sub (by omega)]
    congr 1
    omega
theorem putBack_eq {R : Nat} {op : Nat → List Nat} {cc : Nat → List Nat} {K s a n TE : Nat} {g : List Nat} {m : St} (hR : R ≤ 24) (hgR : ∀ r, r ∈ g → r < R ∧ (op r).length = K ∧ (cc r).length = n) (hs : s < K) (hKn : K + n ≤ 165) (hg : seg (gA m 17) a g) (hE : a + g.length ≤ 4800) (hT : TE + g.length ≤ 4800) (hk : gF m 7 = nI (K + n - 1)) (he : gF m 9 = nI (TE + g.length)) (htk : seg (gA m 18) TE (g.map fun r => nth (op r) s)) (hnd : g.Nodup) (hop : ∀ r, r ∈ g → seg (gA m 16) (170 * r) (opL (op r) (cc r) s)) :
    ∃ f', (∀ r, r ∈ g → seg f' (170 * r) (op r)) ∧ (∀ x, (∀ r, r ∈ g → offR r x) → f' x = gA m 16 x) ∧
      F_X9_putBack (nI a) (nI g.length) (nI s) (nI n) m = some (0, sA (sF (sF m 7 (nI K)) 9 (nI TE)) 16 f') := by
  obtain ⟨f', k1, k2, k3⟩ := back_loop (m := sF m 7 (nI K)) hR hgR hs hKn hg hE hT rfl htk hnd g.length 5000 (gA m 16) (by omega) (by omega) (fun j hj => hop _ (gD_mem hj)) (fun j h1 h2 => by omega) (fun x _ => rfl)
  refine ⟨f', k1, k2, ?_⟩
  unfold F_X9_putBack
  rw [hk, back_sum (by omega), bd_r, nI_add, bd_r]
  have e1 : sF (sF m 7 (nI K)) 9 (nI (TE + g.length)) = sF m 7 (nI K) := by
    have : nI (TE + g.length) = gF (sF m 7 (nI K)) 9 := he.symm
    rw [this, sF_gF]
  have e2 : sA (sF m 7 (nI K)) 16 (gA m 16) = sF m 7 (nI K) := sA_gA (sF m 7 (nI K)) 16
  rw [e1, e2] at k3
  exact k3
