/-! groups of rules with their open spots: what stays well when a spot is taken -/
/-- a rule's numbers hang together: the numbers' ends, the types that are wanted -/
def PW (N : Nat) (ct ar : Nat → Nat) (pk : Nat → Int32) (n : Nat) (sy : Nat → Int32) (en wt : Nat → Nat) : Prop :=
  ∀ q, q < n → q < en q ∧ en q ≤ n ∧ (sy q = -1 ∨ ∃ c, c < N ∧ sy q = nI c ∧ ct c = wt q ∧ en q = ch en (q + 1) (ar c) ∧ ∀ k, k < ar c → ch en (q + 1) k < n ∧ wt (ch en (q + 1) k) = ty (pk c) k)
def rs (en : Nat → Nat) (l : List Nat) : Nat := (l.map fun q => en q - q).sum
theorem rs_app (en : Nat → Nat) (l l' : List Nat) : rs en (l ++ l') = rs en l + rs en l' := by
  unfold rs
  rw [List.map_append, List.sum_append]
theorem rs_chl (en : Nat → Nat) (s : Nat) : ∀ n, (∀ k, k < n → ch en s k < en (ch en s k)) → s ≤ ch en s n ∧ rs en (chl en s n) = ch en s n - s := by
  intro n
  induction n with
  | zero =>
    intro _
    exact ⟨Nat.le_refl s, by simp [rs, chl, ch]⟩
  | succ n ih =>
    intro h
    obtain ⟨h1, h2⟩ := ih (fun k hk => h k (by omega))
    have h3 := h n (by omega)
    have h4 : rs en [ch en s n] = en (ch en s n) - ch en s n := by simp [rs]
    rw [chl_succ, rs_app, h2, h4]
    show s ≤ en (ch en s n) ∧ _ = en (ch en s n) - s
    omega
theorem split_at {l : List Nat} {s : Nat} (h : s < l.length) : l = l.take s ++ (nth l s :: l.drop (s + 1)) := by
  rw [gD h, List.getElem_cons_drop, List.take_append_drop]
theorem rs_take {N : Nat} {ct ar : Nat → Nat} {pk : Nat → Int32} {n : Nat} {sy : Nat → Int32} {en wt : Nat → Nat} (h : PW N ct ar pk n sy en wt) {l : List Nat} {s c : Nat} (hs : s < l.length) (hq : nth l s < n) (hc : sy (nth l s) = nI c) (hc2 : c < 2 ^ 31) (hN : N ≤ 60) : rs en (opL l (chl en (nth l s + 1) (ar c)) s) + 1 = rs en l := by
  obtain ⟨h1, h2, h3⟩ := h _ hq
  rcases h3 with h3 | ⟨c', h4, h5, h6, h7, h8⟩
  · rw [hc] at h3
    exact absurd h3 (nI_ne_m1 hc2)
  · have hcc : c' = c := nI_inj (by omega) hc2 (h5.symm.trans hc)
    subst hcc
    obtain ⟨h9, h10⟩ := rs_chl en (nth l s + 1) (ar c') (fun k hk => (h _ (h8 k hk).1).1)
    have e1 : rs en l = rs en (l.take s) + ((en (nth l s) - nth l s) + rs en (l.drop (s + 1))) := by
      conv => lhs; rw [split_at hs]
      rw [rs_app]
      simp [rs]
    rw [e1]
    unfold opL
    rw [rs_app, rs_app, h10, ← h7]
    rw [← h7] at h9
    omega
theorem rs_len {en : Nat → Nat} : ∀ (l : List Nat), (∀ q, q ∈ l → q < en q) → l.length ≤ rs en l := by
  intro l
  induction l with
  | nil => intro _; simp [rs]
  | cons x l ih =>
    intro h
    have h1 := ih (fun q hq => h q (List.mem_cons_of_mem _ hq))
    have h2 := h x List.mem_cons_self
    have h3 : rs en (x :: l) = (en x - x) + rs en l := by simp [rs]
    rw [h3]
    simp
    omega
/-- a group -/
def GW (R : Nat) (ln : Nat → Nat) (wt : Nat → Nat → Nat) (g : List Nat) (op : Nat → List Nat) (K : Nat) : Prop :=
  0 < g.length ∧ g.Nodup ∧ (∀ r, r ∈ g → r < R ∧ (op r).length = K ∧ ∀ s, s < K → nth (op r) s < ln r) ∧ ∀ r r', r ∈ g → r' ∈ g → ∀ s, s < K → wt r (nth (op r) s) = wt r' (nth (op r') s)
theorem subG_mem {sy : Nat → Nat → Int32} {op : Nat → List Nat} {s : Nat} {c : Int32} {g : List Nat} {r : Nat} : r ∈ subG sy op s c g ↔ r ∈ g ∧ sy r (nth (op r) s) = c := by
  unfold subG
  rw [List.mem_filter, decide_eq_true_eq]
theorem GW.sub {N : Nat} {ct ar : Nat → Nat} {pk : Nat → Int32} {R : Nat} {ln : Nat → Nat} {sy : Nat → Nat → Int32} {en wt : Nat → Nat → Nat} (hW : ∀ r, r < R → PW N ct ar pk (ln r) (sy r) (en r) (wt r)) (hN : N ≤ 60) {g : List Nat} {op : Nat → List Nat} {K s c : Nat} (h : GW R ln wt g op K) (hs : s < K) (hc : c < N) (h0 : 0 < (subG sy op s (nI c) g).length) : GW R ln wt (subG sy op s (nI c) g) (opT en op s (ar c)) (K + ar c - 1) := by
  obtain ⟨h1, h2, h3, h4⟩ := h
  have key : ∀ r, r ∈ subG sy op s (nI c) g → (∀ t, t < K + ar c - 1 → (t < s ∧ nth (opT en op s (ar c) r) t = nth (op r) t) ∨ (∃ k, k < ar c ∧ t = s + k ∧ nth (opT en op s (ar c) r) t = ch (en r) (nth (op r) s + 1) k) ∨ (∃ i, t = s + ar c + i ∧ s + 1 + i < K ∧ nth (opT en op s (ar c) r) t = nth (op r) (s + 1 + i))) := by
    intro r hr t ht
    have hl := (h3 r (subG_mem.mp hr).1).2.1
    unfold opT
    by_cases t1 : t < s
    · exact Or.inl ⟨t1, opL_lo (by omega) t1⟩
    · by_cases t2 : t < s + ar c
      · refine Or.inr (Or.inl ⟨t - s, by omega, by omega, ?_⟩)
        have h5 := opL_mid (l := op r) (c := chl (en r) (nth (op r) s + 1) (ar c)) (s := s) (i := t - s) (by omega) (by rw [chl_len]; omega)
        rw [show s + (t - s) = t by omega, chl_get _ _ (by omega)] at h5
        exact h5
      · refine Or.inr (Or.inr ⟨t - s - ar c, by omega, by omega, ?_⟩)
        have h5 := opL_hi (l := op r) (c := chl (en r) (nth (op r) s + 1) (ar c)) (s := s) (i := t - s - ar c) (by omega)
        rw [chl_len, show s + ar c + (t - s - ar c) = t by omega] at h5
        exact h5
  have kid : ∀ r, r ∈ subG sy op s (nI c) g → ∀ k, k < ar c → ch (en r) (nth (op r) s + 1) k < ln r ∧ wt r (ch (en r) (nth (op r) s + 1) k) = ty (pk c) k := by
    intro r hr k hk
    obtain ⟨hg, hsy⟩ := subG_mem.mp hr
    obtain ⟨hR, hl, hq⟩ := h3 r hg
    obtain ⟨-, -, h5⟩ := hW r hR _ (hq s hs)
    rcases h5 with h5 | ⟨c', h6, h7, h8, h9, h10⟩
    · rw [hsy] at h5
      exact absurd h5 (nI_ne_m1 (by omega))
    · have : c' = c := nI_inj (by omega) (by omega) (h7.symm.trans hsy)
      subst this
      exact h10 k hk
  refine ⟨h0, List.Nodup.sublist List.filter_sublist h2, fun r hr => ?_, fun r r' hr hr' t ht => ?_⟩
  · obtain ⟨hR, hl, hq⟩ := h3 r (subG_mem.mp hr).1
    refine ⟨hR, ?_, fun t ht => ?_⟩
    · unfold opT
      rw [opL_len (by omega), chl_len, hl]
      omega
    · rcases key r hr t ht with ⟨t1, e⟩ | ⟨k, t1, t2, e⟩ | ⟨i, t1, t2, e⟩
      · rw [e]; exact hq t (by omega)
      · rw [e]; exact (kid r hr k t1).1
      · rw [e]; exact hq _ (by omega)
  · have m1 := (subG_mem.mp hr).1
    have m2 := (subG_mem.mp hr').1
    rcases key r hr t ht with ⟨t1, e⟩ | ⟨k, t1, t2, e⟩ | ⟨i, t1, t2, e⟩ <;> rcases key r' hr' t ht with ⟨u1, e'⟩ | ⟨k', u1, u2, e'⟩ | ⟨i', u1, u2, e'⟩
    · rw [e, e']; exact h4 r r' m1 m2 t (by omega)
    · omega
    · omega
    · omega
    · have : k = k' := by omega
      subst this
      rw [e, e', (kid r hr k t1).2, (kid r' hr' k t1).2]
    · omega
    · omega
    · omega
    · have : i = i' := by omega
      subst this
      rw [e, e']; exact h4 r r' m1 m2 _ (by omega)
