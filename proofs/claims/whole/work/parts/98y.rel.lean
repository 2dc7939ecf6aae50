/-! the relation of the two states -/
/-- the rules are well formed -/
def RuW (N : Nat) (ct ar : Nat → Nat) (pk : Nat → Int32) (A : Nat) (fp : Int32) (R : Nat) (ln bs : Nat → Nat) (sy : Nat → Nat → Int32) (en wt uc pc : Nat → Nat → Nat) (tl : Nat → Nat → List Nat) : Prop :=
  (∀ r, r < R → PW N ct ar pk (ln r) (sy r) (en r) (wt r)) ∧ TopW R A fp ln en wt ∧ UcW R N A ar ln sy en uc pc ∧ (∀ r, r < R → ∀ q, q < ln r → uc r q ≤ q) ∧ TlW R A N ar pk fp ln sy en tl ∧ BsW R ln bs ∧ ∀ r q, sy r q = -1 ∨ ∃ c, c < N ∧ sy r q = nI c
section
variable {N n A R : Nat} {ct ar ct' ar' : Nat → Nat} {pk pk' : Nat → Int32} {fp : Int32} {rw : Nat → Int32} {ln bs : Nat → Nat} {sy : Nat → Nat → Int32} {en wt uc pc : Nat → Nat → Nat} {tl : Nat → Nat → List Nat}
theorem RuW.snoc (h : RuW N ct ar pk A fp R ln bs sy en wt uc pc tl) (hR : R < 24) (hn : n ≤ 160) (hN : N ≤ 60) (hb : bs R + n ≤ 512) (hw : wrA N ct ar pk A fp false rw n 0 = none) (ho : ∀ q, n ≤ q → rw q = -1) :
    RuW N ct ar pk A fp (R + 1) (snocF R ln n) (snocF (R + 1) bs (bs R + n)) (snocF R sy rw) (snocF R en (enS ar A rw)) (snocF R wt (wS ar pk A fp rw)) (snocF R uc (uS ar A rw)) (snocF R pc (pS ar A rw)) (snocF R tl (tlS ar pk A fp rw)) := by
  obtain ⟨h1, h2, h3, h4, h5, h6, h7⟩ := h
  refine ⟨?_, ?_, ?_, ?_, ?_, ?_, ?_⟩
  · intro r hr
    by_cases e : r = R
    · rw [e]
      simp only [snocF_s]
      exact row_PW hn hN hw
    · simp only [snocF_n e]
      exact h1 r (by omega)
  · intro r hr
    by_cases e : r = R
    · rw [e]
      simp only [snocF_s]
      exact ⟨fun k hk => ⟨((parsed hn hN hw).2.2 k hk).1, ((parsed hn hN hw).2.2 k hk).2.1⟩, (parsed hn hN hw).2.1⟩
    · simp only [snocF_n e]
      exact h2 r (by omega)
  · intro r hr
    by_cases e : r = R
    · rw [e]
      simp only [snocF_s]
      exact row_Uc hn hN hw
    · simp only [snocF_n e]
      exact h3 r (by omega)
  · intro r hr
    by_cases e : r = R
    · rw [e]
      simp only [snocF_s]
      exact row_uc hw
    · simp only [snocF_n e]
      exact h4 r (by omega)
  · intro r hr
    by_cases e : r = R
    · rw [e]
      simp only [snocF_s]
      exact row_Tl hn hN hw
    · simp only [snocF_n e]
      exact h5 r (by omega)
  · obtain ⟨b1, b2, b3, b4⟩ := h6
    refine ⟨by omega, ?_, ?_, ?_⟩
    · rw [snocF_n (by omega)]; exact b2
    · intro r hr
      by_cases e : r = R
      · rw [e, snocF_s, snocF_s, snocF_n (by omega)]
        exact ⟨rfl, hn⟩
      · rw [snocF_n (by omega), snocF_n e, snocF_n (by omega)]
        exact b3 r (by omega)
    · rw [snocF_s]; exact hb
  · intro r q
    by_cases e : r = R
    · rw [e, snocF_s]
      by_cases hq : q < n
      · obtain ⟨-, -, q3⟩ := row_PW hn hN hw q hq
        rcases q3 with q3 | ⟨c, c1, c2, -⟩
        · exact Or.inl q3
        · exact Or.inr ⟨c, c1, c2⟩
      · exact Or.inl (ho q (by omega))
    · rw [snocF_n e]
      exact h7 r q
theorem sy_lt (hN : N ≤ 60) (h : ∀ r q, sy r q = -1 ∨ ∃ c, c < N ∧ sy r q = nI c) {r q i : Nat} (hi : i < 2 ^ 31) (he : sy r q = nI i) : i < N := by
  rcases h r q with h | ⟨c, c1, c2⟩
  · rw [h] at he
    exact absurd he.symm (nI_ne_m1 hi)
  · rw [c2] at he
    have := nI_inj (by omega) hi he
    omega
/-! a constructor more -/
theorem ch_ar {e : Nat → Nat} {s a b : Nat} (h : a = b) : ch e s a = ch e s b := by rw [h]
theorem RuW.more (h : RuW N ct ar pk A fp R ln bs sy en wt uc pc tl) (hN : N ≤ 60) (hc : ∀ i, i < N → ct' i = ct i ∧ ar' i = ar i ∧ pk' i = pk i) : RuW (N + 1) ct' ar' pk' A fp R ln bs sy en wt uc pc tl := by
  obtain ⟨h1, h2, h3, h4, h5, h6, h7⟩ := h
  refine ⟨?_, h2, ?_, h4, ?_, h6, ?_⟩
  · intro r hr q hq
    obtain ⟨q1, q2, q3⟩ := h1 r hr q hq
    refine ⟨q1, q2, ?_⟩
    rcases q3 with q3 | ⟨c, c1, c2, c3, c4, c5⟩
    · exact Or.inl q3
    · obtain ⟨e1, e2, e3⟩ := hc c c1
      exact Or.inr ⟨c, by omega, c2, by rw [e1]; exact c3, by rw [e2]; exact c4, by rw [e2, e3]; exact c5⟩
  · intro r hr
    refine ⟨fun q hq i hi he k hk => ?_, (h3 r hr).2⟩
    have hiN := sy_lt hN h7 (by omega) he
    rw [(hc i hiN).2.1] at hk
    exact (h3 r hr).1 q hq i hiN he k hk
  · intro r hr
    obtain ⟨t1, t2, t3⟩ := h5 r hr
    refine ⟨t1, t2, fun q hq => ?_⟩
    obtain ⟨t, rest, u1, u2, u3⟩ := t3 q hq
    refine ⟨t, rest, u1, u2, fun c hcN he => ?_⟩
    have hiN := sy_lt hN h7 (by omega) he
    rw [(hc c hiN).2.1, (hc c hiN).2.2]
    exact u3 c hiN he
  · intro r q
    rcases h7 r q with h | ⟨c, c1, c2⟩
    · exact Or.inl h
    · exact Or.inr ⟨c, by omega, c2⟩
theorem kids_more (hs : ∀ r q, sy r q ≠ nI N) (op : Nat → List Nat) (s : Nat) (g : List Nat) : kidsC sy op s (N + 1) g = kidsC sy op s N g := by
  have e : subG sy op s (nI N) g = [] := by
    unfold subG
    rw [List.filter_eq_nil_iff]
    intro r _
    simp [hs]
  unfold kidsC
  rw [List.range_succ, List.filter_append]
  simp [e]
theorem kids_lt {op : Nat → List Nat} {s c : Nat} {g : List Nat} (h : c ∈ kidsC sy op s N g) : c < N := List.mem_range.mp (List.mem_filter.mp h).1
theorem flat_cg {α β : Type} {f g : α → List β} : ∀ {l : List α}, (∀ x, x ∈ l → f x = g x) → l.flatMap f = l.flatMap g := by
  intro l
  induction l with
  | nil => intro _; rfl
  | cons a l ih =>
    intro h
    rw [List.flatMap_cons, List.flatMap_cons, h a List.mem_cons_self, ih (fun x hx => h x (List.mem_cons_of_mem _ hx))]
theorem Tr_more (hs : ∀ r q, sy r q ≠ nI N) (hc : ∀ i, i < N → ar' i = ar i) : ∀ (d : Nat) (g : List Nat) (op : Nat → List Nat) (K : Nat) (lab : Int32) (dep : Nat), Tr (N + 1) ar' sy en d g op K lab dep = Tr N ar sy en d g op K lab dep := by
  intro d
  induction d with
  | zero => intros; rfl
  | succ d ih =>
    intro g op K lab dep
    rw [Tr, Tr]
    split
    · rfl
    · rw [kids_more hs]
      congr 1
      apply flat_cg
      intro c hcm
      rw [hc c (kids_lt hcm), ih]
    · congr 1
      apply flat_cg
      intro l _
      rw [ih]
theorem Mrk_more {f : Nat → Int32} (hs : ∀ r q, sy r q ≠ nI N) (hc : ∀ i, i < N → ar' i = ar i) : ∀ (d : Nat) (g : List Nat) (op : Nat → List Nat) (K : Nat) (dep : Nat), Mrk N ar sy en bs f d g op K dep → Mrk (N + 1) ar' sy en bs f d g op K dep := by
  intro d
  induction d with
  | zero => intros; trivial
  | succ d ih =>
    intro g op K dep h
    rw [Mrk] at h ⊢
    split
    · trivial
    · rename_i s hp
      rw [hp] at h
      dsimp only at h
      rw [kids_more hs]
      refine ⟨h.1, fun c hcm => ?_⟩
      rw [hc c (kids_lt hcm)]
      exact ih _ _ _ _ (h.2 c hcm)
    · rename_i s hp
      rw [hp] at h
      dsimp only at h
      exact fun l hl => ih _ _ _ _ (h l hl)
theorem TT_more (hs : ∀ r q, sy r q ≠ nI N) (hc : ∀ i, i < N → ar' i = ar i) : TT R A (N + 1) ar' sy en = TT R A N ar sy en := by
  unfold TT
  rw [Tr_more hs hc]
end
