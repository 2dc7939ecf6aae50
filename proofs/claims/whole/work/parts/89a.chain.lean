/-! the chain of holders -/
def hI (h : Nat) : Int32 := if h = 0 then -1 else nI (h - 1)
theorem hI_0 : hI 0 = -1 := rfl
theorem hI_s (q : Nat) : hI (q + 1) = nI q := rfl
theorem hI_ne {h : Nat} (h0 : h ≠ 0) (hb : h < 2 ^ 31) : ¬ hI h = -1 := by
  obtain ⟨q, rfl⟩ : ∃ q, h = q + 1 := ⟨h - 1, by omega⟩
  exact nI_ne_m1 (by omega)
def av (ar : Nat → Nat) (A : Nat) (rw : Nat → Int32) (h : Nat) : Nat := if h = 0 then A else aw ar (rw (h - 1))
def Cn (ar : Nat → Nat) (A : Nat) (rw : Nat → Int32) (h k : Nat) (L : Sl) : Prop := k ≤ av ar A rw h ∧ L = sl h k (av ar A rw h - k) ++ (if h = 0 then [] else (Ls ar A rw (h - 1)).tail)
theorem Cn.next {ar : Nat → Nat} {A : Nat} {rw : Nat → Int32} {h k : Nat} {L : Sl} (c : Cn ar A rw h k L) (hk : k < av ar A rw h) : L = (h, k) :: L.tail ∧ Cn ar A rw h (k + 1) L.tail := by
  obtain ⟨c1, c2⟩ := c
  rw [show av ar A rw h - k = (av ar A rw h - (k + 1)) + 1 by omega, sl, List.cons_append] at c2
  rw [c2]
  exact ⟨rfl, by omega, rfl⟩
theorem Cn.head {ar : Nat → Nat} {A : Nat} {rw : Nat → Int32} {h k : Nat} {L : Sl} (c : Cn ar A rw h k L) (hk : k < av ar A rw h) : hd L = (h, k) := by
  rw [(c.next hk).1]
  rfl
/-- what is known of a number that was hung up -/
def HG (ar : Nat → Nat) (A : Nat) (rw : Nat → Int32) (q : Nat) : Prop := Ls ar A rw q ≠ [] ∧ Cn ar A rw (uS ar A rw q) (pS ar A rw q) (Ls ar A rw q) ∧ pS ar A rw q < av ar A rw (uS ar A rw q) ∧ uS ar A rw q ≤ q
theorem Cn.close {ar : Nat → Nat} {A : Nat} {rw : Nat → Int32} {q k : Nat} {L : Sl} (c : Cn ar A rw (q + 1) k L) (hk : ¬ k < av ar A rw (q + 1)) (hg : HG ar A rw q) : L = (Ls ar A rw q).tail ∧ Cn ar A rw (uS ar A rw q) (pS ar A rw q + 1) L := by
  obtain ⟨c1, c2⟩ := c
  have hL : L = (Ls ar A rw q).tail := by
    rw [c2, show av ar A rw (q + 1) - k = 0 by omega, sl, List.nil_append, if_neg (by omega)]
    rfl
  rw [hL]
  exact ⟨rfl, (hg.2.1.next hg.2.2.1).2⟩
theorem Cn.push {ar : Nat → Nat} {A : Nat} {rw : Nat → Int32} {h k p : Nat} (c : Cn ar A rw h k (Ls ar A rw p)) (hk : k < av ar A rw h) : (rw p < 0 → Cn ar A rw h (k + 1) (Ls ar A rw (p + 1))) ∧ (¬ rw p < 0 → Cn ar A rw (p + 1) 0 (Ls ar A rw (p + 1))) := by
  refine ⟨fun hv => ?_, fun hv => ?_⟩
  · have ha : aw ar (rw p) = 0 := if_pos hv
    rw [Ls, ha, sl, List.nil_append]
    exact (c.next hk).2
  · exact ⟨Nat.zero_le _, by rw [if_neg (by omega)]; rfl⟩
theorem Cn.norm {ar : Nat → Nat} {A : Nat} {rw : Nat → Int32} {L : Sl} (hL : L ≠ []) : ∀ (n h k : Nat), h ≤ n → (∀ q, q < h → HG ar A rw q) → Cn ar A rw h k L → Cn ar A rw (hd L).1 (hd L).2 L ∧ (hd L).2 < av ar A rw (hd L).1 ∧ (hd L).1 ≤ h := by
  intro n
  induction n with
  | zero =>
    intro h k hn hq c
    by_cases hk : k < av ar A rw h
    · rw [c.head hk]; exact ⟨c, hk, Nat.le_refl _⟩
    · have h0 : h = 0 := by omega
      subst h0
      obtain ⟨c1, c2⟩ := c
      rw [show av ar A rw 0 - k = 0 by omega, sl, if_pos rfl] at c2
      exact absurd c2 hL
  | succ n ih =>
    intro h k hn hq c
    by_cases hk : k < av ar A rw h
    · rw [c.head hk]; exact ⟨c, hk, Nat.le_refl _⟩
    · by_cases h0 : h = 0
      · subst h0
        obtain ⟨c1, c2⟩ := c
        rw [show av ar A rw 0 - k = 0 by omega, sl, if_pos rfl] at c2
        exact absurd c2 hL
      · obtain ⟨q, rfl⟩ : ∃ q, h = q + 1 := ⟨h - 1, by omega⟩
        have hg := hq q (by omega)
        have hu := hg.2.2.2
        obtain ⟨i1, i2, i3⟩ := ih (uS ar A rw q) (pS ar A rw q + 1) (by omega) (fun q' h' => hq q' (by omega)) (c.close hk hg).2
        exact ⟨i1, i2, by omega⟩
theorem HG_all {ar : Nat → Nat} {A : Nat} {rw : Nat → Int32} : ∀ p, (∀ q, q ≤ p → Ls ar A rw q ≠ []) → ∀ q, q ≤ p → HG ar A rw q := by
  intro p
  induction p with
  | zero =>
    intro h q hq
    have : q = 0 := by omega
    subst this
    obtain ⟨i1, i2, i3⟩ := Cn.norm (h 0 (Nat.le_refl _)) 0 0 0 (Nat.le_refl _) (fun q hq => by omega) (show Cn ar A rw 0 0 (Ls ar A rw 0) from ⟨Nat.zero_le _, by rw [if_pos rfl, List.append_nil]; rfl⟩)
    exact ⟨h 0 (Nat.le_refl _), i1, i2, i3⟩
  | succ p ih =>
    intro h q hq
    have hlow := ih (fun q' h' => h q' (by omega))
    by_cases hqp : q ≤ p
    · exact hlow q hqp
    · have : q = p + 1 := by omega
      subst this
      have hg := hlow p (Nat.le_refl _)
      have hpu := hg.2.1.push hg.2.2.1
      by_cases hv : rw p < 0
      · have hu := hg.2.2.2
        obtain ⟨i1, i2, i3⟩ := Cn.norm (h (p + 1) (Nat.le_refl _)) p (uS ar A rw p) _ (by omega) (fun q' h' => hlow q' (by omega)) (hpu.1 hv)
        exact ⟨h _ (Nat.le_refl _), i1, i2, Nat.le_trans i3 (by omega)⟩
      · obtain ⟨i1, i2, i3⟩ := Cn.norm (h (p + 1) (Nat.le_refl _)) (p + 1) (p + 1) 0 (by omega) (fun q' h' => hlow q' (by omega)) (hpu.2 hv)
        exact ⟨h _ (Nat.le_refl _), i1, i2, i3⟩
theorem tail_len {L : Sl} (h : L ≠ []) : L.length = L.tail.length + 1 := by
  have := congrArg List.length (hd_tail h)
  rwa [List.length_cons] at this
def OnC (uc : Nat → Nat) : Nat → Nat → Nat → Prop
  | 0, _, _ => False
  | f + 1, h, q => h = q + 1 ∨ (h ≠ 0 ∧ OnC uc f (uc (h - 1)) q)
def OnCh (uc : Nat → Nat) (h q : Nat) : Prop := ∃ f, OnC uc f h q
theorem OnCh.zero {uc : Nat → Nat} {q : Nat} (h : OnCh uc 0 q) : False := by
  obtain ⟨f, h⟩ := h
  cases f with
  | zero => exact h
  | succ f =>
    rcases h with h | h
    · cases h
    · exact h.1 rfl
theorem OnCh.self (uc : Nat → Nat) (q : Nat) : OnCh uc (q + 1) q := ⟨1, Or.inl rfl⟩
theorem OnCh.up {uc : Nat → Nat} {a q : Nat} (h : OnCh uc (uc a) q) : OnCh uc (a + 1) q := by
  obtain ⟨f, h⟩ := h
  exact ⟨f + 1, Or.inr ⟨by omega, h⟩⟩
theorem OnCh.down {uc : Nat → Nat} {a q : Nat} (h : OnCh uc (a + 1) q) : q = a ∨ OnCh uc (uc a) q := by
  obtain ⟨f, h⟩ := h
  cases f with
  | zero => exact h.elim
  | succ f =>
    rcases h with h | h
    · exact Or.inl (by omega)
    · exact Or.inr ⟨f, h.2⟩
theorem OnC.len {ar : Nat → Nat} {A : Nat} {rw : Nat → Int32} : ∀ (f h k q : Nat) (L : Sl), OnC (uS ar A rw) f h q → (∀ q, q < h → HG ar A rw q) → Cn ar A rw h k L → (Ls ar A rw q).tail.length + (av ar A rw h - k) ≤ L.length := by
  intro f
  induction f with
  | zero => intro h k q L o; exact o.elim
  | succ f ih =>
    intro h k q L o hg c
    rcases o with o | o
    · subst o
      obtain ⟨c1, c2⟩ := c
      rw [c2, List.length_append, sl_len, if_neg (by omega)]
      show _ + _ ≤ _ + (Ls ar A rw q).tail.length
      omega
    · obtain ⟨a, rfl⟩ : ∃ a, h = a + 1 := ⟨h - 1, by omega⟩
      have ha := hg a (by omega)
      have h2 := ih (uS ar A rw a) (pS ar A rw a) q (Ls ar A rw a) o.2 (fun q' h' => hg q' (by have := ha.2.2.2; omega)) ha.2.1
      have h3 := ha.2.2.1
      obtain ⟨c1, c2⟩ := c
      rw [c2, List.length_append, sl_len, if_neg (by omega)]
      show _ + _ ≤ _ + (Ls ar A rw a).tail.length
      have h4 := tail_len ha.1
      omega
theorem neg_name {v : Int32} (h : v < 0) : ∃ j : Nat, j < 2 ^ 31 ∧ -1 - v = nI j ∧ ((-8 ≤ v) ↔ j < 8) ∧ -1 - nI j = v := by
  have h1 : v.toInt < 0 := Int32.lt_iff_toInt_lt.mp h
  have h2 := Int32.le_toInt v
  have h3 : (-1 - v).toInt = -1 - v.toInt := by
    rw [Int32.toInt_sub]
    show (-1 - v.toInt).bmod (2 ^ 32) = _
    apply Int.bmod_eq_of_le <;> omega
  refine ⟨(-1 - v.toInt).toNat, by omega, ?_, ?_, ?_⟩
  · apply Int32.toInt_inj.mp
    rw [h3, nI_toInt (by omega)]
    omega
  · rw [Int32.le_iff_toInt_le]
    show -8 ≤ v.toInt ↔ _
    omega
  · apply Int32.toInt_inj.mp
    rw [Int32.toInt_sub, nI_toInt (by omega)]
    show (-1 - ((-1 - v.toInt).toNat : Int)).bmod (2 ^ 32) = _
    rw [show (-1 - ((-1 - v.toInt).toNat : Int)) = v.toInt by omega]
    apply Int.bmod_eq_of_le <;> omega
