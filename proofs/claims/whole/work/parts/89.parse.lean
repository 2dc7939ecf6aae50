/-! how a row of numbers is read: the slots that wait, from the next on; holder 0 is the function, p + 1 the number p -/
abbrev Sl : Type := List (Nat × Nat)
def sl (h : Nat) : Nat → Nat → Sl
  | _, 0 => []
  | a, d + 1 => (h, a) :: sl h (a + 1) d
theorem sl_len (h : Nat) : ∀ d a, (sl h a d).length = d := by
  intro d
  induction d with
  | zero => intro a; rfl
  | succ d ih => intro a; rw [sl, List.length_cons, ih]
theorem sl_get (h : Nat) : ∀ d a i, i < d → (sl h a d)[i]? = some (h, a + i) := by
  intro d
  induction d with
  | zero => intro a i hi; omega
  | succ d ih =>
    intro a i hi
    cases i with
    | zero => rfl
    | succ i =>
      rw [sl, List.getElem?_cons_succ, ih (a + 1) i (by omega)]
      congr 2
      omega
/-- how many parts a number has -/
def aw (ar : Nat → Nat) (v : Int32) : Nat := if v < 0 then 0 else ar v.toNatClampNeg
def Ls (ar : Nat → Nat) (A : Nat) (rw : Nat → Int32) : Nat → Sl
  | 0 => sl 0 0 A
  | p + 1 => sl (p + 1) 0 (aw ar (rw p)) ++ (Ls ar A rw p).tail
def hd (l : Sl) : Nat × Nat := l.headD (0, 0)
theorem hd_tail {l : Sl} (h : l ≠ []) : l = hd l :: l.tail := by
  cases l with
  | nil => exact absurd rfl h
  | cons x l => rfl
/-- the type that a slot wants -/
def wty (pk : Nat → Int32) (fp : Int32) (rw : Nat → Int32) (x : Nat × Nat) : Nat := if x.1 = 0 then ty fp x.2 else ty (pk (rw (x.1 - 1)).toNatClampNeg) x.2
/-- the names' types, when a number has been looked at -/
def ntN (tm : Bool) (v : Int32) (w : Nat) (nt : Nat → Int32) : Nat → Int32 :=
  if v < 0 ∧ tm = true ∧ -8 ≤ v ∧ nt (-1 - v).toNatClampNeg = -1 then upd nt (-1 - v).toNatClampNeg (nI w) else nt
def fit (N : Nat) (ct : Nat → Nat) (tm : Bool) (v : Int32) (w : Nat) (nt : Nat → Int32) : Bool :=
  if v < 0 then (if tm = true then decide (-8 ≤ v) && decide (ntN tm v w nt (-1 - v).toNatClampNeg = nI w) else decide (v = -1)) else decide (v.toNatClampNeg < N ∧ ct v.toNatClampNeg = w)
def nts (ar : Nat → Nat) (pk : Nat → Int32) (A : Nat) (fp : Int32) (tm : Bool) (rw : Nat → Int32) : Nat → Nat → Int32
  | 0 => fun _ => -1
  | p + 1 => ntN tm (rw p) (wty pk fp rw (hd (Ls ar A rw p))) (nts ar pk A fp tm rw p)
def okP (N : Nat) (ct ar : Nat → Nat) (pk : Nat → Int32) (A : Nat) (fp : Int32) (tm : Bool) (rw : Nat → Int32) (p : Nat) : Bool :=
  !(Ls ar A rw p).isEmpty && fit N ct tm (rw p) (wty pk fp rw (hd (Ls ar A rw p))) (nts ar pk A fp tm rw p)
def wrA (N : Nat) (ct ar : Nat → Nat) (pk : Nat → Int32) (A : Nat) (fp : Int32) (tm : Bool) (rw : Nat → Int32) : Nat → Nat → Option Nat
  | 0, p => if (Ls ar A rw p).isEmpty = true then none else some p
  | d + 1, p => if okP N ct ar pk A fp tm rw p = true then wrA N ct ar pk A fp tm rw d (p + 1) else some p
theorem wrA_none {N : Nat} {ct ar : Nat → Nat} {pk : Nat → Int32} {A : Nat} {fp : Int32} {tm : Bool} {rw : Nat → Int32} : ∀ d p, wrA N ct ar pk A fp tm rw d p = none → (∀ q, p ≤ q → q < p + d → okP N ct ar pk A fp tm rw q = true) ∧ Ls ar A rw (p + d) = [] := by
  intro d
  induction d with
  | zero =>
    intro p h
    rw [wrA] at h
    split at h
    · next h2 => exact ⟨fun q h3 h4 => by omega, List.isEmpty_iff.mp h2⟩
    · cases h
  | succ d ih =>
    intro p h
    rw [wrA] at h
    split at h
    · next h2 =>
      obtain ⟨h3, h4⟩ := ih (p + 1) h
      refine ⟨fun q h5 h6 => ?_, ?_⟩
      · by_cases h7 : q = p
        · rw [h7]; exact h2
        · exact h3 q (by omega) (by omega)
      · rw [show p + (d + 1) = p + 1 + d by omega]; exact h4
    · cases h
theorem wrA_le {N : Nat} {ct ar : Nat → Nat} {pk : Nat → Int32} {A : Nat} {fp : Int32} {tm : Bool} {rw : Nat → Int32} : ∀ d p z, wrA N ct ar pk A fp tm rw d p = some z → z ≤ p + d := by
  intro d
  induction d with
  | zero =>
    intro p z h
    rw [wrA] at h
    split at h
    · cases h
    · cases h; omega
  | succ d ih =>
    intro p z h
    rw [wrA] at h
    split at h
    · have := ih (p + 1) z h; omega
    · cases h; omega
/-- where a number's term ends -/
def fe (len : Nat → Nat) (l : Nat) : Nat → Nat → Nat
  | 0, e => e
  | f + 1, e => if len e < l then e else fe len l f (e + 1)
theorem fe_eq {len : Nat → Nat} {l : Nat} : ∀ (f e0 e : Nat), e0 ≤ e → e < e0 + f → len e < l → (∀ e', e0 ≤ e' → e' < e → ¬ len e' < l) → fe len l f e0 = e := by
  intro f
  induction f with
  | zero => intro e0 e h1 h2; omega
  | succ f ih =>
    intro e0 e h1 h2 h3 h4
    rw [fe]
    by_cases h : e0 = e
    · rw [h, if_pos h3]
    · rw [if_neg (h4 e0 (by omega) (by omega))]
      exact ih (e0 + 1) e (by omega) (by omega) h3 (fun e' h5 h6 => h4 e' (by omega) h6)
def enS (ar : Nat → Nat) (A : Nat) (rw : Nat → Int32) (q : Nat) : Nat := fe (fun e => (Ls ar A rw e).length) (Ls ar A rw q).length 200 (q + 1)
/-- q's term ends at e -/
def Ends (ar : Nat → Nat) (A : Nat) (rw : Nat → Int32) (q e : Nat) : Prop := q < e ∧ (Ls ar A rw e).length < (Ls ar A rw q).length ∧ ∀ e', q < e' → e' < e → (Ls ar A rw q).length ≤ (Ls ar A rw e').length
theorem Ends.eq {ar : Nat → Nat} {A : Nat} {rw : Nat → Int32} {q e : Nat} (h : Ends ar A rw q e) (he : e ≤ 160) : enS ar A rw q = e := fe_eq 200 (q + 1) e h.1 (by have := h.1; omega) h.2.1 (fun e' h1 h2 => by have := h.2.2 e' (by omega) h2; omega)
/-- a row that is as wanted -/
theorem Ls_run {N : Nat} {ct ar : Nat → Nat} {pk : Nat → Int32} {A : Nat} {fp : Int32} {tm : Bool} {rw : Nat → Int32} {n : Nat} (hn : n ≤ 160) (hok : ∀ q, q < n → okP N ct ar pk A fp tm rw q = true) (h0 : Ls ar A rw n = []) :
    ∀ (d p : Nat) (x : Nat × Nat) (t : Sl), n - p ≤ d → p ≤ n → Ls ar A rw p = x :: t → p < enS ar A rw p ∧ enS ar A rw p ≤ n ∧ Ls ar A rw (enS ar A rw p) = t ∧ Ends ar A rw p (enS ar A rw p) ∧
      ∀ a, a ≤ aw ar (rw p) → p + 1 ≤ ch (enS ar A rw) (p + 1) a ∧ ch (enS ar A rw) (p + 1) a ≤ n ∧ Ls ar A rw (ch (enS ar A rw) (p + 1) a) = sl (p + 1) a (aw ar (rw p) - a) ++ t := by
  intro d
  induction d with
  | zero =>
    intro p x t hd hp hL
    have : p = n := by omega
    rw [this, h0] at hL
    cases hL
  | succ d ih =>
    intro p x t hd hp hL
    have hpn : p < n := by
      rcases Nat.lt_or_ge p n with h | h
      · exact h
      · have : p = n := by omega
        rw [this, h0] at hL
        cases hL
    have hS : Ls ar A rw (p + 1) = sl (p + 1) 0 (aw ar (rw p)) ++ t := by rw [Ls, hL]; rfl
    have key : ∀ a, a ≤ aw ar (rw p) → (p + 1 ≤ ch (enS ar A rw) (p + 1) a ∧ ch (enS ar A rw) (p + 1) a ≤ n ∧ Ls ar A rw (ch (enS ar A rw) (p + 1) a) = sl (p + 1) a (aw ar (rw p) - a) ++ t) ∧ ∀ e', p < e' → e' < ch (enS ar A rw) (p + 1) a → (Ls ar A rw p).length ≤ (Ls ar A rw e').length := by
      intro a
      induction a with
      | zero =>
        intro _
        refine ⟨⟨Nat.le_refl _, hpn, by rw [Nat.sub_zero]; exact hS⟩, fun e' h1 h2 => ?_⟩
        have : e' < p + 1 := h2
        omega
      | succ a iha =>
        intro ha
        obtain ⟨⟨i1, i2, i3⟩, i4⟩ := iha (by omega)
        obtain ⟨c, hc⟩ : ∃ c, ch (enS ar A rw) (p + 1) a = c := ⟨_, rfl⟩
        have hsl : sl (p + 1) a (aw ar (rw p) - a) = (p + 1, a) :: sl (p + 1) (a + 1) (aw ar (rw p) - (a + 1)) := by
          rw [show aw ar (rw p) - a = (aw ar (rw p) - (a + 1)) + 1 by omega, sl]
        rw [hc] at i1 i2 i3 i4
        rw [hsl, List.cons_append] at i3
        obtain ⟨j1, j2, j3, j4, -⟩ := ih c _ _ (by omega) i2 i3
        have hch : ch (enS ar A rw) (p + 1) (a + 1) = enS ar A rw c := by rw [ch, hc]
        rw [hch]
        refine ⟨⟨by omega, j2, j3⟩, fun e' h1 h2 => ?_⟩
        have hlp : (Ls ar A rw p).length ≤ (Ls ar A rw c).length := by rw [hL, i3]; simp
        rcases Nat.lt_trichotomy e' c with q | q | q
        · exact i4 e' h1 q
        · rw [q]; exact hlp
        · exact Nat.le_trans hlp (j4.2.2 e' q h2)
    obtain ⟨⟨k1, k2, k3⟩, k4⟩ := key _ (Nat.le_refl _)
    rw [Nat.sub_self, sl, List.nil_append] at k3
    have hE : Ends ar A rw p (ch (enS ar A rw) (p + 1) (aw ar (rw p))) := ⟨k1, by rw [k3, hL]; simp, k4⟩
    have he := hE.eq (by omega)
    rw [he]
    exact ⟨k1, k2, k3, hE, fun a ha => (key a ha).1⟩
/-- what a row that is as wanted gives: ends, types, holders, places -/
def PX (N : Nat) (ct ar : Nat → Nat) (pk : Nat → Int32) (tm : Bool) (n : Nat) (rw : Nat → Int32) (en wt uc pc : Nat → Nat) : Prop :=
  ∀ q, q < n → q < en q ∧ en q ≤ n ∧ ((rw q < 0 ∧ en q = q + 1 ∧ (tm = false → rw q = -1) ∧ (tm = true → -8 ≤ rw q)) ∨ ∃ c, c < N ∧ rw q = nI c ∧ ct c = wt q ∧ en q = ch en (q + 1) (ar c) ∧ ∀ k, k < ar c → ch en (q + 1) k < n ∧ wt (ch en (q + 1) k) = ty (pk c) k ∧ uc (ch en (q + 1) k) = q + 1 ∧ pc (ch en (q + 1) k) = k)
def TX (n A : Nat) (fp : Int32) (en wt uc pc : Nat → Nat) : Prop :=
  ch en 0 A = n ∧ ∀ k, k < A → ch en 0 k < n ∧ wt (ch en 0 k) = ty fp k ∧ uc (ch en 0 k) = 0 ∧ pc (ch en 0 k) = k
def uS (ar : Nat → Nat) (A : Nat) (rw : Nat → Int32) (q : Nat) : Nat := (hd (Ls ar A rw q)).1
def pS (ar : Nat → Nat) (A : Nat) (rw : Nat → Int32) (q : Nat) : Nat := (hd (Ls ar A rw q)).2
def wS (ar : Nat → Nat) (pk : Nat → Int32) (A : Nat) (fp : Int32) (rw : Nat → Int32) (q : Nat) : Nat := wty pk fp rw (hd (Ls ar A rw q))
theorem parsed {N : Nat} {ct ar : Nat → Nat} {pk : Nat → Int32} {A : Nat} {fp : Int32} {tm : Bool} {rw : Nat → Int32} {n : Nat} (hn : n ≤ 160) (hN : N ≤ 60) (h : wrA N ct ar pk A fp tm rw n 0 = none) :
    PX N ct ar pk tm n rw (enS ar A rw) (wS ar pk A fp rw) (uS ar A rw) (pS ar A rw) ∧ TX n A fp (enS ar A rw) (wS ar pk A fp rw) (uS ar A rw) (pS ar A rw) := by
  obtain ⟨h1, h2⟩ := wrA_none n 0 h
  rw [Nat.zero_add] at h2
  have hok : ∀ q, q < n → okP N ct ar pk A fp tm rw q = true := fun q hq => h1 q (Nat.zero_le q) (by omega)
  have run := Ls_run hn hok h2
  refine ⟨fun q hq => ?_, ?_⟩
  · have ok := hok q hq
    unfold okP at ok
    rw [Bool.and_eq_true] at ok
    obtain ⟨ok1, ok2⟩ := ok
    have hne : Ls ar A rw q ≠ [] := by
      intro z
      rw [z] at ok1
      cases ok1
    obtain ⟨r1, r2, r3, r4, r5⟩ := run n q _ _ (by omega) (by omega) (hd_tail hne)
    refine ⟨r1, r2, ?_⟩
    unfold fit at ok2
    by_cases hv : rw q < 0
    · left
      have ha : aw ar (rw q) = 0 := if_pos hv
      have he : enS ar A rw q = q + 1 := by
        have hL : Ls ar A rw (q + 1) = (Ls ar A rw q).tail := by rw [Ls, ha]; rfl
        refine Ends.eq ⟨Nat.lt_succ_self q, ?_, fun e' h3 h4 => by omega⟩ (by omega)
        rw [hL]
        have := congrArg List.length (hd_tail hne)
        rw [List.length_cons] at this
        omega
      rw [if_pos hv] at ok2
      refine ⟨hv, he, fun ht => ?_, fun ht => ?_⟩
      · rw [if_neg (by rw [ht]; decide)] at ok2
        exact of_decide_eq_true ok2
      · rw [if_pos ht, Bool.and_eq_true] at ok2
        exact of_decide_eq_true ok2.1
    · right
      rw [if_neg hv] at ok2
      obtain ⟨c1, c2⟩ := of_decide_eq_true ok2
      obtain ⟨c, hc, e⟩ := nI_of hv
      have hcl : (rw q).toNatClampNeg = c := by rw [e]; exact nI_clamp hc
      have ha : aw ar (rw q) = ar c := by unfold aw; rw [if_neg hv, hcl]
      rw [hcl] at c1 c2
      rw [ha] at r5
      refine ⟨c, c1, e, c2, ?_, fun k hk => ?_⟩
      · obtain ⟨s1, s2, s3⟩ := r5 (ar c) (Nat.le_refl _)
        rw [Nat.sub_self, sl, List.nil_append] at s3
        refine Ends.eq ⟨s1, by rw [s3]; exact r3 ▸ r4.2.1, fun e' h3 h4 => ?_⟩ (by omega)
        refine Nat.le_of_not_lt fun z => ?_
        rcases Nat.lt_or_ge e' (enS ar A rw q) with y | y
        · have := r4.2.2 e' h3 y; omega
        · have hq2 : Ends ar A rw q (enS ar A rw q) := r4
          rcases Nat.lt_or_ge (enS ar A rw q) (ch (enS ar A rw) (q + 1) (ar c)) with y2 | y2
          · obtain ⟨t1, t2, t3⟩ := r5 0 (Nat.zero_le _)
            -- within q's own numbers nothing is shorter
            exact absurd r3 (by
              intro _
              have hlen := congrArg List.length (hd_tail hne)
              rw [List.length_cons] at hlen
              have key : ∀ a, a ≤ ar c → ∀ e, q < e → e < ch (enS ar A rw) (q + 1) a → (Ls ar A rw q).length ≤ (Ls ar A rw e).length := by
                intro a
                induction a with
                | zero => intro _ e y3 y4; exact absurd (show e < q + 1 from y4) (by omega)
                | succ a iha =>
                  intro ha2 e y3 y4
                  obtain ⟨u1, u2, u3⟩ := r5 a (by omega)
                  have hne2 : Ls ar A rw (ch (enS ar A rw) (q + 1) a) ≠ [] := by
                    rw [u3, show ar c - a = (ar c - (a + 1)) + 1 by omega, sl]
                    simp
                  obtain ⟨v1, v2, v3, v4, -⟩ := run n _ _ _ (by omega) u2 (hd_tail hne2)
                  have hl2 : (Ls ar A rw q).length ≤ (Ls ar A rw (ch (enS ar A rw) (q + 1) a)).length := by
                    rw [u3, List.length_append, sl_len]
                    omega
                  rcases Nat.lt_trichotomy e (ch (enS ar A rw) (q + 1) a) with y5 | y5 | y5
                  · exact iha (by omega) e y3 y5
                  · rw [y5]; exact hl2
                  · exact Nat.le_trans hl2 (v4.2.2 e y5 y4)
              have := key (ar c) (Nat.le_refl _) e' h3 h4
              omega)
          · omega
      · obtain ⟨s1, s2, s3⟩ := r5 k (by omega)
        rw [show ar c - k = (ar c - (k + 1)) + 1 by omega, sl, List.cons_append] at s3
        have hlt : ch (enS ar A rw) (q + 1) k < n := by
          rcases Nat.lt_or_ge (ch (enS ar A rw) (q + 1) k) n with y | y
          · exact y
          · have : ch (enS ar A rw) (q + 1) k = n := by omega
            rw [this, h2] at s3
            cases s3
        refine ⟨hlt, ?_, ?_, ?_⟩
        · unfold wS
          rw [s3]
          show wty pk fp rw (q + 1, k) = _
          unfold wty
          rw [if_neg (by simp)]
          show ty (pk (rw q).toNatClampNeg) k = _
          rw [hcl]
        · unfold uS; rw [s3]; rfl
        · unfold pS; rw [s3]; rfl
  · have top : ∀ k, k ≤ A → ch (enS ar A rw) 0 k ≤ n ∧ Ls ar A rw (ch (enS ar A rw) 0 k) = sl 0 k (A - k) := by
      intro k
      induction k with
      | zero => intro _; exact ⟨Nat.zero_le _, rfl⟩
      | succ k ih =>
        intro hk
        obtain ⟨i1, i2⟩ := ih (by omega)
        rw [show A - k = (A - (k + 1)) + 1 by omega, sl] at i2
        obtain ⟨r1, r2, r3, -, -⟩ := run n _ _ _ (by omega) i1 i2
        exact ⟨r2, r3⟩
    refine ⟨?_, fun k hk => ?_⟩
    · obtain ⟨i1, i2⟩ := top A (Nat.le_refl _)
      rw [Nat.sub_self, sl] at i2
      rcases Nat.lt_or_ge (ch (enS ar A rw) 0 A) n with y | y
      · have ok := hok _ y
        unfold okP at ok
        rw [i2] at ok
        cases ok
      · omega
    · obtain ⟨i1, i2⟩ := top k (by omega)
      rw [show A - k = (A - (k + 1)) + 1 by omega, sl] at i2
      have hlt : ch (enS ar A rw) 0 k < n := by
        rcases Nat.lt_or_ge (ch (enS ar A rw) 0 k) n with y | y
        · exact y
        · have : ch (enS ar A rw) 0 k = n := by omega
          rw [this, h2] at i2
          cases i2
      refine ⟨hlt, ?_, ?_, ?_⟩
      · unfold wS; rw [i2]; rfl
      · unfold uS; rw [i2]; rfl
      · unfold pS; rw [i2]; rfl
