/-! how the class finds the open spots: asked numbers are entered, others passed -/
abbrev Tc : Type := List (Bool × Nat)
def Ws (a : Nat → Bool) (e : Nat → Nat) (n : Nat) : Nat → Tc → Nat → Prop
  | q, [], z => q = z
  | q, x :: L, z => q < n ∧ x.2 = q ∧ x.1 = a q ∧ Ws a e n (if x.1 = true then q + 1 else e q) L z
def opn (L : Tc) : List Nat := (L.filter fun x => !x.1).map fun x => x.2
theorem opn_app (L M : Tc) : opn (L ++ M) = opn L ++ opn M := by
  unfold opn
  rw [List.filter_append, List.map_append]
theorem opn_t (q : Nat) (L : Tc) : opn ((true, q) :: L) = opn L := rfl
theorem opn_f (q : Nat) (L : Tc) : opn ((false, q) :: L) = q :: opn L := rfl
theorem Ws.app {a : Nat → Bool} {e : Nat → Nat} {n : Nat} : ∀ (L : Tc) {M : Tc} {q z : Nat}, Ws a e n q (L ++ M) z ↔ ∃ y, Ws a e n q L y ∧ Ws a e n y M z := by
  intro L
  induction L with
  | nil =>
    intro M q z
    exact ⟨fun h => ⟨q, rfl, h⟩, fun h => by obtain ⟨y, h1, h2⟩ := h; rw [show q = y from h1]; exact h2⟩
  | cons x L ih =>
    intro M q z
    constructor
    · intro h
      obtain ⟨h1, h2, h3, h4⟩ := h
      obtain ⟨y, h5, h6⟩ := ih.mp h4
      exact ⟨y, ⟨h1, h2, h3, h5⟩, h6⟩
    · intro h
      obtain ⟨y, ⟨h1, h2, h3, h5⟩, h6⟩ := h
      exact ⟨h1, h2, h3, ih.mpr ⟨y, h5, h6⟩⟩
/-- a trace goes on: its places grow, what is passed lies behind -/
theorem Ws.inc {a : Nat → Bool} {e : Nat → Nat} {n : Nat} (he : ∀ q, q < n → q < e q) : ∀ (L : Tc) {q z : Nat}, Ws a e n q L z → q + L.length ≤ z ∧ ∀ x, x ∈ L → q ≤ x.2 ∧ x.2 < z ∧ x.1 = a x.2 ∧ (x.1 = false → e x.2 ≤ z) := by
  intro L
  induction L with
  | nil =>
    intro q z h
    have : q = z := h
    exact ⟨by simp; omega, fun x hx => by cases hx⟩
  | cons y L ih =>
    intro q z h
    obtain ⟨h1, h2, h3, h4⟩ := h
    obtain ⟨i1, i2⟩ := ih h4
    have hstep : q + 1 ≤ (if y.1 = true then q + 1 else e q) := by
      split
      · omega
      · have := he q h1; omega
    refine ⟨by rw [List.length_cons]; omega, fun x hx => ?_⟩
    rcases List.mem_cons.mp hx with k | k
    · subst k
      refine ⟨by omega, by omega, by rw [h2]; exact h3, fun hf => ?_⟩
      rw [h2]
      rw [hf, if_neg (by decide)] at i1
      omega
    · obtain ⟨j1, j2, j3, j4⟩ := i2 x k
      exact ⟨by omega, j2, j3, j4⟩
theorem Ws.congr {a b : Nat → Bool} {e : Nat → Nat} {n : Nat} : ∀ (L : Tc) {q z : Nat}, Ws a e n q L z → (∀ x, x ∈ L → a x.2 = b x.2) → Ws b e n q L z := by
  intro L
  induction L with
  | nil => intro q z h _; exact h
  | cons y L ih =>
    intro q z h hx
    obtain ⟨h1, h2, h3, h4⟩ := h
    have := hx y List.mem_cons_self
    rw [h2] at this
    exact ⟨h1, h2, by rw [h3, this], ih h4 (fun x k => hx x (List.mem_cons_of_mem _ k))⟩
/-- the s-th open spot of a trace -/
theorem opn_split : ∀ (L : Tc) (s : Nat), s < (opn L).length → ∃ L1 q L2, L = L1 ++ (false, q) :: L2 ∧ opn L1 = (opn L).take s ∧ q = nth (opn L) s ∧ opn L2 = (opn L).drop (s + 1) := by
  intro L
  induction L with
  | nil => intro s h; exact absurd h (by simp [opn])
  | cons x L ih =>
    intro s h
    obtain ⟨b, q⟩ := x
    cases b with
    | true =>
      rw [opn_t] at h ⊢
      obtain ⟨L1, q', L2, h1, h2, h3, h4⟩ := ih s h
      exact ⟨(true, q) :: L1, q', L2, by rw [h1]; rfl, by rw [opn_t]; exact h2, h3, h4⟩
    | false =>
      rw [opn_f] at h ⊢
      cases s with
      | zero => exact ⟨[], q, L, rfl, rfl, rfl, rfl⟩
      | succ s =>
        obtain ⟨L1, q', L2, h1, h2, h3, h4⟩ := ih s (by simpa using h)
        exact ⟨(false, q) :: L1, q', L2, by rw [h1]; rfl, by rw [opn_f, h2]; rfl, h3, h4⟩
/-- the new spots of a number that is asked -/
def kdT (l : List Nat) : Tc := l.map fun x => (false, x)
theorem opn_kd (l : List Nat) : opn (kdT l) = l := by
  induction l with
  | nil => rfl
  | cons x l ih =>
    show opn ((false, x) :: kdT l) = _
    rw [opn_f, ih]
theorem Ws_kd {a : Nat → Bool} {e : Nat → Nat} {n q : Nat} : ∀ (d k m : Nat), k + d = m → (∀ i, i < m → ch e q i < n ∧ a (ch e q i) = false) → Ws a e n (ch e q k) (kdT ((List.range' k d).map (ch e q))) (ch e q m) := by
  intro d
  induction d with
  | zero =>
    intro k m h _
    rw [show k = m by omega]
    rfl
  | succ d ih =>
    intro k m h hc
    rw [List.range'_succ, List.map_cons]
    exact ⟨(hc k (by omega)).1, rfl, (hc k (by omega)).2.symm, ih (k + 1) m (by omega) hc⟩
theorem chl_range' (e : Nat → Nat) (q m : Nat) : chl e q m = (List.range' 0 m).map (ch e q) := by
  unfold chl
  rw [List.range_eq_range']
/-- how one rule stands: its trace, with its open spots; what lies in an open spot is not asked -/
def Tk (a : Nat → Bool) (e : Nat → Nat) (n : Nat) (T : Tc) (o : List Nat) : Prop := Ws a e n 0 T n ∧ opn T = o ∧ ∀ q, q ∈ o → ∀ x, q ≤ x → x < e q → a x = false
theorem ch_in {e : Nat → Nat} {s : Nat} : ∀ m, (∀ k, k < m → ch e s k < e (ch e s k)) → ∀ k, k ≤ m → s ≤ ch e s k ∧ ch e s k ≤ ch e s m := by
  intro m
  induction m with
  | zero => intro _ k hk; rw [show k = 0 by omega]; exact ⟨Nat.le_refl _, Nat.le_refl _⟩
  | succ m ih =>
    intro h k hk
    have h1 := ih (fun k hk => h k (by omega))
    have h2 := h m (by omega)
    have h3 := h1 m (Nat.le_refl _)
    by_cases hkm : k = m + 1
    · rw [hkm]; exact ⟨by show s ≤ e (ch e s m); omega, Nat.le_refl _⟩
    · have h4 := h1 k (by omega)
      exact ⟨h4.1, by show _ ≤ e (ch e s m); omega⟩
/-- the shape of a trace when its s-th open spot is taken by m new ones -/
def shN (m : Nat) : List Bool → Nat → List Bool
  | [], _ => []
  | true :: l, s => true :: shN m l s
  | false :: l, 0 => true :: (List.replicate m false ++ l)
  | false :: l, s + 1 => false :: shN m l s
theorem shN_eq (m q : Nat) (L2 : Tc) : ∀ (L1 : Tc), shN m ((L1 ++ (false, q) :: L2).map fun x => x.1) (opn L1).length = (L1.map fun x => x.1) ++ true :: (List.replicate m false ++ L2.map fun x => x.1) := by
  intro L1
  induction L1 with
  | nil => rfl
  | cons x L ih =>
    obtain ⟨b, y⟩ := x
    cases b with
    | true =>
      rw [opn_t]
      exact congrArg (List.cons true) ih
    | false =>
      rw [opn_f]
      exact congrArg (List.cons false) ih
theorem Tk.take {a : Nat → Bool} {e : Nat → Nat} {n m s : Nat} {T : Tc} {o : List Nat} (h : Tk a e n T o) (he : ∀ q, q < n → q < e q) (hs : s < o.length) (hch : ∀ k, k < m → ch e (nth o s + 1) k < n) (hen : e (nth o s) = ch e (nth o s + 1) m) (sh : List Bool) (hsh : T.map (fun x => x.1) = sh) :
    ∃ T', Tk (fun x => a x || decide (x = nth o s)) e n T' (opL o (chl e (nth o s + 1) m) s) ∧ T'.map (fun x => x.1) = shN m sh s := by
  obtain ⟨h1, h2, h3⟩ := h
  rw [← h2] at hs
  obtain ⟨L1, q, L2, e1, e2, e3, e4⟩ := opn_split T s hs
  rw [h2] at e2 e3 e4
  rw [← e3] at hch hen ⊢
  rw [e1] at h1
  obtain ⟨y, w1, w2⟩ := (Ws.app L1).mp h1
  obtain ⟨w3, w4, w5, w6⟩ := w2
  have hyq : q = y := w4
  subst hyq
  have w6' : Ws a e n (e q) L2 n := w6
  have hqo : q ∈ o := by
    rw [e3, ← h2]
    exact gD_mem hs
  have i1 := Ws.inc he L1 w1
  have i2 := Ws.inc he L2 w6'
  have hci := ch_in (e := e) (s := q + 1) m (fun k hk => he _ (hch k hk))
  have hkf : ∀ k, k < m → a (ch e (q + 1) k) = false := by
    intro k hk
    obtain ⟨c1, c2⟩ := hci k (by omega)
    obtain ⟨c3, c4⟩ := hci (k + 1) (by omega)
    have c5 : ch e (q + 1) (k + 1) = e (ch e (q + 1) k) := rfl
    have := he _ (hch k hk)
    exact h3 q hqo _ (by omega) (by rw [hen]; omega)
  refine ⟨L1 ++ (true, q) :: (kdT (chl e (q + 1) m) ++ L2), ⟨?_, ?_, ?_⟩, ?_⟩
  · refine (Ws.app L1).mpr ⟨q, Ws.congr L1 w1 (fun x hx => ?_), w3, rfl, by simp, ?_⟩
    · have := (i1.2 x hx).2.1
      rw [decide_eq_false (by omega), Bool.or_false]
    · show Ws _ e n (q + 1) _ n
      refine (Ws.app _).mpr ⟨e q, ?_, Ws.congr L2 w6' (fun x hx => ?_)⟩
      · rw [hen, chl_range']
        refine Ws_kd m 0 m (by omega) (fun i hi => ⟨hch i hi, ?_⟩)
        obtain ⟨c1, c2⟩ := hci i (by omega)
        rw [hkf i hi, decide_eq_false (by omega)]
        rfl
      · have := (i2.2 x hx).1
        have := he q w3
        rw [decide_eq_false (by omega), Bool.or_false]
  · rw [opn_app, opn_t, opn_app, opn_kd, e2, e4]
    rfl
  · intro z hz x hx1 hx2
    have hmem : z ∈ o.take s ∨ z ∈ chl e (q + 1) m ∨ z ∈ o.drop (s + 1) := by
      unfold opL at hz
      rcases List.mem_append.mp hz with k | k
      · exact Or.inl k
      · rcases List.mem_append.mp k with k | k
        · exact Or.inr (Or.inl k)
        · exact Or.inr (Or.inr k)
    rcases hmem with k | k | k
    · have hx : x ≠ q := by
        rw [← e2] at k
        unfold opn at k
        obtain ⟨w, k1, k2⟩ := List.mem_map.mp k
        obtain ⟨k3, k4⟩ := List.mem_filter.mp k1
        have hwf : w.1 = false := by simpa using k4
        have := (i1.2 w k3).2.2.2 hwf
        rw [k2] at this
        omega
      show (a x || decide (x = q)) = false
      rw [h3 z (List.mem_of_mem_take k) x hx1 hx2, decide_eq_false hx]
      rfl
    · unfold chl at k
      obtain ⟨i, k1, k2⟩ := List.mem_map.mp k
      have hi := List.mem_range.mp k1
      obtain ⟨c1, c2⟩ := hci i (by omega)
      obtain ⟨c3, c4⟩ := hci (i + 1) (by omega)
      have c5 : ch e (q + 1) (i + 1) = e (ch e (q + 1) i) := rfl
      rw [← k2] at hx1 hx2
      show (a x || decide (x = q)) = false
      rw [h3 q hqo x (by omega) (by rw [hen]; omega), decide_eq_false (by omega)]
      rfl
    · have hx : x ≠ q := by
        rw [← e4] at k
        unfold opn at k
        obtain ⟨w, k1, k2⟩ := List.mem_map.mp k
        have := (i2.2 w (List.mem_filter.mp k1).1).1
        have := he q w3
        omega
      show (a x || decide (x = q)) = false
      rw [h3 z (List.mem_of_mem_drop k) x hx1 hx2, decide_eq_false hx]
      rfl
  · have hl : (opn L1).length = s := by rw [e2, List.length_take]; rw [h2] at hs; omega
    rw [← hsh, e1, ← hl, shN_eq]
    have hr : (kdT (chl e (q + 1) m)).map (fun x => x.1) = List.replicate m false := by
      unfold kdT
      rw [List.map_map]
      apply List.eq_replicate_iff.mpr
      refine ⟨by rw [List.length_map, chl_len], fun b hb => ?_⟩
      obtain ⟨x, -, hx⟩ := List.mem_map.mp hb
      exact hx.symm
    rw [List.map_append, List.map_cons, List.map_append, hr]
