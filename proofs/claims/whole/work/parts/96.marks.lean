/-! where a group's rules lie; marks -/
def Rg (ln bs : Nat → Nat) (g : List Nat) (x : Nat) : Prop := ∃ r, r ∈ g ∧ bs r ≤ x ∧ x < bs r + ln r
theorem BsW.disj {R : Nat} {ln bs : Nat → Nat} (h : BsW R ln bs) {r r' x : Nat} (hr : r < R) (hr' : r' < R) (h1 : bs r ≤ x ∧ x < bs r + ln r) (h2 : bs r' ≤ x ∧ x < bs r' + ln r') : r = r' := by
  rcases Nat.lt_trichotomy r r' with q | q | q
  · have a1 := (h.2.2.1 r hr).1
    have a2 := h.mono r' (by omega) (r + 1) q
    omega
  · exact q
  · have a1 := (h.2.2.1 r' hr').1
    have a2 := h.mono r (by omega) (r' + 1) q
    omega
theorem Tk.congr {a b : Nat → Bool} {e : Nat → Nat} {n : Nat} {T : Tc} {o : List Nat} (h : Tk a e n T o) (he : ∀ q, q < n → q < e q ∧ e q ≤ n) (hab : ∀ x, x < n → a x = b x) : Tk b e n T o := by
  obtain ⟨h1, h2, h3⟩ := h
  have hi := Ws.inc (fun q hq => (he q hq).1) T h1
  refine ⟨Ws.congr T h1 (fun x hx => hab _ (hi.2 x hx).2.1), h2, fun q hq x hx1 hx2 => ?_⟩
  have hqn : q < n := by
    rw [← h2] at hq
    unfold opn at hq
    obtain ⟨w, k1, k2⟩ := List.mem_map.mp hq
    have := (hi.2 w (List.mem_filter.mp k1).1).2.1
    omega
  rw [← hab x (by have := (he q hqn).2; omega)]
  exact h3 q hq x hx1 hx2
theorem GTk.congr {R : Nat} {ln bs : Nat → Nat} {en : Nat → Nat → Nat} {f f' : Nat → Int32} {g : List Nat} {op : Nat → List Nat} (h : GTk R ln bs en f g op) (he : ∀ r, r ∈ g → ∀ q, q < ln r → q < en r q ∧ en r q ≤ ln r) (hf : ∀ x, Rg ln bs g x → f' x = f x) : GTk R ln bs en f' g op := by
  obtain ⟨sh, h⟩ := h
  refine ⟨sh, fun r hr => ?_⟩
  obtain ⟨T, h1, h2⟩ := h r hr
  refine ⟨T, h1.congr (he r hr) (fun x hx => ?_), h2⟩
  unfold asked
  rw [hf (bs r + x) ⟨r, hr, by omega, by omega⟩]
theorem GTk.sub {R : Nat} {ln bs : Nat → Nat} {en : Nat → Nat → Nat} {f : Nat → Int32} {g l : List Nat} {op : Nat → List Nat} (h : GTk R ln bs en f g op) (hl : ∀ r, r ∈ l → r ∈ g) : GTk R ln bs en f l op := by
  obtain ⟨sh, h⟩ := h
  exact ⟨sh, fun r hr => h r (hl r hr)⟩
theorem GTk.take {R : Nat} {ln bs : Nat → Nat} {en : Nat → Nat → Nat} {f f' : Nat → Int32} {g l : List Nat} {op : Nat → List Nat} {s m K : Nat} (hB : BsW R ln bs) (hgR : ∀ r, r ∈ g → r < R) (h : GTk R ln bs en f g op) (he : ∀ r, r ∈ g → ∀ q, q < ln r → q < en r q ∧ en r q ≤ ln r) (hK : ∀ r, r ∈ g → (op r).length = K ∧ ∀ s, s < K → nth (op r) s < ln r) (hs : s < K) (hl : ∀ r, r ∈ l → r ∈ g ∧ en r (nth (op r) s) = ch (en r) (nth (op r) s + 1) m ∧ ∀ k, k < m → ch (en r) (nth (op r) s + 1) k < ln r) (h1 : ∀ r, r ∈ g → f' (bs r + nth (op r) s) ≠ -1) (h2 : ∀ x, (∀ r, r ∈ g → x ≠ bs r + nth (op r) s) → f' x = f x) : GTk R ln bs en f' l (opT en op s m) := by
  obtain ⟨sh, h⟩ := h
  refine ⟨shN m sh s, fun r hr => ?_⟩
  obtain ⟨hrg, hen, hch⟩ := hl r hr
  obtain ⟨T, t1, t2⟩ := h r hrg
  obtain ⟨k1, k2⟩ := hK r hrg
  obtain ⟨T', u1, u2⟩ := t1.take (fun q hq => (he r hrg q hq).1) (by omega) hch hen sh t2
  refine ⟨T', u1.congr (he r hrg) (fun x hx => ?_), u2⟩
  have hq := k2 s hs
  by_cases hxq : x = nth (op r) s
  · subst hxq
    rw [decide_eq_true rfl, Bool.or_true]
    unfold asked
    rw [decide_eq_true (h1 r hrg)]
  · rw [decide_eq_false hxq, Bool.or_false]
    unfold asked
    rw [h2 (bs r + x)]
    intro r' hr' z
    have hq' := (hK r' hr').2 s hs
    have : r = r' := hB.disj (x := bs r + x) (hgR r hrg) (hgR r' hr') ⟨by omega, by omega⟩ ⟨by omega, by omega⟩
    subst this
    omega
def Mrk (N : Nat) (ar : Nat → Nat) (sy : Nat → Nat → Int32) (en : Nat → Nat → Nat) (bs : Nat → Nat) (f : Nat → Int32) : Nat → List Nat → (Nat → List Nat) → Nat → Nat → Prop
  | 0, _, _, _, _ => True
  | d + 1, g, op, K, dep => match pos (ndC sy op g) g.length K 0 none with
    | none => True
    | some (true, s) => (∀ r, r ∈ g → f (bs r + nth (op r) s) = nI dep) ∧ ∀ c, c ∈ kidsC sy op s N g → Mrk N ar sy en bs f d (subG sy op s (nI c) g) (opT en op s (ar c)) (K + ar c - 1) (dep + 1)
    | some (false, s) => ∀ l, l ∈ runs (ndB sy op s) g.length g → Mrk N ar sy en bs f d l op K (dep + 1)
theorem Rg.sub {ln bs : Nat → Nat} {g l : List Nat} {x : Nat} (h : Rg ln bs l x) (hl : ∀ r, r ∈ l → r ∈ g) : Rg ln bs g x := by
  obtain ⟨r, h1, h2⟩ := h
  exact ⟨r, hl r h1, h2⟩
theorem subG_pos {sy : Nat → Nat → Int32} {op : Nat → List Nat} {s N : Nat} {g : List Nat} {c : Nat} (h : c ∈ kidsC sy op s N g) : 0 < (subG sy op s (nI c) g).length := by
  obtain ⟨h1, r, h2, h3⟩ := kids_mem.mp h
  exact List.length_pos_of_mem (subG_mem.mpr ⟨h2, h3⟩)
theorem Mrk.congr {N : Nat} {ct ar : Nat → Nat} {pk : Nat → Int32} {R : Nat} {ln bs : Nat → Nat} {sy : Nat → Nat → Int32} {en wt : Nat → Nat → Nat} (hW : ∀ r, r < R → PW N ct ar pk (ln r) (sy r) (en r) (wt r)) (hN : N ≤ 60) {f f' : Nat → Int32} : ∀ (d : Nat) (g : List Nat) (op : Nat → List Nat) (K dep : Nat), GW R ln wt g op K → (∀ x, Rg ln bs g x → f' x = f x) → Mrk N ar sy en bs f d g op K dep → Mrk N ar sy en bs f' d g op K dep := by
  intro d
  induction d with
  | zero => intro g op K dep _ _ _; trivial
  | succ d ih =>
    intro g op K dep hG hf h
    rw [Mrk] at h ⊢
    cases hp : pos (ndC sy op g) g.length K 0 none with
    | none => trivial
    | some x =>
      obtain ⟨b, s⟩ := x
      rw [hp] at h
      obtain ⟨hs, -, hb⟩ := pos_some K 0 none b s hp (fun y hy => by cases hy)
      rw [Nat.zero_add] at hs
      cases b with
      | true =>
        dsimp only at h ⊢
        refine ⟨fun r hr => ?_, fun c hc => ?_⟩
        · have := (hG.2.2.1 r hr).2.2 s hs
          rw [hf _ ⟨r, hr, by omega, by omega⟩]
          exact h.1 r hr
        · exact ih _ _ _ _ (hG.sub hW hN hs (kids_mem.mp hc).1 (subG_pos hc)) (fun x hx => hf x (hx.sub (fun r hr => (subG_mem.mp hr).1))) (h.2 c hc)
      | false =>
        dsimp only at h ⊢
        intro l hl
        obtain ⟨l1, l2, -⟩ := (runs_spec (ndB sy op s) g.length g (Nat.le_refl _)).2 l hl
        exact ih _ _ _ _ (hG.run l2 l1) (fun x hx => hf x (hx.sub (fun r hr => l2.subset hr))) (h l hl)
theorem pos_none {cnt : Nat → Nat} {G : Nat} : ∀ (d s : Nat) (o : Option Nat), pos cnt G d s o = none → o = none ∧ ∀ z, s ≤ z → z < s + d → cnt z = 0 := by
  intro d
  induction d with
  | zero =>
    intro s o h
    cases o with
    | none => exact ⟨rfl, fun z h1 h2 => by omega⟩
    | some y => cases h
  | succ d ih =>
    intro s o h
    rw [pos] at h
    by_cases hc : cnt s = G
    · rw [if_pos hc] at h; cases h
    · rw [if_neg hc] at h
      obtain ⟨h1, h2⟩ := ih (s + 1) _ h
      by_cases h3 : 0 < cnt s ∧ o = none
      · rw [if_pos h3] at h1; cases h1
      · rw [if_neg h3] at h1
        refine ⟨h1, fun z h4 h5 => ?_⟩
        by_cases hz : z = s
        · rw [hz]
          exact Nat.eq_zero_of_not_pos (fun y => h3 ⟨y, h1⟩)
        · exact h2 z (by omega) (by omega)
theorem pos_nil {cnt : Nat → Nat} {G : Nat} (hG : G ≠ 0) : ∀ (d s : Nat), (∀ z, s ≤ z → z < s + d → cnt z = 0) → pos cnt G d s none = none := by
  intro d
  induction d with
  | zero => intro s _; rfl
  | succ d ih =>
    intro s h
    have h0 := h s (Nat.le_refl _) (by omega)
    rw [pos, h0, if_neg (fun z => hG z.symm), if_neg (fun z => absurd z.1 (Nat.lt_irrefl 0))]
    exact ih (s + 1) (fun z h1 h2 => h z (by omega) (by omega))
