/-! what a row that passed gives: a rule, a term -/
section
variable {N n A : Nat} {ct ar : Nat → Nat} {pk : Nat → Int32} {fp : Int32} {rw : Nat → Int32}
theorem nI_nneg {i : Nat} (h : i < 2 ^ 31) : ¬ nI i < 0 := nI_pos h
theorem ok_ne {tm : Bool} {p : Nat} (h : okP N ct ar pk A fp tm rw p = true) : Ls ar A rw p ≠ [] := by
  intro e
  unfold okP at h
  rw [e] at h
  simp at h
theorem row_ne {tm : Bool} (h : wrA N ct ar pk A fp tm rw n 0 = none) : ∀ q, q < n → Ls ar A rw q ≠ [] := by
  intro q hq
  exact ok_ne ((wrA_none n 0 h).1 q (by omega) (by omega))
theorem row_uc {tm : Bool} (h : wrA N ct ar pk A fp tm rw n 0 = none) : ∀ q, q < n → uS ar A rw q ≤ q := by
  intro q hq
  exact (HG_all q (fun q' h' => row_ne h q' (by omega)) q (Nat.le_refl q)).2.2.2
theorem row_PW (hn : n ≤ 160) (hN : N ≤ 60) (h : wrA N ct ar pk A fp false rw n 0 = none) : PW N ct ar pk n rw (enS ar A rw) (wS ar pk A fp rw) := by
  intro q hq
  obtain ⟨h1, h2, h3⟩ := (parsed hn hN h).1 q hq
  refine ⟨h1, h2, ?_⟩
  rcases h3 with ⟨_, _, h4, _⟩ | ⟨c, c1, c2, c3, c4, c5⟩
  · exact Or.inl (h4 rfl)
  · exact Or.inr ⟨c, c1, c2, c3, c4, fun k hk => ⟨(c5 k hk).1, (c5 k hk).2.1⟩⟩
theorem row_Uc {tm : Bool} (hn : n ≤ 160) (hN : N ≤ 60) (h : wrA N ct ar pk A fp tm rw n 0 = none) : (∀ q, q < n → ∀ i, i < N → rw q = nI i → ∀ k, k < ar i → uS ar A rw (ch (enS ar A rw) (q + 1) k) = q + 1 ∧ pS ar A rw (ch (enS ar A rw) (q + 1) k) = k) ∧ ∀ k, k < A → uS ar A rw (ch (enS ar A rw) 0 k) = 0 ∧ pS ar A rw (ch (enS ar A rw) 0 k) = k := by
  refine ⟨fun q hq i hi he k hk => ?_, fun k hk => ⟨((parsed hn hN h).2.2 k hk).2.2.1, ((parsed hn hN h).2.2 k hk).2.2.2⟩⟩
  obtain ⟨h1, h2, h3⟩ := (parsed hn hN h).1 q hq
  rcases h3 with ⟨h4, _⟩ | ⟨c, c1, c2, c3, c4, c5⟩
  · rw [he] at h4
    exact absurd h4 (nI_nneg (by omega))
  · have : c = i := nI_inj (by omega) (by omega) (by rw [← c2, he])
    rw [this] at c5
    exact (c5 k hk).2.2
def tlS (ar : Nat → Nat) (pk : Nat → Int32) (A : Nat) (fp : Int32) (rw : Nat → Int32) (q : Nat) : List Nat := (Ls ar A rw q).map (wty pk fp rw)
theorem sl_ty (h : Nat) (f : Nat × Nat → Nat) (d : Nat) : (sl h 0 d).map f = (List.range d).map fun k => f (h, k) := by
  rw [sl_map, List.range_eq_range']
theorem row_Tl {tm : Bool} (hn : n ≤ 160) (hN : N ≤ 60) (h : wrA N ct ar pk A fp tm rw n 0 = none) : tlS ar pk A fp rw 0 = (List.range A).map (ty fp) ∧ tlS ar pk A fp rw n = [] ∧ ∀ q, q < n → ∃ t rest, tlS ar pk A fp rw q = t :: rest ∧ tlS ar pk A fp rw (enS ar A rw q) = rest ∧ ∀ c, c < N → rw q = nI c → tlS ar pk A fp rw (q + 1) = (List.range (ar c)).map (ty (pk c)) ++ rest := by
  have h0 : Ls ar A rw n = [] := by
    have := (wrA_none n 0 h).2
    rwa [Nat.zero_add] at this
  refine ⟨?_, ?_, ?_⟩
  · unfold tlS
    rw [Ls, sl_ty]
    rfl
  · unfold tlS
    rw [h0]
    rfl
  · intro q hq
    have e := hd_tail (row_ne h q hq)
    obtain ⟨-, -, r3, -⟩ := Ls_run hn (fun q' hq' => (wrA_none n 0 h).1 q' (by omega) (by omega)) h0 n q (hd (Ls ar A rw q)) (Ls ar A rw q).tail (by omega) (by omega) e
    refine ⟨wty pk fp rw (hd (Ls ar A rw q)), (Ls ar A rw q).tail.map (wty pk fp rw), ?_, ?_, ?_⟩
    · unfold tlS
      rw [e]
      rfl
    · unfold tlS
      rw [r3]
    · intro c hc he
      unfold tlS
      rw [Ls, List.map_append, sl_ty]
      have ha : aw ar (rw q) = ar c := by
        unfold aw
        rw [he, if_neg (nI_nneg (by omega)), nI_clamp (by omega)]
      rw [ha]
      congr 1
      apply List.map_congr_left
      intro k _
      show wty pk fp rw (q + 1, k) = _
      unfold wty
      rw [if_neg (by omega)]
      show ty (pk (rw q).toNatClampNeg) k = _
      rw [he, nI_clamp (by omega)]
/-! a term -/
theorem row_Tm (hn : n ≤ 160) (hN : N ≤ 60) (h : wrA N ct ar pk A fp true rw n 0 = none) : TmW n N A rw (enS ar A rw) ar := by
  obtain ⟨p1, p2⟩ := parsed hn hN h
  refine ⟨⟨hn, fun p hp hneg => ?_⟩, p2.1, fun k hk => (p2.2 k hk).1, fun p hp => ?_⟩
  · obtain ⟨-, -, h3⟩ := p1 p hp
    rcases h3 with ⟨_, _, _, h4⟩ | ⟨c, c1, c2, _⟩
    · obtain ⟨j, j1, j2, j3, -⟩ := neg_name hneg
      rw [j2, nI_clamp j1]
      exact j3.mp (h4 rfl)
    · rw [c2] at hneg
      exact absurd hneg (nI_nneg (by omega))
  · obtain ⟨h1, h2, h3⟩ := p1 p hp
    refine ⟨h1, h2, ?_⟩
    rcases h3 with ⟨h4, h5, _⟩ | ⟨c, c1, c2, c3, c4, c5⟩
    · exact Or.inl ⟨h4, h5⟩
    · exact Or.inr ⟨c, c1, c2, c4, fun k hk => (c5 k hk).1⟩
theorem row_TK (hn : n ≤ 160) (hN : N ≤ 60) (h : wrA N ct ar pk A fp true rw n 0 = none) : TKW n N A rw (enS ar A rw) ar (kp ar A rw) (fun p => A + sumA ar rw p) := by
  obtain ⟨u1, u2⟩ := row_Uc hn hN h
  have h0 : Ls ar A rw n = [] := by
    have := (wrA_none n 0 h).2
    rwa [Nat.zero_add] at this
  refine ⟨fun p hp => ?_, fun p hp i hi he k hk => ?_, fun k hk => ?_⟩
  · obtain ⟨-, k2, k3⟩ := kp_nodup (ar := ar) (A := A) (rw := rw) n (row_ne h)
    rw [h0] at k2 k3
    have : kp ar A rw p < A + sumA ar rw n := k2 _ (by
      rw [List.map_nil, List.append_nil]
      exact List.mem_map.mpr ⟨p, List.mem_range.mpr hp, rfl⟩)
    simp at k3
    omega
  · obtain ⟨e1, e2⟩ := u1 p hp i hi he k hk
    have e : hd (Ls ar A rw (ch (enS ar A rw) (p + 1) k)) = (p + 1, k) := Prod.ext e1 e2
    unfold kp
    rw [e, nmS, if_neg (by show ¬ p + 1 = 0; omega)]
    rfl
  · obtain ⟨e1, e2⟩ := u2 k hk
    have e : hd (Ls ar A rw (ch (enS ar A rw) 0 k)) = (0, k) := Prod.ext e1 e2
    unfold kp
    rw [e, nmS, if_pos rfl]
theorem row_RT {m : St} (h1 : RCl ar A rw n m) (h2 : gF m 15 = nI n) (h3 : gF m 16 = nI 8) (h4 : ∀ v, v < 8 → gA m 28 v = -1) : RT n rw ar (kp ar A rw) (fun p => A + sumA ar rw p) [] m := by
  refine ⟨h2, h3, h1, fun t ht _ => ?_, fun β1 t i β2 he => ?_⟩
  · have ht8 : t < 8 := by
      rcases ht with h | ⟨h5, h6⟩
      · exact h
      · have : sz ar [] = 0 := rfl
        omega
    unfold rn
    rw [if_pos ht8]
    exact h4 t ht8
  · cases β1 <;> cases he
end
