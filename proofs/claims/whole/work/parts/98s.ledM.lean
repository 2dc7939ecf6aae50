/-! the reference leads -/
section
variable {N n A R : Nat} {ct ar : Nat → Nat} {pk : Nat → Int32} {rw : Nat → Int32} {te : Nat → Nat} {κ kb : Nat → Nat} {ln : Nat → Nat} {sy : Nat → Nat → Int32} {en wt : Nat → Nat → Nat}
/-- what some outcomes leave -/
def FdL (n : Nat) (rw : Nat → Int32) (ar : Nat → Nat) (k : Nat) (outs : List Ot) (m m' : St) : Prop :=
  gF m' 20 = nI (k + outs.length) ∧ gF m' 21 = gF m 21 ∧ (gF m 21 = -1 → ((∀ o, o ∈ outs → shO n rw ar o) → gF m' 26 = gF m 26) ∧ ((¬ ∀ o, o ∈ outs → shO n rw ar o) → gF m' 26 = 1)) ∧
  ∀ j, j < 2 ^ 31 → gF m 21 = nI j → (∀ o, o ∈ outs → shO n rw ar o) → gF m' 26 = gF m 26 ∧ (∀ o, k ≤ j → outs[j - k]? = some o → FF n rw ar o m') ∧ (j < k ∨ k + outs.length ≤ j → (∀ i, 22 ≤ i → i ≤ 25 → gF m' i = gF m i) ∧ gA m' 30 = gA m 30)
theorem FdL.nil {k : Nat} {m m' : St} (h : ∀ j, 20 ≤ j → j ≤ 26 → gF m' j = gF m j) (h30 : gA m' 30 = gA m 30) (h20 : gF m 20 = nI k) : FdL n rw ar k [] m m' := by
  refine ⟨by rw [h 20 (by omega) (by omega)]; exact h20, h 21 (by omega) (by omega), fun _ => ⟨fun _ => h 26 (by omega) (by omega), fun hn => absurd (fun o ho => by cases ho) hn⟩, fun j _ _ _ => ⟨h 26 (by omega) (by omega), fun o _ ho => by simp at ho, fun _ => ⟨fun i i1 i2 => h i (by omega) (by omega), h30⟩⟩⟩
theorem FF.kept {o : Ot} {m m' : St} (h : FF n rw ar o m) (h1 : ∀ j, 22 ≤ j → j ≤ 25 → gF m' j = gF m j) (h2 : gA m' 30 = gA m 30) : FF n rw ar o m' := by
  unfold FF
  rw [h1 22 (by omega) (by omega), h1 23 (by omega) (by omega), h1 24 (by omega) (by omega), h1 25 (by omega) (by omega), h2]
  exact h
theorem FdL.app {k : Nat} {o1 o2 : List Ot} {m m1 m2 : St} (h1 : FdL n rw ar k o1 m m1) (h2 : FdL n rw ar (k + o1.length) o2 m1 m2) : FdL n rw ar k (o1 ++ o2) m m2 := by
  obtain ⟨a1, a2, a3, a4⟩ := h1
  obtain ⟨b1, b2, b3, b4⟩ := h2
  refine ⟨by rw [b1, List.length_append, Nat.add_assoc], by rw [b2, a2], fun hm => ?_, fun j hj hs hall => ?_⟩
  · obtain ⟨c1, c2⟩ := a3 hm
    obtain ⟨d1, d2⟩ := b3 (by rw [a2]; exact hm)
    refine ⟨fun hall => ?_, fun hn => ?_⟩
    · rw [d1 (fun o ho => hall o (List.mem_append_right _ ho)), c1 (fun o ho => hall o (List.mem_append_left _ ho))]
    · by_cases h2' : ∀ o, o ∈ o2 → shO n rw ar o
      · rw [d1 h2']
        refine c2 (fun z => hn (fun o ho => ?_))
        rcases List.mem_append.mp ho with y | y
        · exact z o y
        · exact h2' o y
      · exact d2 h2'
  · obtain ⟨c1, c2, c3⟩ := a4 j hj hs (fun o ho => hall o (List.mem_append_left _ ho))
    obtain ⟨d1, d2, d3⟩ := b4 j hj (by rw [a2]; exact hs) (fun o ho => hall o (List.mem_append_right _ ho))
    refine ⟨by rw [d1, c1], fun o hk ho => ?_, fun hout => ?_⟩
    · by_cases hj1 : j - k < o1.length
      · rw [List.getElem?_append_left hj1] at ho
        obtain ⟨e1, e2⟩ := d3 (Or.inl (by omega))
        exact (c2 o hk ho).kept e1 e2
      · rw [List.getElem?_append_right (by omega)] at ho
        exact d2 o (by omega) (by rw [show j - (k + o1.length) = j - k - o1.length by omega]; exact ho)
    · rw [List.length_append] at hout
      obtain ⟨e1, e2⟩ := c3 (by omega)
      obtain ⟨g1, g2⟩ := d3 (by omega)
      exact ⟨fun i i1 i2 => by rw [g1 i i1 i2, e1 i i1 i2], by rw [g2, e2]⟩
/-- the same, looked at from states that agree -/
theorem FdL.of {k : Nat} {o : List Ot} {m m' s s' : St} (h : FdL n rw ar k o m m') (h1 : ∀ j, 20 ≤ j → j ≤ 26 → gF s j = gF m j) (h2 : gA s 30 = gA m 30) (h3 : ∀ j, 20 ≤ j → j ≤ 26 → gF s' j = gF m' j) (h4 : gA s' 30 = gA m' 30) : FdL n rw ar k o s s' := by
  obtain ⟨a1, a2, a3, a4⟩ := h
  refine ⟨by rw [h3 20 (by omega) (by omega)]; exact a1, by rw [h3 21 (by omega) (by omega), h1 21 (by omega) (by omega)]; exact a2, fun hm => ?_, fun j hj hs hall => ?_⟩
  · rw [h1 21 (by omega) (by omega)] at hm
    rw [h3 26 (by omega) (by omega), h1 26 (by omega) (by omega)]
    exact a3 hm
  · rw [h1 21 (by omega) (by omega)] at hs
    obtain ⟨c1, c2, c3⟩ := a4 j hj hs hall
    refine ⟨by rw [h3 26 (by omega) (by omega), h1 26 (by omega) (by omega)]; exact c1, fun o hk ho => (c2 o hk ho).kept (fun i i1 i2 => h3 i (by omega) (by omega)) h4, fun hout => ?_⟩
    obtain ⟨e1, e2⟩ := c3 hout
    exact ⟨fun i i1 i2 => by rw [h3 i (by omega) (by omega), h1 i (by omega) (by omega)]; exact e1 i i1 i2, by rw [h4, h2, e2]⟩
/-- what leading a group leaves as it was -/
def LpL (n : Nat) (ar : Nat → Nat) (E TE : Nat) (g : List Nat) (op : Nat → List Nat) (tr : List Nat) (β : Bd) (m m' : St) : Prop :=
  (∀ j, j < 20 ∨ 26 < j → gF m' j = gF m j) ∧ (∀ j, j < 16 ∨ (18 < j ∧ j < 26) ∨ 32 < j → gA m' j = gA m j) ∧ (∀ j, j < E → gA m' 17 j = gA m 17 j) ∧ (∀ j, j < TE → gA m' 18 j = gA m 18 j) ∧ (∀ r, r ∈ g → seg (gA m' 16) (170 * r) (op r)) ∧ (∀ x, (∀ r, r ∈ g → offR r x) → gA m' 16 x = gA m 16 x) ∧ (∀ y, y < cz n ar β → gA m' 26 y = gA m 26 y ∧ gA m' 27 y = gA m 27 y) ∧ (∀ y, y < 8 + sz ar β → gA m' 28 y = gA m 28 y) ∧ seg (gA m' 29) 0 tr
theorem LpL.trans {E TE : Nat} {g : List Nat} {op : Nat → List Nat} {tr : List Nat} {β : Bd} {a b c : St} (h : LpL n ar E TE g op tr β a b) (h2 : LpL n ar E TE g op tr β b c) : LpL n ar E TE g op tr β a c := by
  obtain ⟨a1, a2, a3, a4, a5, a6, a7, a8, a9⟩ := h
  obtain ⟨b1, b2, b3, b4, b5, b6, b7, b8, b9⟩ := h2
  exact ⟨fun j j1 => by rw [b1 j j1, a1 j j1], fun j j1 => by rw [b2 j j1, a2 j j1], fun j j1 => by rw [b3 j j1, a3 j j1], fun j j1 => by rw [b4 j j1, a4 j j1], b5, fun x hx => by rw [b6 x hx, a6 x hx], fun y hy => ⟨by rw [(b7 y hy).1, (a7 y hy).1], by rw [(b7 y hy).2, (a7 y hy).2]⟩, fun y hy => by rw [b8 y hy, a8 y hy], b9⟩
/-- what leading a group needs -/
def LdIn (R N n A : Nat) (ct ar : Nat → Nat) (rw : Nat → Int32) (κ kb : Nat → Nat) (ln : Nat → Nat) (sy : Nat → Nat → Int32) (en : Nat → Nat → Nat) (g : List Nat) (op : Nat → List Nat) (K a E TE : Nat) (ts tr : List Nat) (β : Bd) (as af : Nat) (m : St) : Prop :=
  RuM R ln sy en m ∧ ConM N ct ar m ∧ (∀ r, r ∈ g → seg (gA m 16) (170 * r) (op r)) ∧ seg (gA m 17) a g ∧ (gF m 7 = nI K ∧ gF m 8 = nI E ∧ gF m 9 = nI TE) ∧ RT n rw ar κ kb β m ∧ gF m 2 = nI A ∧ (ts.length = K ∧ tr.length = K) ∧ (∀ s, s < K → VId n rw ar β (nth ts s) ∧ NR n ar κ β m (nth ts s) (nth tr s)) ∧ seg (gA m 29) 0 tr ∧ gF m 17 = nI as ∧ gF m 18 = nI af
theorem LdIn.next {g : List Nat} {op : Nat → List Nat} {K a E TE : Nat} {ts tr : List Nat} {β : Bd} {as af : Nat} {m m' : St} (hB : BW n N ar β) (hK : TKW n N A rw te ar κ kb) (h : LdIn R N n A ct ar rw κ kb ln sy en g op K a E TE ts tr β as af m) (hL : LpL n ar E TE g op tr β m m') (haE : a + g.length ≤ E) : LdIn R N n A ct ar rw κ kb ln sy en g op K a E TE ts tr β as af m' := by
  obtain ⟨h1, h2, h3, h4, ⟨h5, h6, h7⟩, h8, h9, h10, h11, h12, h13, h14⟩ := h
  obtain ⟨a1, a2, a3, a4, a5, a6, a7, a8, a9⟩ := hL
  refine ⟨?_, ?_, a5, fun i hi => by rw [a3 _ (by omega)]; exact h4 i hi, ⟨by rw [a1 7 (by omega)]; exact h5, by rw [a1 8 (by omega)]; exact h6, by rw [a1 9 (by omega)]; exact h7⟩, ?_, by rw [a1 2 (by omega)]; exact h9, h10, fun s hs => ?_, a9, by rw [a1 17 (by omega)]; exact h13, by rw [a1 18 (by omega)]; exact h14⟩
  · unfold RuM
    rw [a2 5 (by omega), a2 8 (by omega)]
    exact h1
  · unfold ConM
    rw [a1 1 (by omega), a2 1 (by omega), a2 2 (by omega)]
    exact h2
  · exact h8.kept hB hK (a1 15 (by omega)) (a1 16 (by omega)) (fun y hy => (a7 y hy).1) (fun y hy => (a7 y hy).2) a8
  · obtain ⟨q1, q2, q3⟩ := h11 s hs
    refine ⟨q1, q2, ?_⟩
    rw [(a7 _ q2).1]
    exact q3
def LedOK (R N n A : Nat) (ct ar : Nat → Nat) (rw : Nat → Int32) (te κ kb : Nat → Nat) (ln : Nat → Nat) (sy : Nat → Nat → Int32) (en wt : Nat → Nat → Nat) (d : Nat) (rc : Int32 → Int32 → St → Rs) : Prop :=
  ∀ (D : Nat) (g : List Nat) (op : Nat → List Nat) (K a E TE : Nat) (ts tr : List Nat) (β : Bd) (as af k : Nat) (m : St), D ≤ d → GW R ln wt g op K → (∀ r, r ∈ g → rs (en r) (op r) ≤ 160 ∧ rs (en r) (op r) + g.length ≤ D ∧ β.length + rs (en r) (op r) ≤ 160) → g.length ≤ 24 → a + g.length ≤ E → E + 24 * D ≤ 4800 → TE + 24 * D ≤ 4800 → BW n N ar β → LdIn R N n A ct ar rw κ kb ln sy en g op K a E TE ts tr β as af m → gF m 20 = nI k → k + g.length ≤ 200 →
    ∃ m', rc (nI a) (nI g.length) m = some (0, m') ∧ LpL n ar E TE g op tr β m m' ∧ FdL n rw ar k (Led N n ar rw te sy en d g op K ts β as af) m m'
theorem LdIn.K160 (hW : ∀ r, r < R → PW N ct ar pk (ln r) (sy r) (en r) (wt r)) {g : List Nat} {op : Nat → List Nat} {K : Nat} (hG : GW R ln wt g op K) (hrs : ∀ r, r ∈ g → rs (en r) (op r) ≤ 160) : K ≤ 160 := GW.K160 hW hG hrs
/-- a child of a branch is led: its spot is taken, and put back -/
theorem kid_run (hW : ∀ r, r < R → PW N ct ar pk (ln r) (sy r) (en r) (wt r)) (hT : TmW n N A rw te ar) (hK : TKW n N A rw te ar κ kb) {d : Nat} {rc : Int32 → Int32 → St → Rs} (hrc : LedOK R N n A ct ar rw te κ kb ln sy en wt d rc) {D : Nat} (hD : D ≤ d) (k183 : Int32 → Int32 → Int32 → Int32 → Int32 → Int32 → Int32 → St → Rs) (x1 x2 x5 x6 x9 x10 : Int32)
    {g : List Nat} {op : Nat → List Nat} {K E TE s i y b : Nat} {ts tr : List Nat} {β1 : Bd} {as af k : Nat} {mb : St} (hG : GW R ln wt g op K) (hrs : ∀ r, r ∈ g → rs (en r) (op r) ≤ 160 ∧ rs (en r) (op r) + g.length ≤ D + 1 ∧ β1.length + rs (en r) (op r) ≤ 161) (h24 : g.length ≤ 24) (hE : E + 24 * (D + 1) ≤ 4800) (hTE : TE + 24 * (D + 1) ≤ 4800) (hB1 : BW n N ar β1) (hs : s < K) (hi : i < N)
    (hR : RuM R ln sy en mb) (hC : ConM N ct ar mb) (hseg : ∀ r, r ∈ g → seg (gA mb 16) (170 * r) (op r)) (h17 : seg (gA mb 17) E (subG sy op s (nI i) g)) (h7 : gF mb 7 = nI K) (h8 : gF mb 8 = nI (E + (subG sy op s (nI i) g).length)) (h9 : gF mb 9 = nI TE) (hRT : RT n rw ar κ kb β1 mb) (hA2 : gF mb 2 = nI A) (htl : ts.length = K) (hrl : tr.length = K) (h29 : seg (gA mb 29) 0 tr) (ha : gF mb 17 = nI as) (hf : gF mb 18 = nI af) (hk : gF mb 20 = nI k) (hk2 : k + (subG sy op s (nI i) g).length ≤ 200) (h0 : 0 < (subG sy op s (nI i) g).length)
    (hy : y < 1200) (h27 : gA mb 27 y = nI b) (hcn : cn n rw ar β1 (nth ts s) = some i) (hvs : ∀ t, t < K → VId n rw ar β1 (nth ts t) ∧ NR n ar κ β1 mb (nth ts t) (nth tr t)) (hkid : ∀ j, j < ar i → NR n ar κ β1 mb (chT n rw te ar β1 (nth ts s) j) (b + j)) :
    ∃ me, F_X9_led_279 rc k183 x1 x2 (nI s) (nI E) x5 x6 (nI i) (nI (subG sy op s (nI i) g).length) x9 x10 (nI y) mb = (if x6 = 0 then (F_X9_led_386 rc k183 x1 x2 (nI s) (nI E) x5 x6 (nI i) x9 x10 me) else (ck (inb x5 1200) (bd (gA me 26 x5.toNatClampNeg) (fun y31 => ck (inb ((-1) - y31) 800) (bd (sA me 28 (upd (gA me 28) ((-1) - y31).toNatClampNeg (-1))) (fun s33 => F_X9_led_386 rc k183 x1 x2 (nI s) (nI E) x5 x6 (nI i) x9 x10 s33)))))) ∧
      gF me 8 = nI E ∧ (∀ j, j ≠ 8 → j < 20 ∨ 26 < j → gF me j = gF mb j) ∧ (∀ j, j < 16 ∨ (18 < j ∧ j < 26) ∨ 32 < j → gA me j = gA mb j) ∧ (∀ j, j < E → gA me 17 j = gA mb 17 j) ∧ (∀ j, j < TE → gA me 18 j = gA mb 18 j) ∧ (∀ r, r ∈ g → seg (gA me 16) (170 * r) (op r)) ∧ (∀ x, (∀ r, r ∈ g → offR r x) → gA me 16 x = gA mb 16 x) ∧ (∀ y, y < cz n ar β1 → gA me 26 y = gA mb 26 y ∧ gA me 27 y = gA mb 27 y) ∧ (∀ y, y < 8 + sz ar β1 → gA me 28 y = gA mb 28 y) ∧ seg (gA me 29) 0 tr ∧
      FdL n rw ar k (Led N n ar rw te sy en d (subG sy op s (nI i) g) (opT en op s (ar i)) (K + ar i - 1) (opL ts (kd n rw te ar β1 (nth ts s)) s) β1 as af) mb me := by
  obtain ⟨hN, har, hC1, hC2⟩ := id hC
  have hAi := har i hi
  have hGS := GW.sub hW hN hG hs hi h0
  obtain ⟨g1, g2, g3, g4⟩ := id hG
  obtain ⟨sub, hsub⟩ : ∃ sub, subG sy op s (nI i) g = sub := ⟨_, rfl⟩
  have hmem : ∀ r, r ∈ sub → r ∈ g ∧ sy r (nth (op r) s) = nI i := fun r hr => subG_mem.mp (by rw [hsub]; exact hr)
  have hlen : sub.length ≤ g.length := by rw [← hsub]; exact List.length_filter_le _ _
  rw [hsub] at hGS h0 h17 h8 hk2 ⊢
  have hnd : sub.Nodup := hGS.2.1
  have hK160 : K ≤ 160 := GW.K160 hW hG (fun r hr => (hrs r hr).1)
  have hch : ∀ r, r ∈ sub → ∀ k, k < ar i → ch (en r) (nth (op r) s + 1) k < ln r := by
    intro r hr k hk
    obtain ⟨m1, m2⟩ := hmem r hr
    obtain ⟨-, -, h5⟩ := hW r (g3 r m1).1 _ ((g3 r m1).2.2 s hs)
    rcases h5 with h5 | ⟨c', a1, a2, a3, a4, a5⟩
    · rw [m2] at h5
      exact absurd h5 (nI_ne_m1 (by omega))
    · have : c' = i := nI_inj (by omega) (by omega) (a2.symm.trans m2)
      subst this
      exact (a5 k hk).1
  have hOb : OpM R ln op K sub mb := ⟨hK160, fun r hr => ⟨(g3 r (hmem r hr).1).1, (g3 r (hmem r hr).1).2.1, hseg r (hmem r hr).1, (g3 r (hmem r hr).1).2.2⟩⟩
  obtain ⟨f1, t1, t2, t3⟩ := take_eq (TE := TE) (n := ar i) hR hOb hs (by omega) h17 (by omega) (by omega) h7 h9 hnd hch
  obtain ⟨mc, hmc⟩ : ∃ mc, sF (sA (sF (sA mb 18 (put (gA mb 18) TE (sub.map fun r => nth (op r) s))) 9 (nI (TE + sub.length))) 16 f1) 7 (nI (K + ar i - 1)) = mc := ⟨_, rfl⟩
  rw [hmc] at t3
  have fc : ∀ j, j ≠ 7 → j ≠ 9 → gF mc j = gF mb j := by
    intro j j1 j2
    rw [← hmc, gF_sF, if_neg j1, gF_sA, gF_sF, if_neg j2, gF_sA]
  have ac : ∀ j, j ≠ 16 → j ≠ 18 → gA mc j = gA mb j := by
    intro j j1 j2
    rw [← hmc, gA_sF, gA_sA, if_neg j1, gA_sF, gA_sA, if_neg j2]
  have c16 : gA mc 16 = f1 := by rw [← hmc, gA_sF, gA_sA, if_pos rfl]
  have c18 : gA mc 18 = put (gA mb 18) TE (sub.map fun r => nth (op r) s) := by rw [← hmc, gA_sF, gA_sA, if_neg (by omega), gA_sF, gA_sA, if_pos rfl]
  have c7 : gF mc 7 = nI (K + ar i - 1) := by rw [← hmc, gF_sF, if_pos rfl]
  have c9 : gF mc 9 = nI (TE + sub.length) := by rw [← hmc, gF_sF, if_neg (by omega), gF_sA, gF_sF, if_pos rfl]
  -- the terms of the spots
  obtain ⟨f2, u1, u2⟩ := shift_eq (b := b) (n := ar i) hrl hs (by omega) c7 (by rw [ac 29 (by omega) (by omega)]; exact h29)
  obtain ⟨md, hmd⟩ : ∃ md, sA mc 29 f2 = md := ⟨_, rfl⟩
  rw [hmd] at u1
  have fd : ∀ j, gF md j = gF mc j := fun j => by rw [← hmd]; rfl
  have ad : ∀ j, j ≠ 29 → gA md j = gA mc j := fun j j1 => by rw [← hmd, gA_sA, if_neg j1]
  have d29 : gA md 29 = f2 := by rw [← hmd]; exact gA_sA_s _ _ _
  have hkl := kd_len (te := te) hcn
  have hcz : ∀ y, gA md 26 y = gA mb 26 y := fun y => by rw [ad 26 (by omega), ac 26 (by omega) (by omega)]
  have hNRd : ∀ t y, NR n ar κ β1 mb t y → NR n ar κ β1 md t y := fun t y h => ⟨h.1, by rw [hcz]; exact h.2⟩
  have hRTd : RT n rw ar κ kb β1 md := hRT.kept hB1 hK (by rw [fd, fc 15 (by omega) (by omega)]) (by rw [fd, fc 16 (by omega) (by omega)]) (fun y _ => hcz y) (fun y _ => by rw [ad 27 (by omega), ac 27 (by omega) (by omega)]) (fun y _ => by rw [ad 28 (by omega), ac 28 (by omega) (by omega)])
  have hlt : (opL ts (kd n rw te ar β1 (nth ts s)) s).length = K + ar i - 1 := by rw [opL_len (by omega), hkl, htl]; omega
  have hlr : (opL tr ((List.range (ar i)).map fun j => b + j) s).length = K + ar i - 1 := by rw [opL_len (by omega), List.length_map, List.length_range, hrl]; omega
  have hval : ∀ t, t < K + ar i - 1 → VId n rw ar β1 (nth (opL ts (kd n rw te ar β1 (nth ts s)) s) t) ∧ NR n ar κ β1 md (nth (opL ts (kd n rw te ar β1 (nth ts s)) s) t) (nth (opL tr ((List.range (ar i)).map fun j => b + j) s) t) := by
    intro t ht
    by_cases t1 : t < s
    · rw [opL_lo (by omega) t1, opL_lo (by omega) t1]
      exact ⟨(hvs t (by omega)).1, hNRd _ _ (hvs t (by omega)).2⟩
    · by_cases t2 : t < s + ar i
      · obtain ⟨j, rfl⟩ : ∃ j, t = s + j := ⟨t - s, by omega⟩
        have hj : j < ar i := by omega
        rw [opL_mid (by omega) (by rw [hkl]; exact hj), opL_mid (by omega) (by simpa using hj), kd_get hcn hj]
        have e : nth ((List.range (ar i)).map fun j => b + j) j = b + j := by
          rw [gD (by simpa using hj)]
          simp
        rw [e]
        exact ⟨kid_id hT hN hB1 (hvs s hs).1 hcn hj, hNRd _ _ (hkid j hj)⟩
      · obtain ⟨j, rfl⟩ : ∃ j, t = s + ar i + j := ⟨t - s - ar i, by omega⟩
        have e1 := opL_hi (l := ts) (c := kd n rw te ar β1 (nth ts s)) (s := s) (i := j) (by omega)
        have e2 := opL_hi (l := tr) (c := (List.range (ar i)).map fun j => b + j) (s := s) (i := j) (by omega)
        rw [hkl] at e1
        rw [List.length_map, List.length_range] at e2
        rw [e1, e2]
        exact ⟨(hvs (s + 1 + j) (by omega)).1, hNRd _ _ (hvs (s + 1 + j) (by omega)).2⟩
  obtain ⟨mf, e1, e2, e3⟩ := hrc D sub (opT en op s (ar i)) (K + ar i - 1) E (E + sub.length) (TE + sub.length) (opL ts (kd n rw te ar β1 (nth ts s)) s) (opL tr ((List.range (ar i)).map fun j => b + j) s) β1 as af k md hD hGS (fun r hr => by
      have h5 := rs_take (hW r (g3 r (hmem r hr).1).1) (l := op r) (s := s) (c := i) (by rw [(g3 r (hmem r hr).1).2.1]; exact hs) ((g3 r (hmem r hr).1).2.2 s hs) (hmem r hr).2 (by omega) hN
      have h6 := hrs r (hmem r hr).1
      show rs (en r) (opL (op r) (chl (en r) (nth (op r) s + 1) (ar i)) s) ≤ 160 ∧ rs (en r) (opL (op r) (chl (en r) (nth (op r) s + 1) (ar i)) s) + sub.length ≤ D ∧ β1.length + rs (en r) (opL (op r) (chl (en r) (nth (op r) s + 1) (ar i)) s) ≤ 160
      omega) (by omega) (Nat.le_refl _) (by omega) (by omega) hB1 ⟨by
      unfold RuM
      rw [ad 5 (by omega), ad 8 (by omega), ac 5 (by omega) (by omega), ac 8 (by omega) (by omega)]
      exact hR, by
      unfold ConM
      rw [fd 1, fc 1 (by omega) (by omega), ad 1 (by omega), ad 2 (by omega), ac 1 (by omega) (by omega), ac 2 (by omega) (by omega)]
      exact hC, fun r hr => by rw [ad 16 (by omega), c16]; exact t1 r hr, by rw [ad 17 (by omega), ac 17 (by omega) (by omega)]; exact h17, ⟨by rw [fd]; exact c7, by rw [fd, fc 8 (by omega) (by omega)]; exact h8, by rw [fd]; exact c9⟩, hRTd, by rw [fd, fc 2 (by omega) (by omega)]; exact hA2, ⟨hlt, hlr⟩, hval, by rw [d29]; exact u2, by rw [fd, fc 17 (by omega) (by omega)]; exact ha, by rw [fd, fc 18 (by omega) (by omega)]; exact hf⟩ (by rw [fd, fc 20 (by omega) (by omega)]; exact hk) hk2
  obtain ⟨l1, l2, l3, l4, l5, l6, l7, l8, l9⟩ := e2
  obtain ⟨f3, p1, p2, p3⟩ := putBack_eq (R := R) (op := op) (cc := fun r => chl (en r) (nth (op r) s + 1) (ar i)) (K := K) (s := s) (a := E) (n := ar i) (TE := TE) (g := sub) (m := mf) hR.1 (fun r hr => ⟨(g3 r (hmem r hr).1).1, (g3 r (hmem r hr).1).2.1, chl_len _ _ _⟩) hs (by omega) (fun j hj => by rw [l3 _ (by omega), ad 17 (by omega), ac 17 (by omega) (by omega)]; exact h17 j hj) (by omega) (by omega) (by rw [l1 7 (by omega), fd]; exact c7) (by rw [l1 9 (by omega), fd]; exact c9) (fun j hj => by
      have hj2 : j < sub.length := by simpa using hj
      rw [l4 _ (by omega), ad 18 (by omega), c18, put_in hj]) hnd (fun r hr => l5 r hr)
  obtain ⟨mg, hmg⟩ : ∃ mg, sA (sF (sF mf 7 (nI K)) 9 (nI TE)) 16 f3 = mg := ⟨_, rfl⟩
  rw [hmg] at p3
  have fg : ∀ j, j ≠ 7 → j ≠ 9 → gF mg j = gF mf j := fun j j1 j2 => by rw [← hmg, gF_sA, gF_sF, if_neg j2, gF_sF, if_neg j1]
  have ag : ∀ j, j ≠ 16 → gA mg j = gA mf j := fun j j1 => by rw [← hmg, gA_sA, if_neg j1]; rfl
  have g16 : gA mg 16 = f3 := by rw [← hmg]; exact gA_sA_s _ _ _
  have g7 : gF mg 7 = nI K := by rw [← hmg]; rfl
  have g9 : gF mg 9 = nI TE := by rw [← hmg]; rfl
  obtain ⟨f4, v1, v2⟩ := shiftBack_eq (n := ar i) (tr := tr) (c := (List.range (ar i)).map fun j => b + j) hrl (by simp) hs (by omega) g7 (by rw [ag 29 (by omega)]; exact l9)
  obtain ⟨mh, hmh⟩ : ∃ mh, sA mg 29 f4 = mh := ⟨_, rfl⟩
  rw [hmh] at v1
  obtain ⟨me, hme⟩ : ∃ me, sF mh 8 (nI E) = me := ⟨_, rfl⟩
  have fe : ∀ j, j ≠ 7 → j ≠ 8 → j ≠ 9 → gF me j = gF mf j := fun j j1 j2 j3 => by rw [← hme, gF_sF, if_neg j2, ← hmh, gF_sA, fg j j1 j3]
  have ae : ∀ j, j ≠ 16 → j ≠ 29 → gA me j = gA mf j := fun j j1 j2 => by rw [← hme, gA_sF, ← hmh, gA_sA, if_neg j2, ag j j1]
  have e16 : gA me 16 = f3 := by rw [← hme, gA_sF, ← hmh, gA_sA, if_neg (by omega), g16]
  have e29 : gA me 29 = f4 := by rw [← hme, gA_sF, ← hmh]; exact gA_sA_s _ _ _
  have hoff : ∀ x, (∀ r, r ∈ sub → offR r x) → gA me 16 x = gA mb 16 x := by
    intro x hx
    rw [e16, p2 x hx, l6 x hx, ad 16 (by omega), c16, t2 x hx]
  have hb2 : gA mb 2 i = nI (ar i) := (hC2 i hi).2
  have hts29 : gA mb 29 s = nI (nth tr s) := by
    have := h29 s (by omega)
    rwa [Nat.zero_add] at this
  refine ⟨me, ?_, by rw [← hme]; rfl, fun j j1 j2 => ?_, fun j j1 => by rw [ae j (by omega) (by omega), l2 j (by omega), ad j (by omega), ac j (by omega) (by omega)], fun j hj => by rw [ae 17 (by omega) (by omega), l3 j (by omega), ad 17 (by omega), ac 17 (by omega) (by omega)], fun j hj => by rw [ae 18 (by omega) (by omega), l4 j (by omega), ad 18 (by omega), c18, put_out (by omega)], fun r hr => ?_, fun x hx => hoff x (fun r hr => hx r (hmem r hr).1), fun y hy => ?_, fun y hy => by rw [ae 28 (by omega) (by omega), l8 y hy, ad 28 (by omega), ac 28 (by omega) (by omega)], by rw [e29]; exact v2, ?_⟩
  · have hc2 : gA mc 2 i = nI (ar i) := by rw [ac 2 (by omega) (by omega)]; exact hb2
    have hc27 : gA mc 27 y = nI b := by rw [ac 27 (by omega) (by omega)]; exact h27
    have hf2 : gA mf 2 i = nI (ar i) := by rw [l2 2 (by omega), ad 2 (by omega)]; exact hc2
    have hg2 : gA mg 2 i = nI (ar i) := by rw [ag 2 (by omega)]; exact hf2
    unfold F_X9_led_279
    rw [ck_in (by omega) (by omega), bd_r, nI_clamp (n := s) (by omega), hts29, ck_in (by omega) (by omega), bd_r, nI_clamp (n := i) (by omega), hb2, t3, bo_s, ck_in (by omega) (by omega), bd_r, hc2, ck_in hy (by omega), bd_r, nI_clamp (n := y) (by omega), hc27, u1, bo_s, e1, bo_s, ck_in (by omega) (by omega), bd_r, hf2, p3, bo_s, ck_in (by omega) (by omega), bd_r, hg2, v1, bo_s, bd_r, hme]
  · by_cases j7 : j = 7
    · rw [j7, ← hme, gF_sF, if_neg (by omega), ← hmh, gF_sA, g7, h7]
    · by_cases j9 : j = 9
      · rw [j9, ← hme, gF_sF, if_neg (by omega), ← hmh, gF_sA, g9, h9]
      · rw [fe j j7 j1 j9, l1 j j2, fd, fc j j7 j9]
  · by_cases hrl' : r ∈ sub
    · rw [e16]; exact p1 r hrl'
    · intro t ht
      have hle := (g3 r hr).2.1
      rw [hoff (170 * r + t) (fun r' hr' => offR_of (fun q => hrl' (by rw [← q]; exact hr')) (by omega))]
      exact hseg r hr t ht
  · obtain ⟨q1, q2⟩ := l7 y hy
    rw [ae 26 (by omega) (by omega), ae 27 (by omega) (by omega), q1, q2, hcz y, ad 27 (by omega), ac 27 (by omega) (by omega)]
    exact ⟨rfl, rfl⟩
  · exact e3.of (fun j j1 j2 => by rw [fd, fc j (by omega) (by omega)]) (by rw [ad 30 (by omega), ac 30 (by omega) (by omega)]) (fun j j1 j2 => fe j (by omega) (by omega) (by omega)) (ae 30 (by omega) (by omega))
end
