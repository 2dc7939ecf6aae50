/-! the reference reads terms: each number of the row gets a cell -/
section
variable {N n A : Nat} {ct ar : Nat → Nat} {pk : Nat → Int32} {fp : Int32} {rw : Nat → Int32}
def sumA (ar : Nat → Nat) (rw : Nat → Int32) : Nat → Nat
  | 0 => 0
  | q + 1 => sumA ar rw q + aw ar (rw q)
def nmS (ar : Nat → Nat) (A : Nat) (rw : Nat → Int32) (x : Nat × Nat) : Nat := if x.1 = 0 then x.2 else A + sumA ar rw (x.1 - 1) + x.2
def kp (ar : Nat → Nat) (A : Nat) (rw : Nat → Int32) (p : Nat) : Nat := nmS ar A rw (hd (Ls ar A rw p))
theorem sl_map (h : Nat) (f : Nat × Nat → Nat) : ∀ d a, (sl h a d).map f = (List.range' a d).map fun k => f (h, k) := by
  intro d
  induction d with
  | zero => intro a; rfl
  | succ d ih => intro a; rw [sl, List.map_cons, ih, List.range'_succ, List.map_cons]
theorem kp_nodup : ∀ p, (∀ q, q < p → Ls ar A rw q ≠ []) → ((List.range p).map (kp ar A rw) ++ (Ls ar A rw p).map (nmS ar A rw)).Nodup ∧ (∀ y, y ∈ (List.range p).map (kp ar A rw) ++ (Ls ar A rw p).map (nmS ar A rw) → y < A + sumA ar rw p) ∧ (Ls ar A rw p).length + p = A + sumA ar rw p := by
  intro p
  induction p with
  | zero =>
    intro _
    have e : (Ls ar A rw 0).map (nmS ar A rw) = List.range A := by
      rw [Ls, sl_map, List.range_eq_range']
      have : (fun k => nmS ar A rw (0, k)) = id := by funext k; rfl
      rw [this, List.map_id]
    rw [List.range_zero, List.map_nil, List.nil_append, e]
    exact ⟨List.nodup_range, fun y hy => by have := List.mem_range.mp hy; simp [sumA]; omega, by rw [Ls, sl_len]; rfl⟩
  | succ p ih =>
    intro h
    obtain ⟨i1, i2, i3⟩ := ih (fun q hq => h q (by omega))
    have hne := h p (by omega)
    have hL := hd_tail hne
    have e1 : (Ls ar A rw p).map (nmS ar A rw) = kp ar A rw p :: (Ls ar A rw p).tail.map (nmS ar A rw) := by
      conv => lhs; rw [hL]
      rw [List.map_cons]
      rfl
    have e2 : (Ls ar A rw (p + 1)).map (nmS ar A rw) = (List.range (aw ar (rw p))).map (fun k => A + sumA ar rw p + k) ++ (Ls ar A rw p).tail.map (nmS ar A rw) := by
      rw [Ls, List.map_append, sl_map, ← List.range_eq_range']
      rfl
    rw [e1] at i1 i2
    have hperm : ((List.range (p + 1)).map (kp ar A rw) ++ (Ls ar A rw (p + 1)).map (nmS ar A rw)).Perm (((List.range p).map (kp ar A rw) ++ kp ar A rw p :: (Ls ar A rw p).tail.map (nmS ar A rw)) ++ (List.range (aw ar (rw p))).map (fun k => A + sumA ar rw p + k)) := by
      rw [e2, List.range_succ, List.map_append, List.append_assoc, List.append_assoc]
      refine List.Perm.append_left _ ?_
      show (kp ar A rw p :: (_ ++ _)).Perm (kp ar A rw p :: (_ ++ _))
      exact List.Perm.cons _ (by rw [List.map_nil, List.nil_append]; exact List.perm_append_comm)
    have hnew : ((List.range (aw ar (rw p))).map (fun k => A + sumA ar rw p + k)).Nodup := by
      rw [List.nodup_iff_pairwise_ne, List.pairwise_map]
      exact List.pairwise_lt_range.imp (fun h => by omega)
    refine ⟨?_, fun y hy => ?_, ?_⟩
    · rw [hperm.nodup_iff, List.nodup_append]
      refine ⟨i1, hnew, fun a ha b hb => ?_⟩
      have := i2 a ha
      obtain ⟨k, -, e⟩ := List.mem_map.mp hb
      omega
    · rw [hperm.mem_iff] at hy
      rcases List.mem_append.mp hy with q | q
      · have := i2 y q
        rw [sumA]
        omega
      · obtain ⟨k, hk, e⟩ := List.mem_map.mp q
        have := List.mem_range.mp hk
        rw [sumA]
        omega
    · have := tail_len hne
      rw [Ls, List.length_append, sl_len, sumA]
      omega
theorem kp_ne {p q : Nat} (hq : q < p) (h : ∀ q, q ≤ p → Ls ar A rw q ≠ []) : kp ar A rw q ≠ kp ar A rw p := by
  have h1 := (kp_nodup (ar := ar) (A := A) (rw := rw) (p + 1) (fun q hq => h q (by omega))).1
  rw [List.nodup_append] at h1
  have h2 := h1.1
  rw [List.nodup_iff_pairwise_ne, List.pairwise_map, List.range_succ, List.pairwise_append] at h2
  exact h2.2.2 q (List.mem_range.mpr hq) p (by simp)
theorem kp_lt {p : Nat} (h : ∀ q, q ≤ p → Ls ar A rw q ≠ []) : kp ar A rw p < A + sumA ar rw (p + 1) := by
  have h1 := (kp_nodup (ar := ar) (A := A) (rw := rw) (p + 1) (fun q hq => h q (by omega))).2.1
  refine h1 _ (List.mem_append_left _ (List.mem_map.mpr ⟨p, by simp, rfl⟩))
def KsM (ar : Nat → Nat) (A : Nat) (rw : Nat → Int32) (L : Sl) (m : St) : Prop := gF m 6 = nI L.length ∧ ∀ i x, L[i]? = some x → gA m 10 (L.length - 1 - i) = nI (nmS ar A rw x)
theorem KsM.push {L : Sl} {m m' : St} (h : KsM ar A rw L m) (x : Nat × Nat) (e6 : gF m' 6 = nI (L.length + 1)) (e10 : gA m' 10 = upd (gA m 10) L.length (nI (nmS ar A rw x))) : KsM ar A rw (x :: L) m' := by
  refine ⟨e6, fun i y hy => ?_⟩
  rw [e10]
  cases i with
  | zero =>
    cases hy
    rw [show (x :: L).length - 1 - 0 = L.length by simp, upd_s]
  | succ i =>
    have hy' : L[i]? = some y := hy
    have hi : i < L.length := (List.getElem?_eq_some_iff.mp hy').1
    rw [show (x :: L).length - 1 - (i + 1) = L.length - 1 - i by simp; omega, upd_n _ _ (by omega)]
    exact h.2 i y hy'
theorem readK_loop (k87 : Int32 → St → Rs) {L : Sl} {h a b x2 cc : Nat} (hL : L.length + a ≤ 700) (hcc : cc < 1200) (hnum : ∀ k, k < a → nmS ar A rw (h, k) = b + k) :
    ∀ (k w : Nat) (m : St), k ≤ a → k < w → gA m 27 cc = nI b → KsM ar A rw (sl h k (a - k) ++ L) m → ∃ m', F_X9_read_175 k87 w (nI x2) (nI cc) (hI k) m = F_X9_read_214 k87 (nI x2) m' ∧ KsM ar A rw (sl h 0 a ++ L) m' ∧ (∀ j, j ≠ 6 → gF m' j = gF m j) ∧ ∀ j, j ≠ 10 → gA m' j = gA m j := by
  intro k
  induction k with
  | zero =>
    intro w m hk hw h27 hS
    obtain ⟨w, rfl⟩ : ∃ z, w = z + 1 := ⟨w - 1, by omega⟩
    rw [F_X9_read_175, if_pos hI_neg0]
    exact ⟨m, rfl, by rwa [Nat.sub_zero] at hS, fun _ _ => rfl, fun _ _ => rfl⟩
  | succ k ih =>
    intro w m hk hw h27 hS
    obtain ⟨w, rfl⟩ : ∃ z, w = z + 1 := ⟨w - 1, by omega⟩
    have hlen : (sl h (k + 1) (a - (k + 1)) ++ L).length = a - (k + 1) + L.length := by rw [List.length_append, sl_len]
    obtain ⟨l, hl⟩ : ∃ l, (sl h (k + 1) (a - (k + 1)) ++ L).length = l := ⟨_, rfl⟩
    have h6 := hS.1
    rw [hl] at h6
    rw [F_X9_read_175, hI_m1, hI_s, if_neg (nI_pos (by omega)), ck_in hcc (by omega), bd_r, nI_clamp (n := cc) (by omega), h27, h6, ck_in (by omega) (by omega), bd_r, nI_clamp (n := l) (by omega), nI_add]
    obtain ⟨m1, hm1⟩ : ∃ m1, sA m 10 (upd (gA m 10) l (nI (b + k))) = m1 := ⟨_, rfl⟩
    have g1 : gF m1 6 = nI l := by rw [← hm1]; exact h6
    rw [hm1, g1, nI_1, bd_r]
    obtain ⟨m2, hm2⟩ : ∃ m2, sF m1 6 (nI (l + 1)) = m2 := ⟨_, rfl⟩
    rw [hm2]
    obtain ⟨m', r1, r2, r3, r4⟩ := ih w m2 (by omega) (by omega) (by rw [← hm2, ← hm1]; exact h27) (by
      rw [show a - k = (a - (k + 1)) + 1 by omega, sl, List.cons_append]
      refine hS.push (h, k) ?_ ?_
      · rw [hl, ← hm2]; rfl
      · rw [hl, hnum k (by omega), ← hm2, ← hm1]; rfl)
    refine ⟨m', r1, r2, fun j j1 => ?_, fun j j1 => ?_⟩
    · rw [r3 j j1, ← hm2, gF_sF, if_neg j1, ← hm1]; rfl
    · rw [r4 j j1, ← hm2, gA_sF, ← hm1, gA_sA, if_neg j1]
/-- the row's cells -/
def RCl (ar : Nat → Nat) (A : Nat) (rw : Nat → Int32) (p : Nat) (m : St) : Prop := ∀ q, q < p → gA m 26 (kp ar A rw q) = rw q ∧ (¬ rw q < 0 → gA m 27 (kp ar A rw q) = nI (A + sumA ar rw q))
theorem read_loop {tm : Bool} (hn : n ≤ 160) (hN : N ≤ 60) (hA : A ≤ 6) (hok : ∀ q, q < n → okP N ct ar pk A fp tm rw q = true) (hcon : ∀ i, i < N → ar i ≤ 4) :
    ∀ (d w p : Nat) (m : St), p + d = n → d < w → gF m 5 = nI n → (∀ i, i < n → gA m 4 i = rw i) → (∀ i, i < N → gA m 2 i = nI (ar i)) → KsM ar A rw (Ls ar A rw p) m → RCl ar A rw p m → gF m 15 = nI (A + sumA ar rw p) → ∃ m', F_X9_read_87 w (nI p) m = F_X9_read_220 m' ∧ RCl ar A rw n m' ∧ gF m' 15 = nI (A + sumA ar rw n) ∧ (∀ j, j ≠ 6 → j ≠ 15 → gF m' j = gF m j) ∧ ∀ j, j ≠ 10 → j ≠ 26 → j ≠ 27 → gA m' j = gA m j := by
  have hne : ∀ q, q < n → Ls ar A rw q ≠ [] := fun q hq => (okP_fit (hok q hq)).1
  have haw : ∀ q, q < n → aw ar (rw q) ≤ 4 := by
    intro q hq
    unfold aw
    by_cases hv : rw q < 0
    · rw [if_pos hv]; omega
    · obtain ⟨i, hi, e⟩ := (okP_fit (hok q hq)).2 hv
      rw [if_neg hv, e, nI_clamp (by omega)]
      exact hcon i hi
  intro d
  induction d with
  | zero =>
    intro w p m hp hw h5 h4 h2 hS hC h15
    obtain ⟨w, rfl⟩ : ∃ z, w = z + 1 := ⟨w - 1, by omega⟩
    have : p = n := by omega
    subst this
    rw [F_X9_read_87, h5, if_pos (nI_le (Nat.le_refl _) (by omega))]
    exact ⟨m, rfl, hC, h15, fun _ _ _ => rfl, fun _ _ _ _ => rfl⟩
  | succ d ih =>
    intro w p m hp hw h5 h4 h2 hS hC h15
    obtain ⟨w, rfl⟩ : ∃ z, w = z + 1 := ⟨w - 1, by omega⟩
    have hlen := Ls_len (ar := ar) (A := A) (rw := rw) p (fun q hq => haw q (by omega))
    have hnep := hne p (by omega)
    have hL := hd_tail hnep
    have htl := tail_len hnep
    obtain ⟨t, ht⟩ : ∃ t, (Ls ar A rw p).tail = t := ⟨_, rfl⟩
    rw [ht] at hL htl
    obtain ⟨s1, s2⟩ := hS
    rw [htl] at s1
    have y1 := s2 0 (hd (Ls ar A rw p)) (by rw [hL]; rfl)
    rw [htl, show t.length + 1 - 1 - 0 = t.length by omega] at y1
    have y1' : gA m 10 t.length = nI (kp ar A rw p) := y1
    have hkp := kp_lt (ar := ar) (A := A) (rw := rw) (p := p) (fun q hq => hne q (by omega))
    have hks := (kp_nodup (ar := ar) (A := A) (rw := rw) (p + 1) (fun q hq => hne q (by omega))).2.2
    have hlen1 := Ls_len (ar := ar) (A := A) (rw := rw) (p + 1) (fun q hq => haw q (by omega))
    have hkpb : kp ar A rw p < 1200 := by omega
    rw [F_X9_read_87, h5, if_neg (nI_ge (by omega) (by omega)), s1, sub1, bd_r]
    obtain ⟨m1, hm1⟩ : ∃ m1, sF m 6 (nI t.length) = m1 := ⟨_, rfl⟩
    have g1 : gF m1 6 = nI t.length := by rw [← hm1]; rfl
    have a1 : ∀ j, gA m1 j = gA m j := fun j => by rw [← hm1]; rfl
    rw [hm1, g1, ck_in (by omega) (by omega), bd_r, nI_clamp (n := t.length) (by omega), a1 10, y1', ck_in (by omega) (by omega), bd_r, nI_clamp (n := p) (by omega), a1 4, h4 p (by omega), ck_in hkpb (by omega), bd_r, nI_clamp (n := kp ar A rw p) (by omega)]
    obtain ⟨m2, hm2⟩ : ∃ m2, sA m1 26 (upd (gA m1 26) (kp ar A rw p) (rw p)) = m2 := ⟨_, rfl⟩
    have a2 : ∀ j, j ≠ 26 → gA m2 j = gA m j := fun j j1 => by rw [← hm2, gA_sA, if_neg j1, a1]
    have f2 : ∀ j, j ≠ 6 → gF m2 j = gF m j := fun j j1 => by rw [← hm2, gF_sA, ← hm1, gF_sF, if_neg j1]
    have b26 : gA m2 26 = upd (gA m 26) (kp ar A rw p) (rw p) := by rw [← hm2, gA_sA_s, a1]
    rw [hm2, ck_in (by omega) (by omega), bd_r, a2 4 (by omega), h4 p (by omega)]
    have hSt : KsM ar A rw t m2 := by
      refine ⟨by rw [← hm2]; exact g1, fun i y hy => ?_⟩
      have hi : i < t.length := (List.getElem?_eq_some_iff.mp hy).1
      have := s2 (i + 1) y (by rw [hL]; exact hy)
      rw [htl, show t.length + 1 - 1 - (i + 1) = t.length - 1 - i by omega] at this
      rw [a2 10 (by omega)]
      exact this
    have hold : ∀ q, q < p → kp ar A rw q ≠ kp ar A rw p := fun q hq => kp_ne hq (fun q' hq' => hne q' (by omega))
    by_cases hv : rw p < 0
    · have ha : aw ar (rw p) = 0 := if_pos hv
      rw [if_neg (Int32.not_le.mpr hv), F_X9_read_214, nI_1]
      have hLs : Ls ar A rw (p + 1) = t := by rw [Ls, ha, sl, List.nil_append, ht]
      have hsu : sumA ar rw (p + 1) = sumA ar rw p := by rw [sumA, ha]; rfl
      obtain ⟨m', r1, r2, r3, r4, r5⟩ := ih w (p + 1) m2 (by omega) (by omega) (by rw [f2 5 (by omega)]; exact h5) (fun i hi => by rw [a2 4 (by omega)]; exact h4 i hi) (fun i hi => by rw [a2 2 (by omega)]; exact h2 i hi) (by rw [hLs]; exact hSt) (by
        intro q hq
        rw [b26, a2 27 (by omega)]
        by_cases hqp : q = p
        · rw [hqp, upd_s]; exact ⟨rfl, fun z => absurd hv z⟩
        · rw [upd_n _ _ (hold q (by omega))]; exact hC q (by omega)) (by rw [f2 15 (by omega), hsu]; exact h15)
      exact ⟨m', r1, r2, r3, fun j j1 j2 => by rw [r4 j j1 j2, f2 j j1], fun j j1 j2 j3 => by rw [r5 j j1 j2 j3, a2 j j2]⟩
    · obtain ⟨i, hi, e⟩ := (okP_fit (hok p (by omega))).2 hv
      have hai := hcon i hi
      have ha : aw ar (rw p) = ar i := by unfold aw; rw [if_neg hv, e, nI_clamp (by omega)]
      rw [if_pos (Int32.not_lt.mp hv), ck_in (by omega) (by omega), bd_r, e, ck_in (by omega) (by omega), bd_r, nI_clamp (n := i) (by omega), a2 2 (by omega), h2 i hi, F_X9_newCells, f2 15 (by omega), h15, nI_add, bd_r]
      obtain ⟨m3, hm3⟩ : ∃ m3, sF m2 15 (nI (A + sumA ar rw p + ar i)) = m3 := ⟨_, rfl⟩
      have g3 : gF m3 15 = nI (A + sumA ar rw p + ar i) := by rw [← hm3]; rfl
      have a3 : ∀ j, gA m3 j = gA m2 j := fun j => by rw [← hm3]; rfl
      rw [hm3, g3, pk_sub (by omega), show A + sumA ar rw p + ar i - ar i = A + sumA ar rw p by omega, bo_s, ck_in hkpb (by omega), bd_r]
      obtain ⟨m4, hm4⟩ : ∃ m4, sA m3 27 (upd (gA m3 27) (kp ar A rw p) (nI (A + sumA ar rw p))) = m4 := ⟨_, rfl⟩
      have a4 : ∀ j, j ≠ 26 → j ≠ 27 → gA m4 j = gA m j := fun j j1 j2 => by rw [← hm4, gA_sA, if_neg j2, a3, a2 j j1]
      have b426 : gA m4 26 = upd (gA m 26) (kp ar A rw p) (rw p) := by rw [← hm4, gA_sA, if_neg (by omega), a3, b26]
      have b427 : gA m4 27 = upd (gA m 27) (kp ar A rw p) (nI (A + sumA ar rw p)) := by rw [← hm4, gA_sA_s, a3, a2 27 (by omega)]
      have f4 : ∀ j, j ≠ 6 → j ≠ 15 → gF m4 j = gF m j := fun j j1 j2 => by rw [← hm4, gF_sA, ← hm3, gF_sF, if_neg j2, f2 j j1]
      rw [hm4, ck_in (by omega) (by omega), bd_r, a4 4 (by omega) (by omega), h4 p (by omega), e, ck_in (by omega) (by omega), bd_r, nI_clamp (n := i) (by omega), a4 2 (by omega) (by omega), h2 i hi, sub_hI, bd_r]
      have hSt4 : KsM ar A rw (sl (p + 1) (ar i) (ar i - ar i) ++ t) m4 := by
        rw [Nat.sub_self]
        refine ⟨by rw [← hm4, gF_sA, ← hm3, gF_sF, if_neg (by omega)]; exact hSt.1, fun j y hy => ?_⟩
        rw [a4 10 (by omega) (by omega), ← a2 10 (by omega)]
        exact hSt.2 j y hy
      obtain ⟨m5, q1, q2, q3, q4⟩ := readK_loop (F_X9_read_87 w) (L := t) (h := p + 1) (a := ar i) (b := A + sumA ar rw p) (x2 := p) (cc := kp ar A rw p) (by omega) hkpb (fun k hk => by unfold nmS; rw [if_neg (by simp)]; rfl) (ar i) 5000 m4 (Nat.le_refl _) (by omega) (by rw [b427, upd_s]) hSt4
      rw [q1, F_X9_read_214, nI_1]
      have hLs : Ls ar A rw (p + 1) = sl (p + 1) 0 (ar i) ++ t := by rw [Ls, ha, ht]
      have hsu : A + sumA ar rw (p + 1) = A + sumA ar rw p + ar i := by rw [sumA, ha]; omega
      obtain ⟨m', r1, r2, r3, r4, r5⟩ := ih w (p + 1) m5 (by omega) (by omega) (by rw [q3 5 (by omega), f4 5 (by omega) (by omega)]; exact h5) (fun j hj => by rw [q4 4 (by omega), a4 4 (by omega) (by omega)]; exact h4 j hj) (fun j hj => by rw [q4 2 (by omega), a4 2 (by omega) (by omega)]; exact h2 j hj) (by rw [hLs]; exact q2) (by
        intro q hq
        rw [q4 26 (by omega), q4 27 (by omega), b426, b427]
        by_cases hqp : q = p
        · rw [hqp, upd_s, upd_s]; exact ⟨rfl, fun _ => rfl⟩
        · rw [upd_n _ _ (hold q (by omega)), upd_n _ _ (hold q (by omega))]; exact hC q (by omega)) (by rw [q3 15 (by omega), hsu, ← hm4, gF_sA]; exact g3)
      exact ⟨m', r1, r2, r3, fun j j1 j2 => by rw [r4 j j1 j2, q3 j j1, f4 j j1 j2], fun j j1 j2 j3 => by rw [r5 j j1 j2 j3, q4 j j1, a4 j j2 j3]⟩
theorem read_names : ∀ (d w i : Nat) (m : St), i + d = 8 → d < w → (∀ v, v < i → gA m 28 v = -1) → ∃ m', F_X9_read_13 w (nI i) m = F_X9_read_32 m' ∧ (∀ v, v < 8 → gA m' 28 v = -1) ∧ (∀ j, gF m' j = gF m j) ∧ ∀ j, j ≠ 28 → gA m' j = gA m j := by
  intro d
  induction d with
  | zero =>
    intro w i m hi hw h
    obtain ⟨w, rfl⟩ : ∃ z, w = z + 1 := ⟨w - 1, by omega⟩
    rw [F_X9_read_13, if_pos (show (8 : Int32) ≤ nI i from nI_le (a := 8) (by omega) (by omega))]
    exact ⟨m, rfl, fun v hv => h v (by omega), fun _ => rfl, fun _ _ => rfl⟩
  | succ d ih =>
    intro w i m hi hw h
    obtain ⟨w, rfl⟩ : ∃ z, w = z + 1 := ⟨w - 1, by omega⟩
    rw [F_X9_read_13, if_neg (show ¬ (8 : Int32) ≤ nI i from nI_ge (b := 8) (by omega) (by omega)), ck_in (by omega) (by omega), bd_r, nI_clamp (by omega), nI_1]
    obtain ⟨m', r1, r2, r3, r4⟩ := ih w (i + 1) (sA m 28 (upd (gA m 28) i (-1))) (by omega) (by omega) (fun v hv => by
      rw [gA_sA_s]
      by_cases hvi : v = i
      · rw [hvi, upd_s]
      · rw [upd_n _ _ hvi]; exact h v (by omega))
    exact ⟨m', r1, r2, fun j => by rw [r3]; rfl, fun j j1 => by rw [r4 j j1, gA_sA, if_neg j1]⟩
theorem readA_loop (hA : A ≤ 6) :
    ∀ (k w : Nat) (m : St), k ≤ A → k < w → KsM ar A rw (sl 0 k (A - k)) m → ∃ m', F_X9_read_53 w (nI 0) (hI k) m = F_X9_read_85 m' ∧ KsM ar A rw (sl 0 0 A) m' ∧ (∀ j, j ≠ 6 → gF m' j = gF m j) ∧ ∀ j, j ≠ 10 → gA m' j = gA m j := by
  intro k
  induction k with
  | zero =>
    intro w m hk hw hS
    obtain ⟨w, rfl⟩ : ∃ z, w = z + 1 := ⟨w - 1, by omega⟩
    rw [F_X9_read_53, if_pos hI_neg0]
    exact ⟨m, rfl, by rwa [Nat.sub_zero] at hS, fun _ _ => rfl, fun _ _ => rfl⟩
  | succ k ih =>
    intro w m hk hw hS
    obtain ⟨w, rfl⟩ : ∃ z, w = z + 1 := ⟨w - 1, by omega⟩
    have hlen : (sl 0 (k + 1) (A - (k + 1))).length = A - (k + 1) := sl_len _ _ _
    obtain ⟨l, hl⟩ : ∃ l, (sl 0 (k + 1) (A - (k + 1))).length = l := ⟨_, rfl⟩
    have h6 := hS.1
    rw [hl] at h6
    rw [F_X9_read_53, hI_m1, hI_s, if_neg (nI_pos (by omega)), h6, ck_in (by omega) (by omega), bd_r, nI_clamp (n := l) (by omega), nI_add]
    obtain ⟨m1, hm1⟩ : ∃ m1, sA m 10 (upd (gA m 10) l (nI (0 + k))) = m1 := ⟨_, rfl⟩
    have g1 : gF m1 6 = nI l := by rw [← hm1]; exact h6
    rw [hm1, g1, nI_1, bd_r]
    obtain ⟨m2, hm2⟩ : ∃ m2, sF m1 6 (nI (l + 1)) = m2 := ⟨_, rfl⟩
    rw [hm2]
    obtain ⟨m', r1, r2, r3, r4⟩ := ih w m2 (by omega) (by omega) (by
      rw [show A - k = (A - (k + 1)) + 1 by omega, sl]
      refine hS.push (0, k) ?_ ?_
      · rw [hl, ← hm2]; rfl
      · rw [hl, ← hm2, ← hm1]
        show upd (gA m 10) l (nI (0 + k)) = upd (gA m 10) l (nI k)
        rw [Nat.zero_add])
    refine ⟨m', r1, r2, fun j j1 => ?_, fun j j1 => ?_⟩
    · rw [r3 j j1, ← hm2, gF_sF, if_neg j1, ← hm1]; rfl
    · rw [r4 j j1, ← hm2, gA_sF, ← hm1, gA_sA, if_neg j1]
theorem read_eq {tm : Bool} (hn : n ≤ 160) (hN : N ≤ 60) (hA : A ≤ 6) (hw : wrA N ct ar pk A fp tm rw n 0 = none) (hcon : ∀ i, i < N → ar i ≤ 4) {m : St} (h2f : gF m 2 = nI A) (h5 : gF m 5 = nI n) (h4 : ∀ i, i < n → gA m 4 i = rw i) (h2 : ∀ i, i < N → gA m 2 i = nI (ar i)) :
    ∃ m', F_X9_read m = some (0, m') ∧ RCl ar A rw n m' ∧ gF m' 15 = nI n ∧ gF m' 16 = nI 8 ∧ (∀ v, v < 8 → gA m' 28 v = -1) ∧ gF m' 5 = 0 ∧ (∀ j, j ≠ 5 → j ≠ 6 → j ≠ 15 → j ≠ 16 → gF m' j = gF m j) ∧ ∀ j, j ≠ 10 → j ≠ 26 → j ≠ 27 → j ≠ 28 → gA m' j = gA m j := by
  obtain ⟨k1, k2⟩ := wrA_none n 0 hw
  rw [Nat.zero_add] at k2
  have hok : ∀ q, q < n → okP N ct ar pk A fp tm rw q = true := fun q hq => k1 q (Nat.zero_le q) (by omega)
  have hsum : A + sumA ar rw n = n := by
    have := (kp_nodup (ar := ar) (A := A) (rw := rw) n (fun q hq => (okP_fit (hok q hq)).1)).2.2
    rw [k2] at this
    simp at this
    omega
  unfold F_X9_read
  rw [bd_r, bd_r]
  obtain ⟨m0, hm0⟩ : ∃ m0, sF (sF m 15 0) 16 8 = m0 := ⟨_, rfl⟩
  have f0 : ∀ j, j ≠ 15 → j ≠ 16 → gF m0 j = gF m j := fun j j1 j2 => by rw [← hm0, gF_sF, if_neg j2, gF_sF, if_neg j1]
  have a0 : ∀ j, gA m0 j = gA m j := fun j => by rw [← hm0]; rfl
  rw [hm0]
  obtain ⟨m1, e1, e2, e3, e4⟩ := read_names 8 5000 0 m0 (by omega) (by omega) (fun v hv => by omega)
  have e1' : F_X9_read_13 5000 0 m0 = _ := e1
  have g15 : gF m1 15 = 0 := by rw [e3, ← hm0]; rfl
  rw [e1', F_X9_read_32, F_X9_newCells, e3 2, f0 2 (by omega) (by omega), h2f, g15, show (0 : Int32) + nI A = nI A from by rw [show (0 : Int32) = nI 0 from rfl, nI_add, Nat.zero_add], bd_r]
  obtain ⟨m2, hm2⟩ : ∃ m2, sF m1 15 (nI A) = m2 := ⟨_, rfl⟩
  have g2 : gF m2 15 = nI A := by rw [← hm2]; rfl
  rw [hm2, g2, pk_sub (Nat.le_refl A), Nat.sub_self, bo_s, bd_r]
  obtain ⟨m3, hm3⟩ : ∃ m3, sF m2 6 0 = m3 := ⟨_, rfl⟩
  have f3 : ∀ j, j ≠ 6 → j ≠ 15 → gF m3 j = gF m1 j := fun j j1 j2 => by rw [← hm3, gF_sF, if_neg j1, ← hm2, gF_sF, if_neg j2]
  have a3 : ∀ j, gA m3 j = gA m1 j := fun j => by rw [← hm3, ← hm2]; rfl
  rw [hm3, f3 2 (by omega) (by omega), e3 2, f0 2 (by omega) (by omega), h2f, sub_hI, bd_r]
  obtain ⟨m4, q1, q2, q3, q4⟩ := readA_loop (ar := ar) (rw := rw) hA A 5000 m3 (Nat.le_refl _) (by omega) (by
    rw [Nat.sub_self]
    exact ⟨by rw [← hm3]; rfl, fun i x hx => by simp [sl] at hx⟩)
  rw [q1, F_X9_read_85]
  obtain ⟨m5, r1, r2, r3, r4, r5⟩ := read_loop hn hN hA hok hcon n 5000 0 m4 (by omega) (by omega) (by rw [q3 5 (by omega), f3 5 (by omega) (by omega), e3, f0 5 (by omega) (by omega)]; exact h5) (fun i hi => by rw [q4 4 (by omega), a3, e4 4 (by omega), a0]; exact h4 i hi) (fun i hi => by rw [q4 2 (by omega), a3, e4 2 (by omega), a0]; exact h2 i hi) q2 (fun q hq => by omega) (by rw [q3 15 (by omega), ← hm3, gF_sF, if_neg (by omega)]; exact g2)
  have r1' : F_X9_read_87 5000 0 m4 = _ := r1
  rw [r1', F_X9_read_220, bd_r]
  refine ⟨_, rfl, r2, ?_, ?_, fun v hv => ?_, rfl, fun j j1 j2 j3 j4 => ?_, fun j j1 j2 j3 j4 => ?_⟩
  · rw [gF_sF, if_neg (by omega), r3, hsum]
  · rw [gF_sF, if_neg (by omega), r4 16 (by omega) (by omega), q3 16 (by omega), f3 16 (by omega) (by omega), e3, ← hm0]; rfl
  · rw [gA_sF, r5 28 (by omega) (by omega) (by omega), q4 28 (by omega), a3]; exact e2 v hv
  · rw [gF_sF, if_neg j1, r4 j j2 j3, q3 j j2, f3 j j2 j3, e3, f0 j j3 j4]
  · rw [gA_sF, r5 j j1 j2 j3, q4 j j1, a3, e4 j j4, a0]
end
