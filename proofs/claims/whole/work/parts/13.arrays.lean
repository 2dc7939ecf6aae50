theorem bd_x {α : Type} {x e : α} {k : α → Rs} {y : Int32 × St} (hx : x = e) (h : bd e k = some y) : k x = some y := by
  subst hx
  exact h
theorem cl_lt (x : Int32) : x.toNatClampNeg < 2 ^ 31 := by
  have h := Int32.toInt_lt x
  have h2 : x.toNatClampNeg = x.toInt.toNat := rfl
  omega
theorem cl_in {i : Int32} {n : Nat} (hn : n < 2 ^ 31) (h0 : ¬ i < 0) (h1 : ¬ nI n ≤ i) : inb i n = true := by
  simp only [inb, Bool.and_eq_true, decide_eq_true_eq]
  refine ⟨Int32.not_lt.mp h0, ?_⟩
  obtain ⟨j, hj, rfl⟩ := nI_of h0
  rw [nI_clamp hj]
  rcases Nat.lt_or_ge j n with h | h
  · exact h
  · exact absurd (nI_le h hj) h1
theorem cl_out1 {i : Int32} {n : Nat} (h0 : i < 0) : ¬ inb i n = true := by
  simp only [inb, Bool.and_eq_true, decide_eq_true_eq]
  exact fun h => absurd h.1 (Int32.not_le.mpr h0)
theorem cl_out2 {i : Int32} {n : Nat} (hn : n < 2 ^ 31) (h0 : ¬ i < 0) (h1 : nI n ≤ i) : ¬ inb i n = true := by
  simp only [inb, Bool.and_eq_true, decide_eq_true_eq]
  intro h
  obtain ⟨j, hj, rfl⟩ := nI_of h0
  rw [nI_clamp hj] at h
  exact nI_ge h.2 hn h1
/-- all places of a row the same -/
def fl (n : Nat) (f : Nat → Int32) (v : Int32) : Nat → Int32 := fun k => if k < n then v else f k
abbrev rm_X8_get : Room := { frames := 0, cells := 0, slots := 0, locals := 0 }
set_option maxHeartbeats 4000000 in
set_option maxRecDepth 100000 in
theorem c_get (l : Launch) (D : va_G) (cA : ClassId) (A : Nat → Prop) (w : Wf) (ta : Nat) (σ : St) (j a n : Nat) (f : Nat → Int32) (i : Int32) (hn : n < 2 ^ 31) (he : (w ta σ)[j]? = some (a, .inl (cA, n, .inl f))) :
    MI l D cA A w yX8_get cX8_get 2 (some .int) rm_X8_get [.ref a, .int i] ta σ (rd n f i) σ 0 0 := by
  refine enter (by decide) (Nat.le_of_ble_eq_true rfl) ?_
  intro p e s m below meth c ls X hnm hP hD hS hl
  obtain ⟨hx, hb, hr, hml, hown, hlk, hE, hK, hA⟩ := id X
  have hl : lv_has ls 2 [(0, .ref a), (1, .int i)] := hl
  refine lv_iload_n hx hb dX8_get_0 rfl (lv_at hl 1 rfl) ?_
  refine lv_if_lt (tgt := 16) hx hb dX8_get_1 (by decide) (fun c1 => ?_) (fun c1 => ?_)
  · refine lv_iconst (v := -1) hx hb dX8_get_16 (by decide) ?_
    rw [show rd n f i = -1 from if_neg (cl_out1 c1)]
    exact ret_i X hP hD hS dX8_get_17
  · refine lv_iload_n hx hb dX8_get_4 rfl (lv_at hl 1 rfl) ?_
    refine lv_aload_n hx hb dX8_get_5 rfl (lv_at hl 0 rfl) ?_
    refine va_alen (v := nI n) hx hb hK hP j 0 he rfl rfl dX8_get_6 ?_
    refine lv_icmp_ge (tgt := 16) hx hb dX8_get_7 (by decide) (fun c2 => ?_) (fun c2 => ?_)
    · refine lv_iconst (v := -1) hx hb dX8_get_16 (by decide) ?_
      rw [show rd n f i = -1 from if_neg (cl_out2 hn c1 c2)]
      exact ret_i X hP hD hS dX8_get_17
    · refine lv_aload_n hx hb dX8_get_10 rfl (lv_at hl 0 rfl) ?_
      refine lv_iload_n hx hb dX8_get_11 rfl (lv_at hl 1 rfl) ?_
      refine va_iald hx hb hK hP j 0 he rfl (inb_in (cl_in hn c1 c2)) dX8_get_12 ?_
      refine lv_goto (tgt := 17) hx hb dX8_get_13 (by decide) ?_
      rw [show rd n f i = f i.toNatClampNeg from if_pos (cl_in hn c1 c2)]
      exact ret_i X hP hD hS dX8_get_17
abbrev rm_X8_set : Room := { frames := 0, cells := 0, slots := 0, locals := 0 }
set_option maxHeartbeats 4000000 in
set_option maxRecDepth 100000 in
theorem c_set (l : Launch) (D : va_G) (cA : ClassId) (A : Nat → Prop) (w : Wf) (ta : Nat) (σ : St) (j a n k : Nat) (i v : Int32) (hn : n < 2 ^ 31) (he : (w ta σ)[j]? = some (a, .inl (cA, n, .inl (gA σ k)))) (hs : ∀ f, (w ta σ).set j (a, .inl (cA, n, .inl f)) = w ta (sA σ k f)) :
    MV l D cA A w yX8_set cX8_set 3 none rm_X8_set [.ref a, .int i, .int v] ta σ (sA σ k (wr n (gA σ k) i v)) 0 0 := by
  have h0 : w ta (sA σ k (gA σ k)) = w ta σ := by
    rw [← hs]
    exact List.ext_getElem? fun q => by
      by_cases hq : q = j
      · subst hq
        rw [List.getElem?_set_self (List.getElem?_eq_some_iff.mp he).1, he]
      · rw [List.getElem?_set_ne (Ne.symm hq)]
  refine enter (by decide) (Nat.le_of_ble_eq_true rfl) ?_
  intro p e s m below meth c ls X hnm hP hD hS hl
  obtain ⟨hx, hb, hr, hml, hown, hlk, hE, hK, hA⟩ := id X
  have hl : lv_has ls 3 [(0, .ref a), (1, .int i), (2, .int v)] := hl
  refine lv_iload_n hx hb dX8_set_0 rfl (lv_at hl 1 rfl) ?_
  refine lv_if_lt (tgt := 14) hx hb dX8_set_1 (by decide) (fun c1 => ?_) (fun c1 => ?_)
  · rw [show wr n (gA σ k) i v = gA σ k from if_neg (cl_out1 c1)]
    exact ret_v (w := w) (ta := ta) X (by rw [h0]; exact hP) (by rw [h0]; exact hD) hS dX8_set_14
  · refine lv_iload_n hx hb dX8_set_4 rfl (lv_at hl 1 rfl) ?_
    refine lv_aload_n hx hb dX8_set_5 rfl (lv_at hl 0 rfl) ?_
    refine va_alen (v := nI n) hx hb hK hP j 0 he rfl rfl dX8_set_6 ?_
    refine lv_icmp_ge (tgt := 14) hx hb dX8_set_7 (by decide) (fun c2 => ?_) (fun c2 => ?_)
    · rw [show wr n (gA σ k) i v = gA σ k from if_neg (cl_out2 hn c1 c2)]
      exact ret_v (w := w) (ta := ta) X (by rw [h0]; exact hP) (by rw [h0]; exact hD) hS dX8_set_14
    · refine lv_aload_n hx hb dX8_set_10 rfl (lv_at hl 0 rfl) ?_
      refine lv_iload_n hx hb dX8_set_11 rfl (lv_at hl 1 rfl) ?_
      refine lv_iload_n hx hb dX8_set_12 rfl (lv_at hl 2 rfl) ?_
      refine va_iast hx hb hK hP hD hS j 0 he rfl (inb_in (cl_in hn c1 c2)) dX8_set_13 (fun H locs hP hD hS => ?_)
      rw [hs] at hP hD
      rw [show wr n (gA σ k) i v = upd (gA σ k) i.toNatClampNeg v from if_pos (cl_in hn c1 c2)]
      exact ret_v X hP hD hS dX8_set_14
abbrev rm_J7_fill_53178 : Room := { frames := 0, cells := 0, slots := 0, locals := 0 }
theorem fl_0 (n : Nat) (f : Nat → Int32) (v : Int32) (i : Nat) (h : n ≤ i) : (fun k => if k < i ∧ k < n then v else f k) = fl n f v := by
  funext k
  unfold fl
  by_cases hk : k < n
  · rw [if_pos hk, if_pos ⟨by omega, hk⟩]
  · rw [if_neg hk, if_neg (fun q => hk q.2)]
theorem fl_s (n : Nat) (f : Nat → Int32) (v : Int32) (i : Nat) (h : i < n) : upd (fun k => if k < i ∧ k < n then v else f k) i v = (fun k => if k < i + 1 ∧ k < n then v else f k) := by
  funext k
  unfold upd
  by_cases hk : k = i
  · subst hk
    rw [if_pos rfl, if_pos ⟨by omega, h⟩]
  · rw [if_neg hk]
    dsimp only
    by_cases h2 : k < i ∧ k < n
    · rw [if_pos h2, if_pos ⟨by omega, h2.2⟩]
    · rw [if_neg h2, if_neg (fun q => h2 ⟨by omega, q.2⟩)]
section FILL
variable {p : Program} {l : Launch} {e : Env} {s : State} {m : MethodId} {args : Array Value} {below : List Frame} {meth : Method} {c : Code}
variable {D : va_G} {cA : ClassId} {A : Nat → Prop}
set_option maxHeartbeats 4000000 in
set_option maxRecDepth 100000 in
theorem t_fill (w : Wf) (ta : Nat) (σ : St) (j a n k : Nat) (v : Int32) (hn : n < 2 ^ 31) (he : ∀ f, (w ta (sA σ k f))[j]? = some (a, .inl (cA, n, .inl f))) (hs : ∀ g f, (w ta (sA σ k g)).set j (a, .inl (cA, n, .inl f)) = w ta (sA σ k f))
    (X : Fx p s m meth c D cA A RJ7 cJ7_fill_53178 4 none) : ∀ (d i : Nat) (H : Heap) (locs : List Loc) (ls : Array Slot), i + d = n → va_P D vwCl (w ta (sA σ k (fun q => if q < i ∧ q < n then v else gA σ k q))) H → va_D A (w ta (sA σ k (fun q => if q < i ∧ q < n then v else gA σ k q))) → va_S A s.heap H locs → lv_has ls 4 [(0, .ref a), (1, .int v), (2, .int (nI i)), (3, .int (nI n))] →
      W p l e rm_J7_fill_53178 s m args below meth c H locs 0 0 (MQ below (QV D cA A w (sA σ k (fl n (gA σ k) v)) ta) args s 0 0 A) (F0 m 5 ls []) := by
  obtain ⟨hx, hb, hr, hml, hown, hlk, hE, hK, hA⟩ := id X
  intro d
  induction d with
  | zero =>
    intro i H locs ls hi hP hD hS hl
    refine lv_iload_n hx hb dJ7_fill_53178_5 rfl (lv_at hl 2 rfl) ?_
    refine lv_iload_n hx hb dJ7_fill_53178_6 rfl (lv_at hl 3 rfl) ?_
    refine lv_icmp_ge (tgt := 20) hx hb dJ7_fill_53178_7 (by decide) (fun c1 => ?_) (fun c1 => absurd (nI_le (by omega) (by omega)) c1)
    rw [fl_0 n (gA σ k) v i (by omega)] at hP hD
    exact ret_v X hP hD hS dJ7_fill_53178_20
  | succ d ih =>
    intro i H locs ls hi hP hD hS hl
    refine lv_iload_n hx hb dJ7_fill_53178_5 rfl (lv_at hl 2 rfl) ?_
    refine lv_iload_n hx hb dJ7_fill_53178_6 rfl (lv_at hl 3 rfl) ?_
    refine lv_icmp_ge (tgt := 20) hx hb dJ7_fill_53178_7 (by decide) (fun c1 => absurd c1 (nI_ge (by omega) hn)) (fun c1 => ?_)
    refine lv_aload_n hx hb dJ7_fill_53178_10 rfl (lv_at hl 0 rfl) ?_
    refine lv_iload_n hx hb dJ7_fill_53178_11 rfl (lv_at hl 2 rfl) ?_
    refine lv_iload_n hx hb dJ7_fill_53178_12 rfl (lv_at hl 1 rfl) ?_
    refine va_iast hx hb hK hP hD hS j 0 (he _) rfl (vp_in_nI (by omega) hn) dJ7_fill_53178_13 (fun H locs hP hD hS => ?_)
    rw [hs, nI_clamp (by omega), fl_s n (gA σ k) v i (by omega)] at hP hD
    refine lv_iinc (v := nI (i + 1)) (lv' := [(2, .int (nI (i + 1))), (0, .ref a), (1, .int v), (3, .int (nI n))]) hx hb dJ7_fill_53178_14 hl (k := 2) rfl (nI_1 i) (by decide) rfl (fun ls hl => ?_)
    refine lv_goto (tgt := 5) hx hb dJ7_fill_53178_17 (by decide) ?_
    exact ih (i + 1) _ _ _ (by omega) hP hD hS (lv_sub hl [1, 2, 0, 3] rfl)
end FILL
set_option maxHeartbeats 4000000 in
set_option maxRecDepth 100000 in
theorem c_fill (l : Launch) (D : va_G) (cA : ClassId) (A : Nat → Prop) (w : Wf) (ta : Nat) (σ : St) (j a n k : Nat) (v : Int32) (hn : n < 2 ^ 31) (he : ∀ f, (w ta (sA σ k f))[j]? = some (a, .inl (cA, n, .inl f))) (hs : ∀ g f, (w ta (sA σ k g)).set j (a, .inl (cA, n, .inl f)) = w ta (sA σ k f)) (h0 : sA σ k (gA σ k) = σ) :
    MV l D cA A w yJ7_fill_53178 cJ7_fill_53178 4 none rm_J7_fill_53178 [.ref a, .int v] ta σ (sA σ k (fl n (gA σ k) v)) 0 0 := by
  refine enter (by decide) (Nat.le_of_ble_eq_true rfl) ?_
  intro p e s m below meth c ls X hnm hP hD hS hl
  obtain ⟨hx, hb, hr, hml, hown, hlk, hE, hK, hA⟩ := id X
  have hl : lv_has ls 4 [(0, .ref a), (1, .int v)] := hl
  have he0 := he (gA σ k)
  rw [h0] at he0
  refine lv_iconst (v := 0) hx hb dJ7_fill_53178_0 (by decide) ?_
  refine lv_istore_n (lv' := [(2, .int 0), (0, .ref a), (1, .int v)]) hx hb dJ7_fill_53178_1 rfl hl (by decide) rfl (fun ls hl => ?_)
  refine lv_aload_n hx hb dJ7_fill_53178_2 rfl (lv_at hl 1 rfl) ?_
  refine va_alen (v := nI n) hx hb hK hP j 0 he0 rfl rfl dJ7_fill_53178_3 ?_
  refine lv_istore_n (lv' := [(3, .int (nI n)), (2, .int 0), (0, .ref a), (1, .int v)]) hx hb dJ7_fill_53178_4 rfl hl (by decide) rfl (fun ls hl => ?_)
  have hq : (fun q => if q < 0 ∧ q < n then v else gA σ k q) = gA σ k := by
    funext q
    rw [if_neg (fun z => absurd z.1 (Nat.not_lt_zero q))]
  exact t_fill w ta σ j a n k v hn he hs X n 0 _ _ _ (by omega) (by rw [hq, h0]; exact hP) (by rw [hq, h0]; exact hD) hS (lv_sub hl [2, 3, 1, 0] rfl)
theorem sA_gA (σ : St) (k : Nat) : sA σ k (gA σ k) = σ := by
  obtain ⟨a, b⟩ := σ
  show (a, va_up b k (b k)) = (a, b)
  congr 1
  funext j
  unfold va_up
  split
  · next h => rw [h]
  · rfl
