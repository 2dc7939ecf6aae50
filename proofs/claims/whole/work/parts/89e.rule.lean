/-! a rule is kept -/
def upI (b h : Nat) : Int32 := if h = 0 then -1 else nI (b + (h - 1))
/-- the rules, as the class has them -/
def RlC (R : Nat) (ln bs : Nat → Nat) (sy : Nat → Nat → Int32) (en uc pc : Nat → Nat → Nat) (c : St) : Prop :=
  gF c 8 = nI R ∧ (∀ r, r ≤ R → gA c 17 r = nI (bs r)) ∧ ∀ r, r < R → ∀ q, q < ln r → gA c 18 (bs r + q) = sy r q ∧ gA c 19 (bs r + q) = upI (bs r) (uc r q) ∧ gA c 20 (bs r + q) = nI (pc r q) ∧ gA c 21 (bs r + q) = nI (bs r + en r q)
def BsW (R : Nat) (ln bs : Nat → Nat) : Prop := R ≤ 24 ∧ bs 0 = 0 ∧ (∀ r, r < R → bs (r + 1) = bs r + ln r ∧ ln r ≤ 160) ∧ bs R ≤ 512
theorem BsW.mono {R : Nat} {ln bs : Nat → Nat} (h : BsW R ln bs) : ∀ r, r ≤ R → ∀ r', r' ≤ r → bs r' ≤ bs r := by
  intro r
  induction r with
  | zero => intro _ r' h'; rw [show r' = 0 by omega]; exact Nat.le_refl _
  | succ r ih =>
    intro hr r' h'
    by_cases hq : r' = r + 1
    · rw [hq]; exact Nat.le_refl _
    · have := ih (by omega) r' (by omega)
      have := (h.2.2.1 r (by omega)).1
      omega
theorem BsW.lt {R : Nat} {ln bs : Nat → Nat} (h : BsW R ln bs) {r q : Nat} (hr : r < R) (hq : q < ln r) : bs r + q < bs R := by
  have h1 := (h.2.2.1 r hr).1
  have h2 := h.mono R (Nat.le_refl _) (r + 1) hr
  omega
def snocF {α : Type} (R : Nat) (f : Nat → α) (x : α) : Nat → α := fun r => if r = R then x else f r
theorem snocF_s {α : Type} (R : Nat) (f : Nat → α) (x : α) : snocF R f x R = x := if_pos rfl
theorem snocF_n {α : Type} {R : Nat} {f : Nat → α} {x : α} {r : Nat} (h : r ≠ R) : snocF R f x r = f r := if_neg h
theorem add_loop {n B : Nat} {rw : Nat → Int32} {en uc pc : Nat → Nat} (hn : n ≤ 160) (hB : B + n ≤ 512) (huc : ∀ q, q < n → uc q ≤ q) :
    ∀ (d w i : Nat) (c : St), i + d = n → d < w → (∀ q, q < n → gA c 12 q = rw q ∧ gA c 13 q = hI (uc q) ∧ gA c 14 q = nI (pc q) ∧ gA c 15 q = nI (en q)) → (∀ q, q < i → gA c 18 (B + q) = rw q ∧ gA c 19 (B + q) = upI B (uc q) ∧ gA c 20 (B + q) = nI (pc q) ∧ gA c 21 (B + q) = nI (B + en q)) →
    ∃ c', F_X3_add_12 w (nI n) (nI B) (nI i) c = F_X3_add_122 (nI n) (nI B) c' ∧ (∀ q, q < n → gA c' 18 (B + q) = rw q ∧ gA c' 19 (B + q) = upI B (uc q) ∧ gA c' 20 (B + q) = nI (pc q) ∧ gA c' 21 (B + q) = nI (B + en q)) ∧ (∀ j, gF c' j = gF c j) ∧ (∀ j, j < 18 ∨ 21 < j → gA c' j = gA c j) ∧ ∀ j x, x < B → gA c' j x = gA c j x := by
  intro d
  induction d with
  | zero =>
    intro w i c hi hw hr hd
    obtain ⟨w, rfl⟩ : ∃ z, w = z + 1 := ⟨w - 1, by omega⟩
    have : i = n := by omega
    subst this
    rw [F_X3_add_12, if_pos (nI_le (Nat.le_refl _) (by omega))]
    exact ⟨c, rfl, hd, fun _ => rfl, fun _ _ => rfl, fun _ _ _ => rfl⟩
  | succ d ih =>
    intro w i c hi hw hr hd
    obtain ⟨w, rfl⟩ : ∃ z, w = z + 1 := ⟨w - 1, by omega⟩
    obtain ⟨r1, r2, r3, r4⟩ := hr i (by omega)
    have hui := huc i (by omega)
    rw [F_X3_add_12, if_neg (nI_ge (by omega) (by omega)), rd_in _ (by omega) (by omega), r2, bd_r, rd_in _ (by omega) (by omega), r1, bd_r, nI_add, wr_in _ _ (by omega) (by omega), bd_r]
    obtain ⟨c1, hc1⟩ : ∃ c1, sA c 18 (upd (gA c 18) (B + i) (rw i)) = c1 := ⟨_, rfl⟩
    rw [hc1]
    have hz : (if hI (uc i) = -1 then F_X3_add_71 (F_X3_add_12 w) (nI n) (nI B) (nI i) (-1) (nI (B + i)) c1 else F_X3_add_71 (F_X3_add_12 w) (nI n) (nI B) (nI i) (nI B + hI (uc i)) (nI (B + i)) c1) = F_X3_add_71 (F_X3_add_12 w) (nI n) (nI B) (nI i) (upI B (uc i)) (nI (B + i)) c1 := by
      by_cases h0 : uc i = 0
      · rw [h0, if_pos (by rfl)]; rfl
      · obtain ⟨u, hu⟩ : ∃ u, uc i = u + 1 := ⟨uc i - 1, by omega⟩
        rw [if_neg (hI_ne h0 (by omega)), hu, hI_s, nI_add]
        rfl
    rw [hz, F_X3_add_71, wr_in _ _ (by omega) (by omega), bd_r]
    obtain ⟨c2, hc2⟩ : ∃ c2, sA c1 19 (upd (gA c1 19) (B + i) (upI B (uc i))) = c2 := ⟨_, rfl⟩
    have g14 : gA c2 14 i = nI (pc i) := by rw [← hc2, ← hc1]; exact r3
    rw [hc2, rd_in _ (by omega) (by omega), g14, bd_r, nI_add, wr_in _ _ (by omega) (by omega), bd_r]
    obtain ⟨c3, hc3⟩ : ∃ c3, sA c2 20 (upd (gA c2 20) (B + i) (nI (pc i))) = c3 := ⟨_, rfl⟩
    have g15 : gA c3 15 i = nI (en i) := by rw [← hc3, ← hc2, ← hc1]; exact r4
    rw [hc3, rd_in _ (by omega) (by omega), g15, bd_r, nI_add, wr_in _ _ (by omega) (by omega), bd_r, nI_1]
    obtain ⟨c4, hc4⟩ : ∃ c4, sA c3 21 (upd (gA c3 21) (B + i) (nI (B + en i))) = c4 := ⟨_, rfl⟩
    rw [hc4]
    have f4 : ∀ j, gF c4 j = gF c j := fun j => by rw [← hc4, ← hc3, ← hc2, ← hc1]; rfl
    have a4 : ∀ j, j < 18 ∨ 21 < j → gA c4 j = gA c j := fun j j1 => by rw [← hc4, gA_sA, if_neg (by omega), ← hc3, gA_sA, if_neg (by omega), ← hc2, gA_sA, if_neg (by omega), ← hc1, gA_sA, if_neg (by omega)]
    have b18 : gA c4 18 = upd (gA c 18) (B + i) (rw i) := by rw [← hc4, ← hc3, ← hc2, ← hc1]; rfl
    have b19 : gA c4 19 = upd (gA c 19) (B + i) (upI B (uc i)) := by rw [← hc4, ← hc3, ← hc2, ← hc1]; rfl
    have b20 : gA c4 20 = upd (gA c 20) (B + i) (nI (pc i)) := by rw [← hc4, ← hc3, ← hc2, ← hc1]; rfl
    have b21 : gA c4 21 = upd (gA c 21) (B + i) (nI (B + en i)) := by rw [← hc4, ← hc3, ← hc2, ← hc1]; rfl
    obtain ⟨c', q1, q2, q3, q4, q5⟩ := ih w (i + 1) c4 (by omega) (by omega) (fun q hq => by rw [a4 12 (by omega), a4 13 (by omega), a4 14 (by omega), a4 15 (by omega)]; exact hr q hq) (fun q hq => by
      rw [b18, b19, b20, b21]
      by_cases hqi : q = i
      · rw [hqi, upd_s, upd_s, upd_s, upd_s]; exact ⟨rfl, rfl, rfl, rfl⟩
      · rw [upd_n _ _ (by omega), upd_n _ _ (by omega), upd_n _ _ (by omega), upd_n _ _ (by omega)]; exact hd q (by omega))
    refine ⟨c', q1, q2, fun j => by rw [q3 j, f4 j], fun j j1 => by rw [q4 j j1, a4 j j1], fun j x hx => ?_⟩
    rw [q5 j x hx]
    by_cases j1 : j < 18 ∨ 21 < j
    · rw [a4 j j1]
    · rcases (show j = 18 ∨ j = 19 ∨ j = 20 ∨ j = 21 by omega) with rfl | rfl | rfl | rfl
      · rw [b18, upd_n _ _ (by omega)]
      · rw [b19, upd_n _ _ (by omega)]
      · rw [b20, upd_n _ _ (by omega)]
      · rw [b21, upd_n _ _ (by omega)]
theorem addR_eq {R n : Nat} {ln bs : Nat → Nat} {sy : Nat → Nat → Int32} {en uc pc : Nat → Nat → Nat} {rw : Nat → Int32} {en1 uc1 pc1 : Nat → Nat} {c : St} (hB : BsW R ln bs) (hR : R < 24) (hn : n ≤ 160) (hBn : bs R + n ≤ 512) (h : RlC R ln bs sy en uc pc c) (huc : ∀ q, q < n → uc1 q ≤ q) (hr : ∀ q, q < n → gA c 12 q = rw q ∧ gA c 13 q = hI (uc1 q) ∧ gA c 14 q = nI (pc1 q) ∧ gA c 15 q = nI (en1 q)) :
    ∃ c', F_X3_add (nI n) c = some (nI R, c') ∧ RlC (R + 1) (snocF R ln n) (snocF (R + 1) bs (bs R + n)) (snocF R sy rw) (snocF R en en1) (snocF R uc uc1) (snocF R pc pc1) c' ∧ (∀ j, j ≠ 8 → gF c' j = gF c j) ∧ (∀ j, j < 17 ∨ 21 < j → gA c' j = gA c j) := by
  obtain ⟨h1, h2, h3⟩ := h
  unfold F_X3_add F_X3_start
  rw [h1, rd_in _ (by omega) (by omega), h2 R (Nat.le_refl _), bd_r, bo_s]
  obtain ⟨c1, q1, q2, q3, q4, q5⟩ := add_loop (rw := rw) (en := en1) (uc := uc1) (pc := pc1) hn hBn huc n 5000 0 c (by omega) (by omega) hr (fun q hq => by omega)
  rw [show (0 : Int32) = nI 0 from rfl, q1, F_X3_add_122, q3, h1, nI_1, bd_r]
  obtain ⟨c2, hc2⟩ : ∃ c2, sF c1 8 (nI (R + 1)) = c2 := ⟨_, rfl⟩
  have g8 : gF c2 8 = nI (R + 1) := by rw [← hc2]; rfl
  rw [hc2, g8, wr_in _ _ (by omega) (by omega), bd_r, nI_add]
  obtain ⟨c3, hc3⟩ : ∃ c3, sA c2 17 (upd (gA c2 17) (R + 1) (nI (bs R + n))) = c3 := ⟨_, rfl⟩
  have g83 : gF c3 8 = nI (R + 1) := by rw [← hc3]; exact g8
  rw [hc3, g83, sub1]
  have a3 : ∀ j, j ≠ 17 → gA c3 j = gA c1 j := fun j j1 => by rw [← hc3, gA_sA, if_neg j1, ← hc2]; rfl
  have a17 : gA c3 17 = upd (gA c 17) (R + 1) (nI (bs R + n)) := by rw [← hc3, gA_sA_s, ← hc2, gA_sF, q4 17 (by omega)]
  refine ⟨c3, rfl, ⟨g83, fun r hr => ?_, fun r hr q hq => ?_⟩, fun j j1 => by rw [← hc3, gF_sA, ← hc2, gF_sF, if_neg j1, q3], fun j j1 => by rw [a3 j (by omega), q4 j (by omega)]⟩
  · rw [a17]
    by_cases hrR : r = R + 1
    · rw [hrR, upd_s, snocF_s]
    · rw [upd_n _ _ hrR, snocF_n hrR]; exact h2 r (by omega)
  · rw [a3 18 (by omega), a3 19 (by omega), a3 20 (by omega), a3 21 (by omega)]
    by_cases hrR : r = R
    · subst hrR
      rw [snocF_s] at hq ⊢
      rw [snocF_s, snocF_s, snocF_s, snocF_n (by omega)]
      exact q2 q hq
    · rw [snocF_n hrR] at hq ⊢
      rw [snocF_n hrR, snocF_n hrR, snocF_n hrR, snocF_n (by omega)]
      have hlt := hB.lt (show r < R by omega) hq
      rw [q5 18 _ hlt, q5 19 _ hlt, q5 20 _ hlt, q5 21 _ hlt]
      exact h3 r (by omega) q hq
/-- the rules, as the reference has them -/
def RlM (R : Nat) (ln : Nat → Nat) (sy : Nat → Nat → Int32) (en uc pc : Nat → Nat → Nat) (m : St) : Prop :=
  gF m 4 = nI R ∧ ∀ r, r < R → gA m 9 r = nI (ln r) ∧ ∀ q, q < ln r → gA m 5 (160 * r + q) = sy r q ∧ gA m 6 (160 * r + q) = hI (uc r q) ∧ gA m 7 (160 * r + q) = nI (pc r q) ∧ gA m 8 (160 * r + q) = nI (en r q)
theorem RlM.ru {R : Nat} {ln bs : Nat → Nat} {sy : Nat → Nat → Int32} {en uc pc : Nat → Nat → Nat} {m : St} (h : RlM R ln sy en uc pc m) (hB : BsW R ln bs) : RuM R ln sy en m := ⟨hB.1, fun r hr => ⟨(hB.2.2.1 r hr).2, fun q hq => ⟨((h.2 r hr).2 q hq).1, ((h.2 r hr).2 q hq).2.2.2⟩⟩⟩
theorem lack_loop (k55 : Int32 → Int32 → St → Rs) {N : Nat} {ct ar : Nat → Nat} {pk : Nat → Int32} {A : Nat} {fp : Int32} {n : Nat} {rw : Nat → Int32} {k B : Nat} {m : St} (hR : RdM N ct ar pk A fp n rw m) (hok : ∀ q, q < n → okP N ct ar pk A fp false rw q = true) (hk : k < n) (hE : Ends ar A rw k (enS ar A rw k)) (hn : enS ar A rw k ≤ n) :
    ∀ (d w e l : Nat), e + d = enS ar A rw k → k ≤ e → d < w → l + (Ls ar A rw k).length = 1 + (Ls ar A rw e).length → F_X9_rule_111 k55 w (nI B) (nI k) (nI l) (nI e) m = F_X9_rule_155 k55 (nI B) (nI k) (nI (enS ar A rw k)) m := by
  have hn2 := hR.2.2.1
  have hN := hR.1
  have hA := hR.2.1
  have hlen : ∀ e, e ≤ n → (Ls ar A rw e).length ≤ A + 4 * e := fun e he => Ls_len e (fun q hq => aw_le hR (hok q (by omega)))
  intro d
  induction d with
  | zero =>
    intro w e l he hke hw hl
    obtain ⟨w, rfl⟩ : ∃ z, w = z + 1 := ⟨w - 1, by omega⟩
    have : e = enS ar A rw k := by omega
    subst this
    have h1 := hE.2.1
    have : l = 0 := by omega
    subst this
    rw [F_X9_rule_111, if_pos (by decide)]
  | succ d ih =>
    intro w e l he hke hw hl
    obtain ⟨w, rfl⟩ : ∃ z, w = z + 1 := ⟨w - 1, by omega⟩
    have hge : (Ls ar A rw k).length ≤ (Ls ar A rw e).length := by
      by_cases hek : e = k
      · rw [hek]; exact Nat.le_refl _
      · exact hE.2.2 e (by omega) (by omega)
    have hl1 := hlen e (by omega)
    have hne := (okP_fit (hok e (by omega))).1
    have htl := tail_len hne
    have hLs : (Ls ar A rw (e + 1)).length + 1 = aw ar (rw e) + (Ls ar A rw e).length := by
      rw [Ls, List.length_append, sl_len]
      omega
    rw [F_X9_rule_111, if_neg (nI_nle (by omega) (by omega)), ck_in (by omega) (by omega), bd_r, nI_clamp (n := e) (by omega), hR.2.2.2.2.2.2.2.2 e (by omega)]
    by_cases hv : rw e < 0
    · have ha : aw ar (rw e) = 0 := if_pos hv
      obtain ⟨l, rfl⟩ : ∃ z, l = z + 1 := ⟨l - 1, by omega⟩
      rw [if_pos hv, F_X9_rule_146, pk_m1, bd_r, nI_1]
      exact ih w (e + 1) l (by omega) (by omega) (by omega) (by omega)
    · obtain ⟨i, hi, e1⟩ := (okP_fit (hok e (by omega))).2 hv
      have ha : aw ar (rw e) = ar i := by unfold aw; rw [if_neg hv, e1, nI_clamp (by omega)]
      rw [if_neg hv, ck_in (by omega) (by omega), bd_r, e1, ck_in (by omega) (by omega), bd_r, nI_clamp (n := i) (by omega), (hR.2.2.2.2.1 i hi).2.2.2.1, F_X9_rule_146, take_sum (by omega), bd_r, nI_1]
      exact ih w (e + 1) (l + ar i - 1) (by omega) (by omega) (by omega) (by omega)
