/-! the reference's tree as a whole -/
/-- the rules' arguments: where they begin, their types, the end -/
def TopW (R A : Nat) (fp : Int32) (ln : Nat → Nat) (en wt : Nat → Nat → Nat) : Prop :=
  ∀ r, r < R → (∀ k, k < A → ch (en r) 0 k < ln r ∧ wt r (ch (en r) 0 k) = ty fp k) ∧ ch (en r) 0 A = ln r
def op0 (en : Nat → Nat → Nat) (A : Nat) : Nat → List Nat := fun r => chl (en r) 0 A
def TT (R A N : Nat) (ar : Nat → Nat) (sy : Nat → Nat → Int32) (en : Nat → Nat → Nat) : List Nd := if R = 0 then [] else Tr N ar sy en 300 (List.range R) (op0 en A) A (-1) 0
def CC (R A N : Nat) (ct ar : Nat → Nat) (sy : Nat → Nat → Int32) (en : Nat → Nat → Nat) : Bool := if R = 0 then false else Cvr N ct ar sy en 300 (List.range R) (op0 en A) A
theorem top_GW {R A : Nat} {fp : Int32} {ln : Nat → Nat} {en wt : Nat → Nat → Nat} (h : TopW R A fp ln en wt) (h0 : 0 < R) : GW R ln wt (List.range R) (op0 en A) A := by
  refine ⟨by simpa using h0, List.nodup_range, fun r hr => ?_, fun r r' hr hr' s hs => ?_⟩
  · have hr := List.mem_range.mp hr
    refine ⟨hr, chl_len _ _ _, fun s hs => ?_⟩
    unfold op0
    rw [chl_get _ _ hs]
    exact ((h r hr).1 s hs).1
  · unfold op0
    rw [chl_get _ _ hs, chl_get _ _ hs, ((h r (List.mem_range.mp hr)).1 s hs).2, ((h r' (List.mem_range.mp hr')).1 s hs).2]
theorem top_rs {N : Nat} {ct ar : Nat → Nat} {pk : Nat → Int32} {R A : Nat} {fp : Int32} {ln : Nat → Nat} {sy : Nat → Nat → Int32} {en wt : Nat → Nat → Nat} (hW : ∀ r, r < R → PW N ct ar pk (ln r) (sy r) (en r) (wt r)) (h : TopW R A fp ln en wt) {r : Nat} (hr : r < R) : rs (en r) (op0 en A r) = ln r := by
  have h1 := (rs_chl (en r) 0 A (fun k hk => (hW r hr _ ((h r hr).1 k hk).1).1)).2
  rw [(h r hr).2] at h1
  exact h1
theorem sum_range (f : Nat → Nat) (b : Nat → Nat) : ∀ R, (∀ r, r < R → b (r + 1) = b r + f r) → b R = b 0 + ((List.range R).map f).sum := by
  intro R
  induction R with
  | zero => intro _; simp
  | succ R ih =>
    intro h
    rw [List.range_succ, List.map_append, List.sum_append, h R (by omega), ih (fun r hr => h r (by omega))]
    simp
    omega
theorem lay_eq {N : Nat} {ct ar : Nat → Nat} {pk : Nat → Int32} {R A : Nat} {fp : Int32} {ln : Nat → Nat} {sy : Nat → Nat → Int32} {en wt : Nat → Nat → Nat} {bs : Nat → Nat} {m : St} (hW : ∀ r, r < R → PW N ct ar pk (ln r) (sy r) (en r) (wt r)) (hct : ∀ c, c < N → ct c < 2 ^ 31) (hT : TopW R A fp ln en wt) (hR : RuM R ln sy en m) (hC : ConM N ct ar m) (h4 : gF m 4 = nI R) (hA : 0 < R → gF m 2 = nI A) (hA6 : A ≤ 6) (hb0 : bs 0 = 0) (hb : ∀ r, r < R → bs (r + 1) = bs r + ln r) (hbR : bs R ≤ 512) :
    ∃ m', F_X9_lay m = some (0, m') ∧ (∀ j, j < 7 ∨ 14 < j → gF m' j = gF m j) ∧ (∀ j, j < 16 ∨ 25 < j → gA m' j = gA m j) ∧ Hold m' (TT R A N ar sy en) ∧ gF m' 14 = bI (CC R A N ct ar sy en) ∧ (TT R A N ar sy en).length ≤ 559 ∧ mxN (TT R A N ar sy en) ≤ 184 := by
  obtain ⟨m1, hm1⟩ : ∃ m1, sF (sF (sF (sF (sF m 10 0) 11 0) 12 0) 13 0) 14 0 = m1 := ⟨_, rfl⟩
  have hz : F_X9_lay m = if gF m1 4 = 0 then some (0, m1) else bo (F_X9_openAll m1) (fun r8 s9 => bo (F_X9_laid 300 0 (gF s9 4) (-1) 0 s9) (fun r11 s12 => ck (isB r11) (bd (sF s12 14 r11) (fun s15 => some (0, s15))))) := by
    rw [← hm1]
    rfl
  have f1 : ∀ j, j < 10 ∨ 14 < j → gF m1 j = gF m j := by
    intro j hj
    rw [← hm1]
    simp only [gF_sF]
    repeat rw [if_neg (by omega)]
  have a1 : ∀ j, gA m1 j = gA m j := fun j => by rw [← hm1]; rfl
  have hH1 : Hold m1 [] := by
    rw [← hm1]
    exact ⟨rfl, rfl, rfl, rfl, fun i x hx => by simp at hx⟩
  have h14 : gF m1 14 = 0 := by rw [← hm1]; rfl
  rw [hz, f1 4 (by omega), h4]
  by_cases h0 : R = 0
  · subst h0
    refine ⟨m1, if_pos rfl, fun j hj => f1 j (by omega), fun j _ => a1 j, ?_, ?_, ?_, ?_⟩
    · exact hH1
    · rw [h14]; rfl
    · simp [TT]
    · simp [TT, mxN]
  · have hR24 := hR.1
    rw [if_neg (nI_ne0 (by omega) (by omega))]
    have hR1 : RuM R ln sy en m1 := by
      refine ⟨hR24, fun r hr => ⟨(hR.2 r hr).1, fun q hq => ?_⟩⟩
      rw [a1, a1]
      exact (hR.2 r hr).2 q hq
    obtain ⟨f', k1, k2⟩ := openAll_eq (m := m1) (A := A) hR1 (by rw [f1 4 (by omega)]; exact h4) (by rw [f1 2 (by omega)]; exact hA (by omega)) hA6 (fun r hr k hk => ((hT r hr).1 k hk).1)
    obtain ⟨m2, hm2⟩ : ∃ m2, sF (sA (sA (sF (sF (sF m1 7 (nI A)) 8 0) 9 0) 16 f') 17 (put (gA m1 17) 0 (List.range R))) 8 (nI R) = m2 := ⟨_, rfl⟩
    rw [hm2] at k2
    have f2 : ∀ j, j < 7 ∨ 9 < j → gF m2 j = gF m1 j := by
      intro j hj
      rw [← hm2]
      simp only [gF_sF, gF_sA]
      repeat rw [if_neg (by omega)]
    have a2 : ∀ j, j < 16 ∨ 17 < j → gA m2 j = gA m1 j := by
      intro j hj
      rw [← hm2]
      simp only [gA_sF, gA_sA]
      repeat rw [if_neg (by omega)]
    have hR2 : RuM R ln sy en m2 := by
      refine ⟨hR24, fun r hr => ⟨(hR.2 r hr).1, fun q hq => ?_⟩⟩
      rw [a2 5 (by omega), a2 8 (by omega)]
      exact (hR1.2 r hr).2 q hq
    have hC2 : ConM N ct ar m2 := by
      obtain ⟨c1, c2, c3, c4⟩ := hC
      refine ⟨c1, c2, by rw [f2 1 (by omega), f1 1 (by omega)]; exact c3, fun c hc => ?_⟩
      rw [a2 1 (by omega), a2 2 (by omega), a1, a1]
      exact c4 c hc
    have hH2 : Hold m2 [] := hH1.kept (fun j j1 j2 => f2 j (by omega)) (fun j j1 j2 => a2 j (by omega))
    have hlen : (List.range R).length = R := List.length_range
    have hsum : sumR en (op0 en A) (List.range R) = bs R := by
      have h6 := sum_range ln bs R hb
      rw [h6, hb0, Nat.zero_add]
      unfold sumR
      congr 1
      apply List.map_congr_left
      intro r hr
      exact top_rs hW hT (List.mem_range.mp hr)
    obtain ⟨m3, e1, e2, e3, e4, e5⟩ := laid_main hW hct 300 184 (List.range R) (op0 en A) A 0 R 0 [] (-1) 0 m2 (by omega) (top_GW hT (by omega)) (fun r hr => by
        have hr := List.mem_range.mp hr
        have := (hR.2 r hr).1
        rw [top_rs hW hT hr, hlen]
        omega) (by omega) hR2 hC2 (fun r hr => by
        rw [← hm2]
        exact k1 r (List.mem_range.mp hr)) (by
        rw [← hm2]
        intro i hi
        exact put_in hi) (by omega) (by omega) (by omega) (by rw [← hm2]; rfl) (by rw [← hm2]; rfl) (by rw [← hm2]; rfl) hH2 (by rw [hsum, hlen]; simp; omega) (by simp [mxN]) (by omega)
    rw [hlen] at e1
    have hm24 : gF m2 4 = nI R := by rw [f2 4 (by omega), f1 4 (by omega)]; exact h4
    have hTT : TT R A N ar sy en = Tr N ar sy en 300 (List.range R) (op0 en A) A (-1) 0 := if_neg h0
    have hCC : CC R A N ct ar sy en = Cvr N ct ar sy en 300 (List.range R) (op0 en A) A := if_neg h0
    rw [← hCC] at e1
    rw [← hTT] at e3 e4 e5
    refine ⟨sF m3 14 (bI (CC R A N ct ar sy en)), ?_, ?_, ?_, ?_, rfl, ?_, ?_⟩
    · rw [k2, bo_s, hm24]
      have e1' : F_X9_laid 300 0 (nI R) (-1) 0 m2 = some (bI (CC R A N ct ar sy en), m3) := e1
      rw [e1', bo_s, ck_h (by cases CC R A N ct ar sy en <;> rfl), bd_r]
    · intro j hj
      rw [gF_sF, if_neg (by omega), e2.1 j (by omega), f2 j (by omega), f1 j (by omega)]
    · intro j hj
      rw [gA_sF, e2.2.1 j (by omega), a2 j (by omega), a1]
    · rw [List.nil_append] at e3
      exact e3.kept (fun j j1 j2 => by rw [gF_sF, if_neg (by omega)]) (fun j j1 j2 => rfl)
    · rw [hsum, hlen] at e4
      omega
    · omega
