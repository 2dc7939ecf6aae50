/-! the class comes to a node -/
section
variable {N n A R K : Nat} {ar : Nat → Nat} {rw : Nat → Int32} {te : Nat → Nat} {ln bs : Nat → Nat} {sy : Nat → Nat → Int32} {en uc pc : Nat → Nat → Nat}
/-- whether a label is that of the cell that was asked, and what names became then -/
def acc (n : Nat) (rw : Nat → Int32) (ar : Nat → Nat) (β : Bd) (x : Nat) (lab : Option Nat) : Option Bd := match lab with
  | none => some β
  | some i => match cn n rw ar β x with
    | none => some (β ++ [(x, i)])
    | some j => if j = i then some β else none
def lbI (lab : Option Nat) : Int32 := match lab with
  | none => -1
  | some i => nI i
/-- an entry of the walk -/
def Ent (dep : Nat) (β : Bd) (as af : Nat) (c : St) : Prop := gA c 44 dep = nI β.length ∧ gA c 46 dep = nI as ∧ gA c 47 dep = nI af
/-- how a group's open spots stand to the terms -/
def Pth (n A : Nat) (rw : Nat → Int32) (te ar : Nat → Nat) (ln bs : Nat → Nat) (uc pc : Nat → Nat → Nat) (f22 f45 : Nat → Int32) (dep : Nat) (g : List Nat) (op : Nat → List Nat) (K : Nat) (ts : List Nat) (β : Bd) : Prop :=
  ∀ r, r ∈ g → ∀ s, s < K → (uc r (nth (op r) s) = 0 ∧ pc r (nth (op r) s) < A ∧ nth ts s = mtp rw (ch te 0 (pc r (nth (op r) s)))) ∨ ∃ p y dp i, uc r (nth (op r) s) = p + 1 ∧ p < ln r ∧ f22 (bs r + p) = nI dp ∧ dp < dep ∧ f45 (dp + 1) = nI y ∧ VId n rw ar β y ∧ cn n rw ar β y = some i ∧ pc r (nth (op r) s) < ar i ∧ nth ts s = chT n rw te ar β y (pc r (nth (op r) s))
/-- what stays while the terms are walked -/
def FrK (c c' : St) : Prop := (∀ j, j < 11 → gF c' j = gF c j) ∧ ∀ j, j < 33 → gA c' j = gA c j
theorem FrK.refl (c : St) : FrK c c := ⟨fun _ _ => rfl, fun _ _ => rfl⟩
theorem FrK.trans {a b c : St} (h : FrK a b) (h2 : FrK b c) : FrK a c := ⟨fun j j1 => by rw [h2.1 j j1, h.1 j j1], fun j j1 => by rw [h2.2 j j1, h.2 j j1]⟩
theorem FrB.frK {c c' : St} (h : FrB c c') : FrK c c' := ⟨fun j j1 => h.1 j (by omega), fun j j1 => h.2 j (by omega)⟩
/-- the outcomes stay -/
def OKp (c c' : St) : Prop := gF c' 15 = gF c 15 ∧ gF c' 16 = gF c 16 ∧ (∀ j, 40 ≤ j → j ≤ 43 → gA c' j = gA c j) ∧ gA c' 48 = gA c 48
theorem OKp.refl (c : St) : OKp c c := ⟨rfl, rfl, fun _ _ _ => rfl, rfl⟩
theorem OKp.trans {a b c : St} (h : OKp a b) (h2 : OKp b c) : OKp a c := ⟨by rw [h2.1, h.1], by rw [h2.2.1, h.2.1], fun j j1 j2 => by rw [h2.2.2.1 j j1 j2, h.2.2.1 j j1 j2], by rw [h2.2.2.2, h.2.2.2]⟩
theorem FrB.okp {c c' : St} (h : FrB c c') : OKp c c' := ⟨h.1 15 (by omega), h.1 16 (by omega), fun j j1 j2 => h.2 j (by omega), h.2 48 (by omega)⟩
theorem OutC.kept {O : List Oc} {c c' : St} (h : OutC O c) (k : OKp c c') : OutC O c' := by
  unfold OutC
  rw [k.1, k.2.1, k.2.2.1 40 (by omega) (by omega), k.2.2.1 41 (by omega) (by omega), k.2.2.1 42 (by omega) (by omega), k.2.2.1 43 (by omega) (by omega), k.2.2.2]
  exact h
/-- what the walk has of the tree and of the signature -/
def WkC (N n A : Nat) (ar : Nat → Nat) (R : Nat) (ln bs : Nat → Nat) (sy : Nat → Nat → Int32) (en uc pc : Nat → Nat → Nat) (f22 : Nat → Int32) (X : List Nd) (c : St) : Prop := HoldC bs X c ∧ RlC R ln bs sy en uc pc c ∧ gA c 22 = f22 ∧ PaC N ar A c
theorem WkC.kept {f22 : Nat → Int32} {X : List Nd} {c c' : St} (h : WkC N n A ar R ln bs sy en uc pc f22 X c) (k : FrK c c') : WkC N n A ar R ln bs sy en uc pc f22 X c' := by
  obtain ⟨h1, h2, h3, h4⟩ := h
  refine ⟨h1.kept (k.1 9 (by omega)) (fun j j1 j2 => k.2 j (by omega)), ?_, by rw [k.2 22 (by omega)]; exact h3, h4.kept (k.1 3 (by omega)) (k.2 10 (by omega))⟩
  unfold RlC
  rw [k.1 8 (by omega), k.2 17 (by omega), k.2 18 (by omega), k.2 19 (by omega), k.2 20 (by omega), k.2 21 (by omega)]
  exact h2
/-- the rest of coming to a node that is no branch -/
theorem comes_85 {X : List Nd} {c : St} {k dep : Nat} {x : Nd} (hH : HoldC bs X c) (hx : X[k]? = some x) (hX : X.length ≤ 559) (hdep : dep ≤ 184) {β : Bd} {as af : Nat} (h12 : gF c 12 = nI β.length) (h46 : gA c 46 dep = nI as) (h47 : gA c 47 dep = nI af) :
    ∃ c', F_X7_comesTo_85 (nI k) (nI dep) c = (if nI x.1 = 1 then bo (F_X7_ask (sbj bs x) (nI (dep + 1)) c') (fun _ s11 => some (1, s11)) else some (1, c')) ∧ Ent (dep + 1) β as af c' ∧ (∀ j, gF c' j = gF c j) ∧ (∀ j, j ≠ 44 → j ≠ 46 → j ≠ 47 → gA c' j = gA c j) ∧ ∀ j y, y ≤ dep → gA c' j y = gA c j y := by
  have hk : k < X.length := (List.getElem?_eq_some_iff.mp hx).1
  unfold F_X7_comesTo_85
  rw [nI_1, wr_in _ _ (by omega) (by omega), h12, bd_r]
  obtain ⟨c1, hc1⟩ : ∃ c1, sA c 44 (upd (gA c 44) (dep + 1) (nI β.length)) = c1 := ⟨_, rfl⟩
  have e46 : gA c1 46 dep = nI as := by rw [← hc1]; exact h46
  rw [hc1, rd_in _ (by omega) (by omega), e46, bd_r, wr_in _ _ (by omega) (by omega), bd_r]
  obtain ⟨c2, hc2⟩ : ∃ c2, sA c1 46 (upd (gA c1 46) (dep + 1) (nI as)) = c2 := ⟨_, rfl⟩
  have e47 : gA c2 47 dep = nI af := by rw [← hc2, ← hc1]; exact h47
  rw [hc2, rd_in _ (by omega) (by omega), e47, bd_r, wr_in _ _ (by omega) (by omega), bd_r]
  obtain ⟨c3, hc3⟩ : ∃ c3, sA c2 47 (upd (gA c2 47) (dep + 1) (nI af)) = c3 := ⟨_, rfl⟩
  have a3 : ∀ j, j ≠ 44 → j ≠ 46 → j ≠ 47 → gA c3 j = gA c j := fun j j1 j2 j3 => by rw [← hc3, gA_sA, if_neg j3, ← hc2, gA_sA, if_neg j2, ← hc1, gA_sA, if_neg j1]
  have f3 : ∀ j, gF c3 j = gF c j := fun j => by rw [← hc3, ← hc2, ← hc1]; rfl
  have b44 : gA c3 44 = upd (gA c 44) (dep + 1) (nI β.length) := by rw [← hc3, ← hc2, ← hc1]; rfl
  have b46 : gA c3 46 = upd (gA c 46) (dep + 1) (nI as) := by rw [← hc3, ← hc2, ← hc1]; rfl
  have b47 : gA c3 47 = upd (gA c 47) (dep + 1) (nI af) := by rw [← hc3, ← hc2, ← hc1]; rfl
  obtain ⟨n1, n2, -⟩ := hH.2 k x hx
  rw [hc3, rd_in _ (by omega) (by omega), a3 23 (by omega) (by omega) (by omega), n1, bd_r, rd_in _ (by omega) (by omega), a3 24 (by omega) (by omega) (by omega), n2, bd_r]
  refine ⟨c3, ?_, ⟨by rw [b44, upd_s], by rw [b46, upd_s], by rw [b47, upd_s]⟩, f3, a3, fun j y hy => ?_⟩
  · by_cases h1 : nI x.1 = 1
    · rw [if_pos h1, if_pos h1]
      rfl
    · rw [if_neg h1, if_neg h1]
      rfl
  · by_cases j1 : j = 44
    · rw [j1, b44, upd_n _ _ (by omega)]
    · by_cases j2 : j = 46
      · rw [j2, b46, upd_n _ _ (by omega)]
      · by_cases j3 : j = 47
        · rw [j3, b47, upd_n _ _ (by omega)]
        · rw [a3 j j1 j2 j3]
/-- a branch asks -/
theorem askW_eq (hW : TmW n N A rw te ar) (hN : N ≤ 60) (hA6 : A ≤ 6) (har : ∀ c, c < N → ar c ≤ 4) (hB : BsW R ln bs) {f22 : Nat → Int32} {X : List Nd} {c : St} (hK : WkC N n A ar R ln bs sy en uc pc f22 X c) {β : Bd} (hBW : BW n N ar β) (hb : 8 + n + sz ar β ≤ 808) (hC : CT n rw te ar β c) {r q dep as af t : Nat} (hr : r < R) (hq : q < ln r) (hdep : dep ≤ 184) (he : Ent (dep + 1) β as af c)
    (hp : (uc r q = 0 ∧ pc r q < A ∧ t = mtp rw (ch te 0 (pc r q))) ∨ ∃ p y dp i, uc r q = p + 1 ∧ p < ln r ∧ f22 (bs r + p) = nI dp ∧ dp < dep ∧ gA c 45 (dp + 1) = nI y ∧ VId n rw ar β y ∧ cn n rw ar β y = some i ∧ pc r q < ar i ∧ t = chT n rw te ar β y (pc r q)) :
    ∃ c', F_X7_ask (nI (bs r + q)) (nI (dep + 1)) c = some (0, c') ∧ Ent (dep + 1) β (as + 1) (af + (if (cn n rw ar β t).isNone = true then 1 else 0)) c' ∧ gA c' 45 (dep + 1) = nI t ∧ VId n rw ar β t ∧ (∀ j, gF c' j = gF c j) ∧ (∀ j, j < 45 ∨ 47 < j → gA c' j = gA c j) ∧ ∀ j y, y ≤ dep → gA c' j y = gA c j y := by
  obtain ⟨hH, hRl, h22, hPa⟩ := hK
  have hb5 := hB.2.2.2
  have hlt := hB.lt hr hq
  obtain ⟨r1, r2, r3, r4⟩ := hRl.2.2 r hr q hq
  -- the part that is asked
  obtain ⟨z0, hz0, hpart, hvid⟩ : ∃ z0, F_X7_ask (nI (bs r + q)) (nI (dep + 1)) c = F_X7_ask_41 (nI (bs r + q)) (nI (dep + 1)) z0 c ∧ F_X5_part z0 (nI (pc r q)) c = some (nI t, c) ∧ VId n rw ar β t := by
    unfold F_X7_ask
    rw [rd_in _ (by omega) (by omega), r2, bd_r]
    rcases hp with ⟨h1, h2, h3⟩ | ⟨p, y, dp, i, h1, h2, h3, h4, h5, h6, h7, h8, h9⟩
    · refine ⟨-1, ?_, ?_, ?_⟩
      · rw [h1, if_pos (by rfl)]
      · rw [partT_eq hW hN hA6 hBW hC hb h2, h3]
      · have hkn := hW.2.2.1 _ h2
        have hri : rowId n (8 + ch te 0 (pc r q)) := ⟨by omega, by omega⟩
        have := can_VId (rw := rw) (en := te) (ar := ar) (β := β) hW (Or.inl hri)
        unfold can at this
        rw [if_pos hri, show 8 + ch te 0 (pc r q) - 8 = ch te 0 (pc r q) by omega] at this
        rw [h3]
        exact this
    · have hltp := hB.lt hr h2
      refine ⟨nI y, ?_, ?_, ?_⟩
      · rw [h1, upI_s, if_neg (nI_ne_m1 (by omega)), rd_in _ (by omega) (by omega), h22, h3, bd_r, nI_1, rd_in _ (by omega) (by omega), h5, bd_r]
      · rw [part_eq hW hN har hBW hC hb h6 h7 h8, h9]
      · rw [h9]; exact kid_id hW hN hBW h6 h7 h8
  obtain ⟨e1, e2, e3⟩ := he
  rw [hz0, F_X7_ask_41, rd_in _ (by omega) (by omega), r3, bd_r, hpart, bo_s, wr_in _ _ (by omega) (by omega), bd_r]
  obtain ⟨c1, hc1⟩ : ∃ c1, sA c 45 (upd (gA c 45) (dep + 1) (nI t)) = c1 := ⟨_, rfl⟩
  have k46 : gA c1 46 (dep + 1) = nI as := by rw [← hc1]; exact e2
  rw [hc1, rd_in _ (by omega) (by omega), k46, bd_r, wr_in _ _ (by omega) (by omega), nI_1, bd_r]
  obtain ⟨c2, hc2⟩ : ∃ c2, sA c1 46 (upd (gA c1 46) (dep + 1) (nI (as + 1))) = c2 := ⟨_, rfl⟩
  have a2 : ∀ j, j ≠ 45 → j ≠ 46 → gA c2 j = gA c j := fun j j1 j2 => by rw [← hc2, gA_sA, if_neg j2, ← hc1, gA_sA, if_neg j1]
  have f2 : ∀ j, gF c2 j = gF c j := fun j => by rw [← hc2, ← hc1]; rfl
  have b45 : gA c2 45 = upd (gA c 45) (dep + 1) (nI t) := by rw [← hc2, ← hc1]; rfl
  have b46 : gA c2 46 = upd (gA c 46) (dep + 1) (nI (as + 1)) := by rw [← hc2, ← hc1]; rfl
  have hC2 : CT n rw te ar β c2 := hC.kept (fun j _ _ => f2 j) (fun j j1 => a2 j (by omega) (by omega))
  rw [hc2, free_eq hW hN hBW hC2 hb hvid, bo_s]
  cases hf : (cn n rw ar β t).isNone with
  | false =>
    rw [if_pos (show bI false = 0 by decide)]
    refine ⟨c2, rfl, ⟨by rw [a2 44 (by omega) (by omega)]; exact e1, by rw [b46, upd_s], by rw [a2 47 (by omega) (by omega)]; exact e3⟩, by rw [b45, upd_s], hvid, f2, fun j j1 => a2 j (by omega) (by omega), fun j y hy => ?_⟩
    by_cases j1 : j = 45
    · rw [j1, b45, upd_n _ _ (by omega)]
    · by_cases j2 : j = 46
      · rw [j2, b46, upd_n _ _ (by omega)]
      · rw [a2 j j1 j2]
  | true =>
    rw [if_neg (show ¬ bI true = 0 by decide), rd_in _ (by omega) (by omega), a2 47 (by omega) (by omega), e3, bd_r, wr_in _ _ (by omega) (by omega), nI_1, bd_r]
    obtain ⟨c3, hc3⟩ : ∃ c3, sA c2 47 (upd (gA c 47) (dep + 1) (nI (af + 1))) = c3 := ⟨_, rfl⟩
    have a3 : ∀ j, j ≠ 47 → gA c3 j = gA c2 j := fun j j1 => by rw [← hc3, gA_sA, if_neg j1]
    have b47 : gA c3 47 = upd (gA c 47) (dep + 1) (nI (af + 1)) := by rw [← hc3]; exact gA_sA_s _ _ _
    rw [hc3]
    refine ⟨c3, rfl, ⟨by rw [a3 44 (by omega), a2 44 (by omega) (by omega)]; exact e1, by rw [a3 46 (by omega), b46, upd_s], by rw [b47, upd_s]; rfl⟩, by rw [a3 45 (by omega), b45, upd_s], hvid, fun j => by rw [← hc3, gF_sA, f2], fun j j1 => by rw [a3 j (by omega), a2 j (by omega) (by omega)], fun j y hy => ?_⟩
    by_cases j3 : j = 47
    · rw [j3, b47, upd_n _ _ (by omega)]
    · rw [a3 j j3]
      by_cases j1 : j = 45
      · rw [j1, b45, upd_n _ _ (by omega)]
      · by_cases j2 : j = 46
        · rw [j2, b46, upd_n _ _ (by omega)]
        · rw [a2 j j1 j2]
/-- the label of a node is held against the cell that was asked -/
theorem comes_label (hW : TmW n N A rw te ar) (hN : N ≤ 60) {f22 : Nat → Int32} {X : List Nd} {c : St} (hK : WkC N n A ar R ln bs sy en uc pc f22 X c) {β γ : Bd} (hBW : BW n N ar (β ++ γ)) (hl : (β ++ γ).length ≤ 160) (hC : CT n rw te ar (β ++ γ) c) {k dep as af x : Nat} {lab : Option Nat} {nd : Nd} (hx : X[k]? = some nd) (hX : X.length ≤ 559) (hlab : nd.2.2.2.2.1 = lbI lab) (hdep : dep ≤ 184) (he : Ent dep β as af c) (hlb : ∀ i, lab = some i → i < N ∧ β.length < 160 ∧ gA c 45 dep = nI x ∧ VId n rw ar β x) :
    ∃ c1, FrB c c1 ∧ (match acc n rw ar β x lab with
      | none => F_X7_comesTo (nI k) (nI dep) c = some (0, c1) ∧ CT n rw te ar β c1
      | some β1 => F_X7_comesTo (nI k) (nI dep) c = F_X7_comesTo_85 (nI k) (nI dep) c1 ∧ CT n rw te ar β1 c1 ∧ BW n N ar β1) := by
  have hk : k < X.length := (List.getElem?_eq_some_iff.mp hx).1
  obtain ⟨hH, hRl, h22, hPa⟩ := id hK
  have har : ∀ c, c < N → ar c ≤ 4 := fun i hi => (hPa.2.1 i hi).1
  have hsz : 8 + n + sz ar β ≤ 808 := by
    have h1 := (Vl_facts hW.1 β hBW.pre har).2.2.2
    have h2 := hW.1.1
    rw [List.length_append] at hl
    omega
  obtain ⟨c1, u1, u2, u3⟩ := unbind_eq hW.1 γ c hPa hBW hC hl
  have hPa1 : PaC N ar A c1 := hPa.kept (u3.1 3 (by omega)) (u3.2 10 (by omega))
  have hlb2 : gA c1 26 k = lbI lab := by rw [u3.2 26 (by omega), (hH.2 k nd hx).2.2.2.1, hlab]
  unfold F_X7_comesTo
  rw [rd_in _ (by omega) (by omega), he.1, bd_r, u1, bo_s, rd_in _ (by omega) (by omega), hlb2, bd_r]
  cases lab with
  | none =>
    rw [show lbI none = -1 from rfl, if_pos rfl]
    exact ⟨c1, u3, rfl, u2, hBW.pre⟩
  | some i =>
    obtain ⟨l1, l2, l3, l4⟩ := hlb i rfl
    have hlt := VId_lt l4
    rw [show lbI (some i) = nI i from rfl, if_neg (nI_ne_m1 (by omega)), rd_in _ (by omega) (by omega), u3.2 45 (by omega), l3, bd_r, free_eq hW hN hBW.pre u2 hsz l4, bo_s]
    unfold acc
    dsimp only
    cases hc : cn n rw ar β x with
    | none =>
      dsimp only
      obtain ⟨m1, m2⟩ := free_nm l4 hc
      obtain ⟨c2, b1, b2, b3⟩ := bind_eq hW.1 hPa1 hBW.pre u2 m1 m2 l1 l2
      rw [show (none : Option Nat).isNone = true from rfl, if_neg (show ¬ bI true = 0 by decide), b1, bo_s]
      exact ⟨c2, u3.trans b3, rfl, b2, hBW.pre.snoc l1 m2 m1⟩
    | some j =>
      dsimp only
      have hj := cn_lt hW hN hBW.pre l4 hc
      rw [show (some j).isNone = false from rfl, if_pos (show bI false = 0 by decide), rd_in _ (by omega) (by omega), head_eq u2 l4, hc, bd_r]
      dsimp only
      by_cases hji : j = i
      · rw [if_pos hji, if_pos (show nI j = nI i by rw [hji])]
        exact ⟨c1, u3, rfl, u2, hBW.pre⟩
      · rw [if_neg hji, if_neg (show ¬ nI j = nI i from fun z => hji (nI_inj (by omega) (by omega) z))]
        exact ⟨c1, u3, rfl, u2⟩
end
