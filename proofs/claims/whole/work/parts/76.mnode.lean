/-! a node of the tree, as the reference lays it -/
def aN (m : St) (k : Nat) (kind leaf con dep : Int32) : St :=
  sA (sA (sA (sA (sA (sA (sA m 19 (upd (gA m 19) k kind)) 20 (upd (gA m 20) k leaf)) 21 (upd (gA m 21) k (-1))) 22 (upd (gA m 22) k (-1))) 23 (upd (gA m 23) k 0)) 24 (upd (gA m 24) k con)) 25 (upd (gA m 25) k dep)
def nN (m : St) (k : Nat) (kind leaf con dep : Int32) : St :=
  sF (sF (sF (sF (aN m k kind leaf con dep) 13 (if gF m 13 < dep then dep else gF m 13)) 11 (gF m 11 + (if kind = 2 then 1 else 0))) 12 (gF m 12 + (if kind = 1 then 1 else 0))) 10 (nI (k + 1))
theorem node_eq {m : St} {k : Nat} (kind leaf con dep : Int32) (h : gF m 10 = nI k) (hk : k < 4000) : F_X9_node kind leaf con dep m = some (nI k, nN m k kind leaf con dep) := by
  unfold F_X9_node
  simp only [bd_r, gF_sA, gA_sA, h, ck_in hk (by omega : (4000 : Nat) < 2 ^ 31), nI_clamp (show k < 2 ^ 31 by omega)]
  unfold F_X9_node_99 F_X9_node_118
  by_cases h2 : kind = 2
  · have h1 : ¬ kind = 1 := by rw [h2]; decide
    simp only [if_pos h2, if_neg h1, bd_r]
    simp only [gF_sF, gF_sA, h]
    simp only [nN, aN, gF_sF, gF_sA, gA_sA, if_pos h2, if_neg h1]
    simp [nI_1, nI_pred]
    rfl
  · by_cases h1 : kind = 1
    · simp only [if_neg h2, if_pos h1, bd_r]
      simp only [gF_sF, gF_sA, h]
      simp only [nN, aN, gF_sF, gF_sA, gA_sA, if_neg h2, if_pos h1]
      simp [nI_1, nI_pred]
      rfl
    · simp only [if_neg h2, if_neg h1, bd_r]
      simp only [gF_sF, gF_sA, h]
      simp only [nN, aN, gF_sF, gF_sA, gA_sA, if_neg h2, if_neg h1]
      simp [nI_1, nI_pred]
      rfl
/-- kind (0 a leaf, 1 a branch, 2 an or), rule, spot, children, label, depth -/
abbrev Nd : Type := Nat × Nat × Nat × Nat × Int32 × Nat
def NodM (m : St) (k : Nat) (x : Nd) : Prop :=
  gA m 19 k = nI x.1 ∧ gA m 20 k = (if x.1 = 0 then nI x.2.1 else 0) ∧ gA m 21 k = (if x.1 = 1 then nI x.2.1 else -1) ∧ gA m 22 k = (if x.1 = 1 then nI x.2.2.1 else -1) ∧ gA m 23 k = nI x.2.2.2.1 ∧ gA m 24 k = x.2.2.2.2.1 ∧ gA m 25 k = nI x.2.2.2.2.2
