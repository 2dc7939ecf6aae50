/-! masks: rule r is bit r -/
def bt (x : Int32) (i : Nat) : Bool := x.toBitVec.getLsbD i
theorem bt_ext {x y : Int32} (h : ∀ i, i < 32 → bt x i = bt y i) : x = y := by
  apply Int32.toBitVec_inj.mp
  exact BitVec.eq_of_getLsbD_eq h
theorem bt_or (x y : Int32) (i : Nat) : bt (x ||| y) i = (bt x i || bt y i) := by
  unfold bt
  rw [Int32.toBitVec_or, BitVec.getLsbD_or]
theorem bt_and (x y : Int32) (i : Nat) : bt (x &&& y) i = (bt x i && bt y i) := by
  unfold bt
  rw [Int32.toBitVec_and, BitVec.getLsbD_and]
theorem bt_xor (x y : Int32) (i : Nat) : bt (x ^^^ y) i = (bt x i ^^ bt y i) := by
  unfold bt
  rw [Int32.toBitVec_xor, BitVec.getLsbD_xor]
theorem bt_0 (i : Nat) : bt 0 i = false := by
  unfold bt
  show (0#32).getLsbD i = false
  simp
theorem bt_m1 : ∀ i, i < 32 → bt (-1) i = true := by decide +kernel
theorem bt_one : ∀ r, r < 24 → ∀ i, i < 32 → bt (1 <<< (nI r &&& 31)) i = decide (i = r) := by decide +kernel
theorem sm_r : ∀ r, r < 24 → ((nI r &&& 31).toBitVec.smod 32).toNat = r := by decide +kernel
theorem bt_shr (x : Int32) {r : Nat} (hr : r < 24) : bt (x >>> (nI r &&& 31)) 0 = bt x r := by
  unfold bt
  rw [Int32.toBitVec_shiftRight, BitVec.sshiftRight_eq', sm_r r hr, BitVec.getLsbD_sshiftRight]
  simp
  omega
theorem has_eq (x : Int32) {r : Nat} (hr : r < 24) (σ : St) : F_X8_has x (nI r) σ = some (bI (bt x r), σ) := by
  unfold F_X8_has
  rw [pk_and (x >>> (nI r &&& 31)) (m := 1) 1 rfl]
  have h := bt_shr x hr
  have h0 : bt (x >>> (nI r &&& 31)) 0 = decide ((x >>> (nI r &&& 31)).toBitVec.toNat % 2 = 1) := by
    unfold bt BitVec.getLsbD
    exact Nat.testBit_zero _
  rw [h0] at h
  rw [← h]
  rcases Nat.mod_two_eq_zero_or_one (x >>> (nI r &&& 31)).toBitVec.toNat with e | e
  · rw [show (2 : Nat) ^ 1 = 2 from rfl, e, if_pos (by rfl)]; rfl
  · rw [show (2 : Nat) ^ 1 = 2 from rfl, e, if_neg (by decide)]; rfl
/-- the mask of a group -/
def mk : List Nat → Int32
  | [] => 0
  | r :: g => mk g ||| (1 <<< (nI r &&& 31))
theorem bt_mk : ∀ g : List Nat, (∀ r, r ∈ g → r < 24) → ∀ i, i < 32 → bt (mk g) i = decide (i ∈ g) := by
  intro g
  induction g with
  | nil => intro _ i _; rw [mk, bt_0]; simp
  | cons r g ih =>
    intro h i hi
    rw [mk, bt_or, ih (fun r' h' => h r' (List.mem_cons_of_mem _ h')) i hi, bt_one r (h r List.mem_cons_self) i hi]
    by_cases h1 : i ∈ g <;> by_cases h2 : i = r <;> simp [h1, h2]
theorem mk_of {x : Int32} {g : List Nat} (hg : ∀ r, r ∈ g → r < 24) (h : ∀ i, i < 32 → bt x i = decide (i ∈ g)) : x = mk g := bt_ext fun i hi => by rw [h i hi, bt_mk g hg i hi]
theorem mk_or {g : List Nat} (hg : ∀ r, r ∈ g → r < 24) {r : Nat} (hr : r < 24) : mk g ||| (1 <<< (nI r &&& 31)) = mk (g ++ [r]) := by
  refine mk_of (fun r' h => ?_) (fun i hi => ?_)
  · rcases List.mem_append.mp h with h | h
    · exact hg r' h
    · rw [List.mem_singleton.mp h]; exact hr
  · rw [bt_or, bt_mk g hg i hi, bt_one r hr i hi]
    by_cases h1 : i ∈ g <;> by_cases h2 : i = r <;> simp [h1, h2]
theorem mk_sub {g g' : List Nat} (hg : ∀ r, r ∈ g → r < 24) (hg' : ∀ r, r ∈ g' → r < 24) : mk g &&& (mk g' ^^^ (-1)) = mk (g.filter fun r => decide (r ∉ g')) := by
  refine mk_of (fun r h => hg r (List.mem_filter.mp h).1) (fun i hi => ?_)
  rw [bt_and, bt_xor, bt_mk g hg i hi, bt_mk g' hg' i hi, bt_m1 i hi]
  by_cases h1 : i ∈ g <;> by_cases h2 : i ∈ g' <;> simp [h1, h2]
theorem mk_inj {g g' : List Nat} (hg : ∀ r, r ∈ g → r < 24) (hg' : ∀ r, r ∈ g' → r < 24) (h : mk g = mk g') {r : Nat} : r ∈ g ↔ r ∈ g' := by
  by_cases hr : r < 32
  · have h1 := bt_mk g hg r hr
    have h2 := bt_mk g' hg' r hr
    rw [h, h2] at h1
    have h3 := decide_eq_decide.mp h1
    exact h3.symm
  · exact ⟨fun z => by have := hg r z; omega, fun z => by have := hg' r z; omega⟩
theorem has_mk {g : List Nat} (hg : ∀ r, r ∈ g → r < 24) {r : Nat} (hr : r < 24) (σ : St) : F_X8_has (mk g) (nI r) σ = some (bI (decide (r ∈ g)), σ) := by
  rw [has_eq _ hr, bt_mk g hg r (by omega)]
/-! the first of a group -/
def loB (r : Nat) : BitVec 32 := BitVec.ofNat 32 (2 ^ r - 1)
def onB (r : Nat) : BitVec 32 := BitVec.ofNat 32 (2 ^ r)
theorem loB_bit : ∀ r, r < 24 → ∀ i, i < 32 → (loB r).getLsbD i = decide (i < r) := by decide +kernel
theorem onB_bit : ∀ r, r < 24 → ∀ i, i < 32 → (onB r).getLsbD i = decide (i = r) := by decide +kernel
theorem lo_on : ∀ r, r < 24 → loB r + 1#32 = onB r := by decide +kernel
theorem low_bit {x : BitVec 32} {r : Nat} (hr : r < 24) (h1 : x.getLsbD r = true) (h2 : ∀ i, i < r → x.getLsbD i = false) : x &&& -x = onB r := by
  have e1 : ~~~x = (~~~x &&& ~~~(loB r)) ||| loB r := by
    apply BitVec.eq_of_getLsbD_eq
    intro i hi
    rw [BitVec.getLsbD_or, BitVec.getLsbD_and, BitVec.getLsbD_not, BitVec.getLsbD_not, loB_bit r hr i hi]
    by_cases hir : i < r
    · have h3 := h2 i hir
      rw [h3, decide_eq_true hir, decide_eq_true hi]
      rfl
    · simp [hir, hi]
  have d1 : (~~~x &&& ~~~(loB r)) &&& loB r = 0#32 := by
    apply BitVec.eq_of_getLsbD_eq
    intro i hi
    rw [BitVec.getLsbD_and, BitVec.getLsbD_and, BitVec.getLsbD_not, BitVec.getLsbD_not, loB_bit r hr i hi]
    by_cases hir : i < r <;> simp [hir]
  have d2 : (~~~x &&& ~~~(loB r)) &&& onB r = 0#32 := by
    apply BitVec.eq_of_getLsbD_eq
    intro i hi
    rw [BitVec.getLsbD_and, BitVec.getLsbD_and, BitVec.getLsbD_not, BitVec.getLsbD_not, onB_bit r hr i hi]
    by_cases hir : i = r
    · subst hir; simp [h1]
    · simp [hir]
  have e2 : -x = (~~~x &&& ~~~(loB r)) ||| onB r := by
    rw [BitVec.neg_eq_not_add]
    conv => lhs; rw [e1]
    rw [← BitVec.add_eq_or_of_and_eq_zero _ _ d1, BitVec.add_assoc, lo_on r hr, BitVec.add_eq_or_of_and_eq_zero _ _ d2]
  rw [e2]
  apply BitVec.eq_of_getLsbD_eq
  intro i hi
  rw [BitVec.getLsbD_and, BitVec.getLsbD_or, BitVec.getLsbD_and, BitVec.getLsbD_not, BitVec.getLsbD_not, onB_bit r hr i hi]
  by_cases hir : i = r
  · subst hir; simp [h1]
  · simp [hir]
    intro a _ b
    rw [a] at b
    cases b
theorem bc_lo : ∀ r, r < 24 → ∀ σ : St, F_J6_bitCount_0f7a4 (Int32.ofBitVec (onB r) - 1) σ = some (nI r, σ) := by
  intro r hr σ
  have h : ∀ r, r < 24 → ∃ e, (F_J6_bitCount_0f7a4 (Int32.ofBitVec (onB r) - 1) = fun σ => some (e, σ)) ∧ e = nI r := by
    intro r hr
    refine ⟨_, rfl, ?_⟩
    revert r hr
    decide +kernel
  obtain ⟨e, h1, h2⟩ := h r hr
  rw [h1, h2]
theorem firstOf_eq {x : Int32} {r : Nat} (hr : r < 24) (h1 : bt x r = true) (h2 : ∀ i, i < r → bt x i = false) (σ : St) : F_X1_firstOf x σ = some (nI r, σ) := by
  unfold F_X1_firstOf
  have e : x &&& -x = Int32.ofBitVec (onB r) := by
    apply Int32.toBitVec_inj.mp
    rw [Int32.toBitVec_and, Int32.toBitVec_neg, low_bit hr h1 h2]
    rfl
  rw [e, bc_lo r hr, bo_s]
