/-! how many bits a mask has -/
theorem and_by (a x m n : Nat) (ha : a < 256) (hm : m < 256) : (a + 256 * x) &&& (m + 256 * n) = (a &&& m) + 256 * (x &&& n) := by
  have h : ∀ b y : Nat, b < 256 → ∀ i, (b + 256 * y).testBit i = if i < 8 then b.testBit i else y.testBit (i - 8) := by
    intro b y hb i
    rw [Nat.add_comm]
    exact Nat.testBit_two_pow_mul_add y (i := 8) hb i
  have hlt : a &&& m < 256 := Nat.lt_of_le_of_lt Nat.and_le_left ha
  apply Nat.eq_of_testBit_eq
  intro i
  rw [Nat.testBit_and, h a x ha, h m n hm, h _ _ hlt]
  split
  · rw [Nat.testBit_and]
  · rw [Nat.testBit_and]
theorem nI_and {a b : Nat} : nI a &&& nI b = nI (a &&& b) := by
  apply Int32.toBitVec_inj.mp
  rw [Int32.toBitVec_and]
  show BitVec.ofNat 32 a &&& BitVec.ofNat 32 b = BitVec.ofNat 32 (a &&& b)
  rw [BitVec.ofNat_and]
def f1 (b : Nat) : Nat := b - (b / 2 &&& 85)
def f2 (b : Nat) : Nat := (b &&& 51) + (b / 4 &&& 51)
def f3 (b : Nat) : Nat := (b + b / 16) &&& 15
def pc8 (b : Nat) : Nat := f3 (f2 (f1 b))
theorem t1 : ∀ b, b < 256 → (b / 2 + 128 &&& 85) = (b / 2 &&& 85) ∧ (b / 2 &&& 85) ≤ b ∧ f1 b < 256 := by decide +kernel
theorem t2 : ∀ b, b < 256 → ∀ y, y < 4 → (b / 4 + 64 * y &&& 51) = (b / 4 &&& 51) ∧ f2 (f1 b) < 256 ∧ f2 b < 256 := by decide +kernel
theorem t3 : ∀ b, b < 256 → ∀ y, y < 16 → f2 (f1 b) % 16 ≤ 4 ∧ f2 (f1 b) + f2 (f1 b) / 16 + 16 * (y % 5) < 256 ∧ ((f2 (f1 b) + f2 (f1 b) / 16 + 16 * (y % 5)) &&& 15) = pc8 b ∧ pc8 b ≤ 8 := by decide +kernel
theorem p_two' : ∀ b, b < 256 → ∀ i, i < 8 → ∀ j, j < 8 → (i == j || !b.testBit i || !b.testBit j || decide (2 ≤ pc8 b)) = true := by decide +kernel
theorem p_two (b : Nat) (hb : b < 256) (i : Nat) (hi : i < 8) (j : Nat) (hj : j < 8) (hij : i ≠ j) (h1 : b.testBit i = true) (h2 : b.testBit j = true) : 2 ≤ pc8 b := by
  have h := p_two' b hb i hi j hj
  rw [h1, h2, beq_false_of_ne hij] at h
  exact of_decide_eq_true h
theorem bc_fin {a b c : Nat} (ha : a ≤ 8) (hb : b ≤ 8) (hc : c ≤ 8) : (a + 256 * (b + 256 * (c + 256 * 0)) + (a + 256 * (b + 256 * (c + 256 * 0))) / 2 ^ 8 + (a + 256 * (b + 256 * (c + 256 * 0)) + (a + 256 * (b + 256 * (c + 256 * 0))) / 2 ^ 8) / 2 ^ 16) % 2 ^ 6 = a + b + c := by
  have e1 : (a + 256 * (b + 256 * (c + 256 * 0))) / 2 ^ 8 = b + 256 * c := by omega
  rw [e1]
  have e2 : (a + 256 * (b + 256 * (c + 256 * 0)) + (b + 256 * c)) / 2 ^ 16 = c := by omega
  rw [e2]
  omega
theorem p_one : ∀ b, b < 256 → ∀ i, i < 8 → b.testBit i = true → 1 ≤ pc8 b := by decide +kernel
def S1 (M C : Nat) : Nat := M - (M / 2 &&& C)
def S2 (M C : Nat) : Nat := (M &&& C) + (M / 4 &&& C)
theorem S1_by {b x C : Nat} (hb : b < 256) (hC : x / 2 &&& C ≤ x) : S1 (b + 256 * x) (85 + 256 * C) = f1 b + 256 * S1 x C := by
  unfold S1 f1
  have e : (b + 256 * x) / 2 = (b / 2 + 128 * (x % 2)) + 256 * (x / 2) := by omega
  rw [e, and_by _ _ _ _ (by omega) (by omega)]
  have h1 := t1 b hb
  have h2 : (b / 2 + 128 * (x % 2)) &&& 85 = b / 2 &&& 85 := by
    rcases Nat.mod_two_eq_zero_or_one x with z | z
    · rw [z, Nat.mul_zero, Nat.add_zero]
    · rw [z, Nat.mul_one]; exact h1.1
  rw [h2]
  have h3 := h1.2.1
  omega
theorem S2_by {b x C : Nat} (hb : b < 256) : S2 (b + 256 * x) (51 + 256 * C) = f2 b + 256 * S2 x C := by
  unfold S2 f2
  have e : (b + 256 * x) / 4 = (b / 4 + 64 * (x % 4)) + 256 * (x / 4) := by omega
  rw [e, and_by _ _ _ _ hb (by omega), and_by _ _ _ _ (by omega) (by omega), (t2 b hb (x % 4) (by omega)).1]
  omega
theorem and_le_half (x C : Nat) : x / 2 &&& C ≤ x := Nat.le_trans Nat.and_le_left (by omega)
theorem bc_val {b0 b1 b2 : Nat} (h0 : b0 < 256) (h1 : b1 < 256) (h2 : b2 < 256) (σ : St) : F_J6_bitCount_0f7a4 (nI (b0 + 256 * (b1 + 256 * (b2 + 256 * 0)))) σ = some (nI (pc8 b0 + pc8 b1 + pc8 b2), σ) := by
  obtain ⟨M, hM⟩ : ∃ M, b0 + 256 * (b1 + 256 * (b2 + 256 * 0)) = M := ⟨_, rfl⟩
  have hlt : M < 2 ^ 24 := by omega
  unfold F_J6_bitCount_0f7a4
  rw [hM, pk_ushrN (by omega) 1 1 rfl, show (1431655765 : Int32) = nI 1431655765 from rfl, nI_and, pk_sub (and_le_half M _), bd_r]
  have e1 : M - (M / 2 ^ 1 &&& 1431655765) = f1 b0 + 256 * (f1 b1 + 256 * (f1 b2 + 256 * 0)) := by
    show S1 M (85 + 256 * (85 + 256 * (85 + 256 * 85))) = _
    rw [← hM, S1_by h0 (and_le_half _ _), S1_by h1 (and_le_half _ _), S1_by h2 (and_le_half _ _)]
    rfl
  rw [e1]
  have a0 := (t1 b0 h0).2.2
  have a1 := (t1 b1 h1).2.2
  have a2 := (t1 b2 h2).2.2
  rw [pk_ushrN (by omega) 2 2 rfl, show (858993459 : Int32) = nI 858993459 from rfl, nI_and, nI_and, nI_add, bd_r]
  have e2 : (f1 b0 + 256 * (f1 b1 + 256 * (f1 b2 + 256 * 0)) &&& 858993459) + ((f1 b0 + 256 * (f1 b1 + 256 * (f1 b2 + 256 * 0))) / 2 ^ 2 &&& 858993459) = f2 (f1 b0) + 256 * (f2 (f1 b1) + 256 * (f2 (f1 b2) + 256 * 0)) := by
    show S2 _ (51 + 256 * (51 + 256 * (51 + 256 * 51))) = _
    rw [S2_by a0, S2_by a1, S2_by a2]
    rfl
  rw [e2]
  obtain ⟨d0, hd0⟩ : ∃ d, f2 (f1 b0) = d := ⟨_, rfl⟩
  obtain ⟨d1, hd1⟩ : ∃ d, f2 (f1 b1) = d := ⟨_, rfl⟩
  obtain ⟨d2, hd2⟩ : ∃ d, f2 (f1 b2) = d := ⟨_, rfl⟩
  have c0 := (t2 b0 h0 0 (by omega)).2.1
  have c1 := (t2 b1 h1 0 (by omega)).2.1
  have c2 := (t2 b2 h2 0 (by omega)).2.1
  have g0 := t3 b0 h0 (d1 % 16) (by omega)
  have g1 := t3 b1 h1 (d2 % 16) (by omega)
  have g2 := t3 b2 h2 0 (by omega)
  have k1 := (t3 b1 h1 0 (by omega)).1
  have k2 := (t3 b2 h2 0 (by omega)).1
  rw [hd0] at c0 g0
  rw [hd1] at c1 g1 k1
  rw [hd2] at c2 g2 k2
  rw [hd0, hd1, hd2, pk_ushrN (by omega) 4 4 rfl, show (252645135 : Int32) = nI 252645135 from rfl, nI_add, nI_and, bd_r]
  have e3 : (d0 + 256 * (d1 + 256 * (d2 + 256 * 0)) + (d0 + 256 * (d1 + 256 * (d2 + 256 * 0))) / 2 ^ 4 &&& 252645135) = pc8 b0 + 256 * (pc8 b1 + 256 * (pc8 b2 + 256 * 0)) := by
    have q : d0 + 256 * (d1 + 256 * (d2 + 256 * 0)) + (d0 + 256 * (d1 + 256 * (d2 + 256 * 0))) / 2 ^ 4 = (d0 + d0 / 16 + 16 * (d1 % 16 % 5)) + 256 * ((d1 + d1 / 16 + 16 * (d2 % 16 % 5)) + 256 * ((d2 + d2 / 16 + 16 * (0 % 5)) + 256 * 0)) := by
      rw [Nat.mod_eq_of_lt (show d1 % 16 < 5 by omega), Nat.mod_eq_of_lt (show d2 % 16 < 5 by omega)]
      omega
    rw [q, show (252645135 : Nat) = 15 + 256 * (15 + 256 * (15 + 256 * 15)) from rfl, and_by _ _ _ _ g0.2.1 (by omega), and_by _ _ _ _ g1.2.1 (by omega), and_by _ _ _ _ g2.2.1 (by omega), g0.2.2.1, g1.2.2.1, g2.2.2.1]
    simp
  have p0 := g0.2.2.2
  have p1 := g1.2.2.2
  have p2 := g2.2.2.2
  rw [e3, pk_ushrN (by omega) 8 8 rfl, nI_add, bd_r, pk_ushrN (by omega) 16 16 rfl, nI_add, bd_r, pk_andN (by omega) (m := 63) 6 rfl]
  rw [bc_fin p0 p1 p2]
theorem bc_two {x : Int32} (hx : ∀ i, i < 32 → bt x i = true → i < 24) {i j : Nat} (hij : i ≠ j) (hi : i < 24) (hj : j < 24) (h1 : bt x i = true) (h2 : bt x j = true) (σ : St) : ∃ v, F_J6_bitCount_0f7a4 x σ = some (v, σ) ∧ ¬ v ≤ 1 := by
  obtain ⟨M, hM⟩ : ∃ M, x.toBitVec.toNat = M := ⟨_, rfl⟩
  have hxM : x = nI M := by
    apply Int32.toBitVec_inj.mp
    rw [← hM]
    show _ = BitVec.ofNat 32 _
    rw [BitVec.ofNat_toNat]
    simp
  have hb : ∀ k, bt x k = M.testBit k := fun k => by unfold bt BitVec.getLsbD; rw [hM]
  have h32 : M < 2 ^ 32 := by rw [← hM]; exact x.toBitVec.isLt
  have hlt : M < 2 ^ 24 := by
    apply Nat.lt_pow_two_of_testBit
    intro k hk
    by_cases hk2 : k < 32
    · cases hz : M.testBit k with
      | false => rfl
      | true =>
        have := hx k hk2 (by rw [hb]; exact hz)
        omega
    · exact Nat.testBit_lt_two_pow (Nat.lt_of_lt_of_le h32 (Nat.pow_le_pow_right (by omega) (by omega)))
  rw [hb] at h1 h2
  have hsp : M = M % 256 + 256 * (M / 256 % 256 + 256 * (M / 65536 + 256 * 0)) := by omega
  have hv := bc_val (show M % 256 < 256 by omega) (show M / 256 % 256 < 256 by omega) (show M / 65536 < 256 by omega) σ
  rw [← hsp] at hv
  refine ⟨_, by rw [hxM, hv], ?_⟩
  have p0 := (t3 (M % 256) (by omega) 0 (by omega)).2.2.2
  have p1 := (t3 (M / 256 % 256) (by omega) 0 (by omega)).2.2.2
  have p2 := (t3 (M / 65536) (by omega) 0 (by omega)).2.2.2
  have key : ∀ k, k < 24 → M.testBit k = true → (k < 8 ∧ (M % 256).testBit k = true) ∨ (8 ≤ k ∧ k < 16 ∧ (M / 256 % 256).testBit (k - 8) = true) ∨ (16 ≤ k ∧ (M / 65536).testBit (k - 16) = true) := by
    intro k hk ht
    have q0 : (M % 256).testBit k = (decide (k < 8) && M.testBit k) := Nat.testBit_mod_two_pow M 8 k
    by_cases k8 : k < 8
    · left
      exact ⟨k8, by rw [q0, ht, decide_eq_true k8]; rfl⟩
    · right
      by_cases k16 : k < 16
      · left
        refine ⟨by omega, k16, ?_⟩
        have q1 : (M / 256 % 256).testBit (k - 8) = (decide (k - 8 < 8) && (M / 256).testBit (k - 8)) := Nat.testBit_mod_two_pow (M / 256) 8 (k - 8)
        have q2 : (M / 2 ^ 8).testBit (k - 8) = M.testBit (8 + (k - 8)) := by rw [Nat.testBit_div_two_pow]; congr 1; omega
        rw [q1, decide_eq_true (by omega), Bool.true_and, show (256 : Nat) = 2 ^ 8 from rfl, q2, show 8 + (k - 8) = k by omega, ht]
      · right
        refine ⟨by omega, ?_⟩
        have q2 : (M / 2 ^ 16).testBit (k - 16) = M.testBit (16 + (k - 16)) := by rw [Nat.testBit_div_two_pow]; congr 1; omega
        rw [show (65536 : Nat) = 2 ^ 16 from rfl, q2, show 16 + (k - 16) = k by omega, ht]
  have hge : 2 ≤ pc8 (M % 256) + pc8 (M / 256 % 256) + pc8 (M / 65536) := by
    rcases key i hi h1 with ⟨u1, u2⟩ | ⟨u0, u1, u2⟩ | ⟨u1, u2⟩ <;> rcases key j hj h2 with ⟨w1, w2⟩ | ⟨w0, w1, w2⟩ | ⟨w1, w2⟩
    · have := p_two _ (by omega) i u1 j w1 hij u2 w2; omega
    · have := p_one _ (by omega) i u1 u2; have := p_one _ (by omega) (j - 8) (by omega) w2; omega
    · have := p_one _ (by omega) i u1 u2; have := p_one _ (by omega) (j - 16) (by omega) w2; omega
    · have := p_one _ (by omega) (i - 8) (by omega) u2; have := p_one _ (by omega) j w1 w2; omega
    · have := p_two _ (by omega) (i - 8) (by omega) (j - 8) (by omega) (by omega) u2 w2; omega
    · have := p_one _ (by omega) (i - 8) (by omega) u2; have := p_one _ (by omega) (j - 16) (by omega) w2; omega
    · have := p_one _ (by omega) (i - 16) (by omega) u2; have := p_one _ (by omega) j w1 w2; omega
    · have := p_one _ (by omega) (i - 16) (by omega) u2; have := p_one _ (by omega) (j - 8) (by omega) w2; omega
    · have := p_two _ (by omega) (i - 16) (by omega) (j - 16) (by omega) (by omega) u2 w2; omega
  exact nI_ge (a := 1) (by omega) (by omega)
theorem bc_one : ∀ r, r < 24 → ∀ σ : St, F_J6_bitCount_0f7a4 (1 <<< (nI r &&& 31)) σ = some (1, σ) := by
  intro r hr σ
  have h : ∀ r, r < 24 → ∃ e, (F_J6_bitCount_0f7a4 (1 <<< (nI r &&& 31)) = fun σ => some (e, σ)) ∧ e = 1 := by
    intro r hr
    refine ⟨_, rfl, ?_⟩
    revert r hr
    decide +kernel
  obtain ⟨e, h1, h2⟩ := h r hr
  rw [h1, h2]
