/-! the pure functions: numbers, states -/
theorem lit (n : Nat) : (OfNat.ofNat n : Int32) = nI n := rfl
theorem m1_toInt : (-1 : Int32).toInt = -1 := by decide
theorem nI_ne_m1 {n : Nat} (h : n < 2 ^ 31) : ¬ nI n = -1 := by
  intro q
  have := nI_pos h
  rw [q] at this
  exact this (by decide)
theorem nI_inj {a b : Nat} (ha : a < 2 ^ 31) (hb : b < 2 ^ 31) (h : nI a = nI b) : a = b := (nI_eq ha hb).mp h
theorem inb_nI {i n : Nat} (hi : i < 2 ^ 31) : (inb (nI i) n = true) ↔ i < n := by
  simp only [inb, Bool.and_eq_true, decide_eq_true_eq, nI_clamp hi]
  exact ⟨fun h => h.2, fun h => ⟨nI_pos' hi, h⟩⟩
theorem inb_m1 {n : Nat} : ¬ inb (-1) n = true := cl_out1 (by decide)
theorem rd_in {i n : Nat} (f : Nat → Int32) (h : i < n) (hn : n < 2 ^ 31) : rd n f (nI i) = f i := by
  unfold rd
  rw [if_pos ((inb_nI (by omega)).mpr h), nI_clamp (by omega)]
theorem rd_out {i n : Nat} (f : Nat → Int32) (h : n ≤ i) (hi : i < 2 ^ 31) : rd n f (nI i) = -1 := by
  unfold rd
  rw [if_neg (fun q => absurd ((inb_nI hi).mp q) (by omega))]
theorem rd_m1 {n : Nat} (f : Nat → Int32) : rd n f (-1) = -1 := if_neg inb_m1
theorem wr_in {i n : Nat} (f : Nat → Int32) (v : Int32) (h : i < n) (hn : n < 2 ^ 31) : wr n f (nI i) v = upd f i v := by
  unfold wr
  rw [if_pos ((inb_nI (by omega)).mpr h), nI_clamp (by omega)]
theorem upd_s (f : Nat → Int32) (k : Nat) (v : Int32) : upd f k v k = v := if_pos rfl
theorem upd_n (f : Nat → Int32) {k j : Nat} (v : Int32) (h : j ≠ k) : upd f k v j = f j := if_neg h
theorem bd_r {α β : Type} (e : α) (k : α → β) : bd e k = k e := rfl
theorem bo_s (r : Int32) (σ : St) (k : Int32 → St → Rs) : bo (some (r, σ)) k = k r σ := rfl
theorem ck_t (r : Rs) : ck true r = r := rfl
theorem ck_h {b : Bool} (h : b = true) (r : Rs) : ck b r = r := by rw [h]; rfl
theorem ck_0 (r : Rs) : ck (isB 0) r = r := rfl
theorem ck_1 (r : Rs) : ck (isB 1) r = r := rfl
theorem gF_sF (σ : St) (k j : Nat) (v : Int32) : gF (sF σ k v) j = if j = k then v else gF σ j := rfl
theorem gF_sA (σ : St) (k j : Nat) (f : Nat → Int32) : gF (sA σ k f) j = gF σ j := rfl
theorem gA_sF (σ : St) (k j : Nat) (v : Int32) : gA (sF σ k v) j = gA σ j := rfl
theorem gA_sA (σ : St) (k j : Nat) (f : Nat → Int32) : gA (sA σ k f) j = if j = k then f else gA σ j := rfl
theorem gA_sA_s (σ : St) (k : Nat) (f : Nat → Int32) : gA (sA σ k f) k = f := if_pos rfl
theorem sub1 {n : Nat} : nI (n + 1) - 1 = nI n := nI_pred n
/-- the type of a place, out of the bits -/
def tyI (q : Int32) (k : Nat) : Int32 := (q >>> ((4 * nI k) &&& 31)) &&& 15
def ty (q : Int32) (k : Nat) : Nat := (tyI q k).toNatClampNeg
theorem ty_I (q : Int32) (k : Nat) : tyI q k = nI (ty q k) ∧ ty q k < 16 := by
  obtain ⟨j, hj, e⟩ := pk_andE (q >>> ((4 * nI k) &&& 31)) (m := 15) 4 rfl
  have h : tyI q k = nI j := e
  have h2 : ty q k = j := by
    unfold ty
    rw [h]
    exact nI_clamp (by omega)
  rw [h2]
  exact ⟨h, hj⟩
theorem unpack_eq (q : Int32) (k : Nat) (σ : St) : F_X4_unpack q (nI k) σ = some (nI (ty q k), σ) := by
  rw [← (ty_I q k).1]
  rfl
theorem typeOf_eq (q : Int32) (k : Nat) (σ : St) : F_X9_typeOf q (nI k) σ = some (nI (ty q k), σ) := by
  rw [← (ty_I q k).1]
  rfl
/-! the signature -/
def SgW (T N : Nat) (ct ar : Nat → Nat) (pk : Nat → Int32) : Prop := T ≤ 12 ∧ N ≤ 60 ∧ ∀ i, i < N → ct i < T ∧ ar i ≤ 4 ∧ ∀ k, k < ar i → ty (pk i) k < T
def SgC (T N : Nat) (ct ar : Nat → Nat) (pk : Nat → Int32) (c : St) : Prop := gF c 1 = nI T ∧ gF c 2 = nI N ∧ ∀ i, i < N → gA c 9 i = nI (ct i) ∧ gA c 10 i = nI (ar i) ∧ gA c 11 i = pk i
def SgM (T N : Nat) (ct ar : Nat → Nat) (pk : Nat → Int32) (m : St) : Prop := gF m 0 = nI T ∧ gF m 1 = nI N ∧ ∀ i, i < N → gA m 1 i = nI (ct i) ∧ gA m 2 i = nI (ar i) ∧ gA m 3 i = pk i
/-- the function: how many arguments it has (-1 without one), and their types -/
def FnW (T : Nat) (fa fp : Int32) : Prop := fa = -1 ∨ ∃ a : Nat, a ≤ 6 ∧ fa = nI a ∧ ∀ k, k < a → ty fp k < T
def allTy (T : Nat) (q : Int32) (n : Nat) : Bool := (List.range n).all fun k => decide (ty q k < T)
theorem allTy_iff {T : Nat} {q : Int32} {n : Nat} : allTy T q n = true ↔ ∀ k, k < n → ty q k < T := by
  simp [allTy]
theorem areC_loop {T : Nat} {q : Int32} {a : Nat} (hT : T ≤ 12) (ha : a ≤ 6) {c : St} (hc : gF c 1 = nI T) : ∀ (d n i : Nat), i + d = a → d < n → (∀ k, k < i → ty q k < T) → F_X4_areTypes_2 n (nI a) q (nI i) c = some (if allTy T q a = true then 1 else 0, c) := by
  intro d
  induction d with
  | zero =>
    intro n i hi hn hk
    obtain ⟨n, rfl⟩ : ∃ z, n = z + 1 := ⟨n - 1, by omega⟩
    rw [F_X4_areTypes_2, if_pos (nI_le (by omega) (by omega)), ck_1, if_pos (allTy_iff.mpr (fun k h => hk k (by omega)))]
  | succ d ih =>
    intro n i hi hn hk
    obtain ⟨n, rfl⟩ : ∃ z, n = z + 1 := ⟨n - 1, by omega⟩
    rw [F_X4_areTypes_2, if_neg (nI_ge (by omega) (by omega)), unpack_eq, bo_s, hc]
    have h16 := (ty_I q i).2
    by_cases h : ty q i < T
    · rw [if_pos (nI_lt h (by omega)), nI_1]
      exact ih n (i + 1) (by omega) (by omega) (fun k hk2 => by
        by_cases hki : k = i
        · rw [hki]; exact h
        · exact hk k (by omega))
    · rw [if_neg (nI_nlt (by omega) (by omega)), ck_0, if_neg]
      intro z
      exact h (allTy_iff.mp z i (by omega))
theorem areC {T : Nat} (q : Int32) {a : Nat} (hT : T ≤ 12) (ha : a ≤ 6) {c : St} (hc : gF c 1 = nI T) : F_X4_areTypes (nI a) q c = some (if allTy T q a = true then 1 else 0, c) := areC_loop hT ha hc a 5000 0 (by omega) (by omega) (fun k h => absurd h (Nat.not_lt_zero k))
theorem areM_loop {T : Nat} {q : Int32} {a : Nat} (hT : T ≤ 12) (ha : a ≤ 6) {c : St} (hc : gF c 0 = nI T) : ∀ (d n i : Nat), i + d = a → d < n → (∀ k, k < i → ty q k < T) → F_X9_areTypes_2 n (nI a) q (nI i) c = some (if allTy T q a = true then 1 else 0, c) := by
  intro d
  induction d with
  | zero =>
    intro n i hi hn hk
    obtain ⟨n, rfl⟩ : ∃ z, n = z + 1 := ⟨n - 1, by omega⟩
    rw [F_X9_areTypes_2, if_pos (nI_le (by omega) (by omega)), ck_1, if_pos (allTy_iff.mpr (fun k h => hk k (by omega)))]
  | succ d ih =>
    intro n i hi hn hk
    obtain ⟨n, rfl⟩ : ∃ z, n = z + 1 := ⟨n - 1, by omega⟩
    rw [F_X9_areTypes_2, if_neg (nI_ge (by omega) (by omega)), typeOf_eq, bo_s, hc]
    have h16 := (ty_I q i).2
    by_cases h : ty q i < T
    · rw [if_pos (nI_lt h (by omega)), nI_1]
      exact ih n (i + 1) (by omega) (by omega) (fun k hk2 => by
        by_cases hki : k = i
        · rw [hki]; exact h
        · exact hk k (by omega))
    · rw [if_neg (nI_nlt (by omega) (by omega)), ck_0, if_neg]
      intro z
      exact h (allTy_iff.mp z i (by omega))
theorem areM {T : Nat} (q : Int32) {a : Nat} (hT : T ≤ 12) (ha : a ≤ 6) {c : St} (hc : gF c 0 = nI T) : F_X9_areTypes (nI a) q c = some (if allTy T q a = true then 1 else 0, c) := areM_loop hT ha hc a 5000 0 (by omega) (by omega) (fun k h => absurd h (Nat.not_lt_zero k))
/-! type -/
theorem typeC {T N : Nat} {ct ar : Nat → Nat} {pk : Nat → Int32} {c : St} (hW : SgW T N ct ar pk) (h : SgC T N ct ar pk c) : F_X8_type c = some (if T < 12 then (nI T, sF c 1 (nI (T + 1))) else (-1, c)) := by
  unfold F_X8_type F_X4_addType
  rw [h.1]
  have hT := hW.1
  by_cases q : T < 12
  · rw [if_pos (show nI T < 12 from nI_lt (b := 12) q (by omega)), if_pos q, bd_r, bo_s, gF_sF, if_pos rfl, nI_1, sub1]
  · rw [if_neg (show ¬ nI T < 12 from nI_nlt (a := T) (b := 12) (by omega) (by omega)), if_neg q, bo_s]
theorem typeM {T N : Nat} {ct ar : Nat → Nat} {pk : Nat → Int32} {m : St} (hW : SgW T N ct ar pk) (h : SgM T N ct ar pk m) : F_X9_type m = some (if T < 12 then (nI T, sF m 0 (nI (T + 1))) else (-1, m)) := by
  unfold F_X9_type
  rw [h.1]
  have hT := hW.1
  by_cases q : T < 12
  · rw [if_neg (show ¬ nI T = 12 from fun z => by have := nI_inj (b := 12) (by omega) (by omega) z; omega), if_pos q, bd_r, gF_sF, if_pos rfl, nI_1, sub1]
  · rw [if_pos (show nI T = 12 by rw [show T = 12 by omega]; rfl), if_neg q]
