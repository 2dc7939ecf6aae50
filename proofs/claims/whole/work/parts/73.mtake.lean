theorem sub_one {a : Nat} (h : 1 ≤ a) : nI a - 1 = nI (a - 1) := pk_sub (b := 1) h
theorem chl_succ (e : Nat → Nat) (s n : Nat) : chl e s (n + 1) = chl e s n ++ [ch e s n] := by
  unfold chl
  rw [List.range_succ, List.map_append]
  rfl
/-- a row's part, one to the left -/
def shl (f : Nat → Int32) (o s k : Nat) : Nat → Int32 := fun j => if o + s ≤ j ∧ j + 1 < o + k then f (j + 1) else f j
theorem shl_0 (f : Nat → Int32) (o s : Nat) : shl f o s (s + 1) = f := by
  funext j
  exact if_neg (by omega)
theorem shl_s {f : Nat → Int32} {o s k : Nat} (h : s + 1 ≤ k) : upd (shl f o s k) (o + k - 1) (f (o + k)) = shl f o s (k + 1) := by
  funext j
  unfold upd shl
  by_cases hj : j = o + k - 1
  · rw [if_pos hj, if_pos (by omega), show j + 1 = o + k by omega]
  · rw [if_neg hj]
    by_cases h2 : o + s ≤ j ∧ j + 1 < o + k
    · rw [if_pos h2, if_pos (by omega)]
    · rw [if_neg h2, if_neg (by omega)]
theorem take66 (k3 : Int32 → Int32 → Int32 → Int32 → Int32 → St → Rs) (x1 x2 x4 x5 x7 : Int32) {σ : St} {f : Nat → Int32} {o s K : Nat} (hK : gF σ 7 = nI K) (ho : o + K ≤ 4080) :
    ∀ (d n k : Nat), k + d = K → s + 1 ≤ k → d < n → F_X9_take_66 k3 n x1 x2 (nI s) x4 x5 (nI o) x7 (nI k) (sA σ 16 (shl f o s k)) = F_X9_take_103 k3 x1 x2 (nI s) x4 x5 (nI o) x7 (sA σ 16 (shl f o s K)) := by
  intro d
  induction d with
  | zero =>
    intro n k hk hs hn
    obtain ⟨n, rfl⟩ : ∃ z, n = z + 1 := ⟨n - 1, by omega⟩
    rw [F_X9_take_66, gF_sA, hK, if_pos (nI_le (by omega) (by omega)), show k = K by omega]
  | succ d ih =>
    intro n k hk hs hn
    obtain ⟨n, rfl⟩ : ∃ z, n = z + 1 := ⟨n - 1, by omega⟩
    have hrd : shl f o s k (o + k) = f (o + k) := if_neg (by omega)
    rw [F_X9_take_66, gF_sA, hK, if_neg (nI_ge (by omega) (by omega)), nI_add, ck_in (by omega) (by omega), bd_r, nI_clamp (by omega), gA_sA_s, hrd, sub_one (by omega), ck_in (by omega) (by omega), bd_r, nI_clamp (by omega), shl_s hs, sA_sA, nI_1]
    exact ih n (k + 1) (by omega) (by omega) (by omega)
/-- a row's part, n - 1 to the right -/
def shr (f : Nat → Int32) (o k n K : Nat) : Nat → Int32 := fun j => if o + k + n ≤ j ∧ j < o + K + n - 1 then f (j + 1 - n) else f j
theorem shr_0 (f : Nat → Int32) {o n K : Nat} (h : 1 ≤ K) : shr f o (K - 1) n K = f := by
  funext j
  exact if_neg (by omega)
theorem shr_s {f : Nat → Int32} {o k n K : Nat} (hk : k + 1 < K) (hn : 1 ≤ n) : upd (shr f o (k + 1) n K) (o + (k + 1) + n - 1) (f (o + (k + 1))) = shr f o k n K := by
  funext j
  unfold upd shr
  by_cases hj : j = o + (k + 1) + n - 1
  · rw [if_pos hj, if_pos (by omega), show j + 1 - n = o + (k + 1) by omega]
  · rw [if_neg hj]
    by_cases h2 : o + (k + 1) + n ≤ j ∧ j < o + K + n - 1
    · rw [if_pos h2, if_pos (by omega)]
    · rw [if_neg h2, if_neg (by omega)]
theorem take114 (k3 : Int32 → Int32 → Int32 → Int32 → Int32 → St → Rs) (x1 x2 x5 x7 : Int32) {σ : St} {f : Nat → Int32} {o s K n : Nat} (hn1 : 1 ≤ n) (hs : s < K) (ho : o + K + n ≤ 4080) :
    ∀ (d w k : Nat), k = s + d → k < K → d < w → F_X9_take_114 k3 w x1 x2 (nI s) (nI n) x5 (nI o) x7 (nI k) (sA σ 16 (shr f o k n K)) = F_X9_take_151 k3 x1 x2 (nI s) (nI n) x5 (nI o) x7 (sA σ 16 (shr f o s n K)) := by
  intro d
  induction d with
  | zero =>
    intro w k hk hs hw
    obtain ⟨w, rfl⟩ : ∃ z, w = z + 1 := ⟨w - 1, by omega⟩
    rw [F_X9_take_114, if_pos (nI_le (by omega) (by omega)), show k = s by omega]
  | succ d ih =>
    intro w k hk hkK hw
    obtain ⟨w, rfl⟩ : ∃ z, w = z + 1 := ⟨w - 1, by omega⟩
    obtain ⟨k, rfl⟩ : ∃ z, k = z + 1 := ⟨k - 1, by omega⟩
    have hrd : shr f o (k + 1) n K (o + (k + 1)) = f (o + (k + 1)) := if_neg (by omega)
    rw [F_X9_take_114, if_neg (nI_ge (by omega) (by omega)), nI_add, ck_in (by omega) (by omega), bd_r, nI_clamp (by omega), gA_sA_s, hrd, nI_add, sub_one (by omega), ck_in (by omega) (by omega), bd_r, nI_clamp (by omega), shr_s hkK hn1, sA_sA, pk_m1]
    exact ih w k (by omega) (by omega) (by omega)
theorem take157 (k3 : Int32 → Int32 → Int32 → Int32 → Int32 → St → Rs) (x1 x2 : Int32) {R : Nat} {ln : Nat → Nat} {sy : Nat → Nat → Int32} {en : Nat → Nat → Nat} {σ : St} {f : Nat → Int32} {o s n i r q : Nat} (h : RuM R ln sy en σ) (hr : r < R) (hi : i < 4800) (hset : gA σ 17 i = nI r) (hq : ∀ k, k < n → ch (en r) q k < ln r) (ho : o + s + n ≤ 4080) :
    ∀ (d w k : Nat), k + d = n → d < w → F_X9_take_157 k3 w x1 x2 (nI s) (nI n) (nI i) (nI o) (nI (ch (en r) q k)) (nI k) (sA σ 16 (put f (o + s) (chl (en r) q k))) = F_X9_take_205 k3 x1 x2 (nI s) (nI n) (nI i) (sA σ 16 (put f (o + s) (chl (en r) q n))) := by
  have h1 := h.1
  have h2 := (h.2 r hr).1
  intro d
  induction d with
  | zero =>
    intro w k hk hw
    obtain ⟨w, rfl⟩ : ∃ z, w = z + 1 := ⟨w - 1, by omega⟩
    rw [F_X9_take_157, if_pos (nI_le (by omega) (by omega)), show k = n by omega]
  | succ d ih =>
    intro w k hk hw
    obtain ⟨w, rfl⟩ : ∃ z, w = z + 1 := ⟨w - 1, by omega⟩
    have hqk := hq k (by omega)
    have hp := put_snoc f (o + s) (chl (en r) q k) (ch (en r) q k)
    rw [chl_len, ← chl_succ] at hp
    have he : gA (sA σ 16 (put f (o + s) (chl (en r) q (k + 1)))) 8 (160 * r + ch (en r) q k) = nI (en r (ch (en r) q k)) := ((h.2 r hr).2 _ hqk).2
    have hs17 : gA (sA σ 16 (put f (o + s) (chl (en r) q (k + 1)))) 17 i = nI r := hset
    rw [F_X9_take_157, if_neg (nI_ge (by omega) (by omega)), nI_add, nI_add, ck_in (by omega) (by omega), bd_r, nI_clamp (by omega), gA_sA_s, hp, sA_sA, ck_in hi (by omega), bd_r, nI_clamp (by omega), hs17, mul160, nI_add, ck_in (by omega) (by omega), bd_r, nI_clamp (by omega), he, nI_1]
    exact ih w (k + 1) (by omega) (by omega)
