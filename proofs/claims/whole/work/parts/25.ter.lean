abbrev rm_X5_load : Room := { frames := 1, cells := 0, slots := 0, locals := 22 }
def F_X5_load_129 (k35 : Int32 → Int32 → St → Rs) (x2 : Int32) (x3 : Int32) (σ : St) : Rs :=
  k35 x2 (x3 + 1) σ
def F_X5_load_135 (x2 : Int32) (σ : St) : Rs :=
  bd (sF σ 11 (8 + x2)) (fun s1 => bd (sF s1 12 0) (fun s2 => bd (sF s2 13 x2) (fun s3 => some (0, s3))))
def F_X5_load_35  : Nat → Int32 → Int32 → St → Rs
  | 0, _, _, _ => none
  | n + 1, x2, x3, σ => if x2 ≤ x3 then (F_X5_load_135 x2 σ) else (bd (rd 160 (gA σ 12) x3) (fun y2 => bd (8 + x3) (fun y3 => bd (sA σ 33 (wr 808 (gA σ 33) y3 y2)) (fun s4 => bd (sA s4 34 (wr 808 (gA s4 34) y3 (y3 + 1))) (fun s5 => bd (rd 160 (gA s5 15) x3) (fun y6 => bd (sA s5 35 (wr 808 (gA s5 35) y3 (8 + y6))) (fun s7 => if 0 ≤ y2 then (F_X5_load_129 (F_X5_load_35 n) x2 x3 s7) else (bd (rd 808 (gA s7 36) ((-1) - y2)) (fun y9 => bd (sA s7 36 (wr 808 (gA s7 36) ((-1) - y2) (y9 + 1))) (fun s10 => F_X5_load_129 (F_X5_load_35 n) x2 x3 s10))))))))))
def F_X5_load_33 (x2 : Int32) (σ : St) : Rs :=
  F_X5_load_35 5000 x2 0 σ
def F_X5_load_2  : Nat → Int32 → Int32 → St → Rs
  | 0, _, _, _ => none
  | n + 1, x2, x3, σ => if 8 ≤ x3 then (F_X5_load_33 x2 σ) else (bd (sA σ 33 (wr 808 (gA σ 33) x3 (-9))) (fun s2 => bd (sA s2 36 (wr 808 (gA s2 36) x3 0)) (fun s3 => F_X5_load_2 n x2 (x3 + 1) s3)))
def F_X5_load (x2 : Int32) (σ : St) : Rs :=
  F_X5_load_2 5000 x2 0 σ
section S_X5_load
variable {p : Program} {l : Launch} {e : Env} {s : State} {m : MethodId} {args : Array Value} {below : List Frame} {meth : Method} {c : Code}
variable {D : va_G} {cA : ClassId} {A : Nat → Prop} {ad : Nat → Nat} {r : Int32} {σ' : St} {ta : Nat}
set_option maxHeartbeats 4000000 in
set_option maxRecDepth 100000 in
theorem t_X5_load_129 {k35 : Int32 → Int32 → St → Rs} (X : Fx p s m meth c D cA A RX5 cX5_load 6 none) (K35 : ∀ (x2 x3 : Int32) (σ : St) (H : Heap) (locs : List Loc) (ls : Array Slot), k35 x2 x3 σ = some (r, σ') → va_P D vwCl (wC cA ad ta σ) H → va_D A (wC cA ad ta σ) → va_S A s.heap H locs → lv_has ls 6 [(0, .ref (ad 6)), (1, .ref (ad 2)), (2, .int x2), (3, .int x3)] → W p l e (rm_X5_load) s m args below meth c H locs 0 0 (MQ below (QV D cA A (wC cA ad) σ' ta) args s 0 0 A) (F0 m 35 ls [])) {x2 x3 : Int32} { σ : St} {H : Heap} {locs : List Loc} {ls : Array Slot} (hf : F_X5_load_129 k35 x2 x3 σ = some (r, σ')) (hP : va_P D vwCl (wC cA ad ta σ) H) (hD : va_D A (wC cA ad ta σ)) (hS : va_S A s.heap H locs) (hl : lv_has ls 6 [(0, .ref (ad 6)), (1, .ref (ad 2)), (2, .int x2), (3, .int x3)]) : W p l e (rm_X5_load) s m args below meth c H locs 0 0 (MQ below (QV D cA A (wC cA ad) σ' ta) args s 0 0 A) (F0 m 129 ls []) := by
  obtain ⟨hx, hb, hr, hml, hown, hlk, hE, hK, hA⟩ := id X
  rw [F_X5_load_129] at hf
  refine lv_iinc (v := (x3 + 1)) (lv' := [(3, .int (x3 + 1)), (0, .ref (ad 6)), (1, .ref (ad 2)), (2, .int x2)]) hx hb dX5_load_129 hl (k := 3) rfl rfl (by decide) rfl (fun ls hl => ?_)
  refine lv_goto (tgt := 35) hx hb dX5_load_132 (by decide) ?_
  exact K35 x2 (x3 + 1) σ _ _ _ hf hP hD hS (lv_sub hl [1, 2, 3, 0] rfl)
set_option maxHeartbeats 4000000 in
set_option maxRecDepth 100000 in
theorem t_X5_load_135  (X : Fx p s m meth c D cA A RX5 cX5_load 6 none)  {x2 : Int32} { σ : St} {H : Heap} {locs : List Loc} {ls : Array Slot} (hf : F_X5_load_135 x2 σ = some (r, σ')) (hP : va_P D vwCl (wC cA ad ta σ) H) (hD : va_D A (wC cA ad ta σ)) (hS : va_S A s.heap H locs) (hl : lv_has ls 6 [(0, .ref (ad 6)), (2, .int x2)]) : W p l e (rm_X5_load) s m args below meth c H locs 0 0 (MQ below (QV D cA A (wC cA ad) σ' ta) args s 0 0 A) (F0 m 135 ls []) := by
  obtain ⟨hx, hb, hr, hml, hown, hlk, hE, hK, hA⟩ := id X
  rw [F_X5_load_135] at hf
  refine lv_aload_n hx hb dX5_load_135 rfl (lv_at hl 0 rfl) ?_
  refine lv_bipush (v := 8) hx hb dX5_load_136 (by decide) ?_
  refine lv_iload_n hx hb dX5_load_138 rfl (lv_at hl 1 rfl) ?_
  refine lv_iadd hx hb dX5_load_139 ?_
  refine pC_Ter_cells X hP hD hS kw206 dX5_load_140 (fun H locs hP hD hS => ?_)
  obtain ⟨s1, es1, hf⟩ := bd_e hf
  rw [← es1] at hP hD
  refine lv_aload_n hx hb dX5_load_143 rfl (lv_at hl 0 rfl) ?_
  refine lv_iconst (v := 0) hx hb dX5_load_144 (by decide) ?_
  refine pC_Ter_bindings X hP hD hS kw207 dX5_load_145 (fun H locs hP hD hS => ?_)
  obtain ⟨s2, es2, hf⟩ := bd_e hf
  rw [← es2] at hP hD
  refine lv_aload_n hx hb dX5_load_148 rfl (lv_at hl 0 rfl) ?_
  refine lv_iload_n hx hb dX5_load_149 rfl (lv_at hl 1 rfl) ?_
  refine pC_Ter_length X hP hD hS kw210 dX5_load_150 (fun H locs hP hD hS => ?_)
  obtain ⟨s3, es3, hf⟩ := bd_e hf
  rw [← es3] at hP hD
  obtain ⟨rfl, rfl⟩ := Prod.mk.inj (Option.some.inj hf)
  exact ret_v X hP hD hS dX5_load_153
set_option maxHeartbeats 4000000 in
set_option maxRecDepth 100000 in
theorem t_X5_load_35  (X : Fx p s m meth c D cA A RX5 cX5_load 6 none)  : ∀ (n : Nat) (x2 x3 : Int32) (σ : St) (H : Heap) (locs : List Loc) (ls : Array Slot), F_X5_load_35 n x2 x3 σ = some (r, σ') → va_P D vwCl (wC cA ad ta σ) H → va_D A (wC cA ad ta σ) → va_S A s.heap H locs → lv_has ls 6 [(0, .ref (ad 6)), (1, .ref (ad 2)), (2, .int x2), (3, .int x3)] → W p l e (rm_X5_load) s m args below meth c H locs 0 0 (MQ below (QV D cA A (wC cA ad) σ' ta) args s 0 0 A) (F0 m 35 ls []) := by
  obtain ⟨hx, hb, hr, hml, hown, hlk, hE, hK, hA⟩ := id X
  intro n
  induction n with
  | zero =>
    intro x2 x3 σ H locs ls hf
    cases (show (none : Rs) = some _ from hf)
  | succ n ih =>
    intro x2 x3 σ H locs ls hf hP hD hS hl
    rw [F_X5_load_35] at hf
    refine lv_iload_n hx hb dX5_load_35 rfl (lv_at hl 3 rfl) ?_
    refine lv_iload_n hx hb dX5_load_36 rfl (lv_at hl 2 rfl) ?_
    refine lv_icmp_ge (tgt := 135) hx hb dX5_load_37 (by decide) (fun c1 => ?_) (fun c1 => ?_)
    · have hf := it_t c1 hf
      exact t_X5_load_135 X  hf hP hD hS (lv_sub hl [0, 2] rfl)
    · have hf := it_f c1 hf
      refine lv_aload_n hx hb dX5_load_40 rfl (lv_at hl 1 rfl) ?_
      refine gCN_Row_numbers X hP kw61 dX5_load_41 ?_
      refine lv_iload_n hx hb dX5_load_44 rfl (lv_at hl 3 rfl) ?_
      refine callSN_i X cs_X8_get kw452 (c_get l D cA A (wC cA ad) ta σ 12 (ad 12) 160 (gA σ 12) x3 (by decide) rfl) ⟨by decide, by decide⟩ ⟨rfl, rfl⟩ hP hD hS rfl hl rfl (Nat.le_of_ble_eq_true rfl) dX5_load_45 ⟨by decide, by decide⟩ (fun H locs hP hD hS => ?_)
      refine lv_topi (fun y2 ey2 => ?_)
      have hf := bd_x ey2 hf
      refine lv_istore (lv' := [(4, .int y2), (0, .ref (ad 6)), (1, .ref (ad 2)), (2, .int x2), (3, .int x3)]) hx hb dX5_load_48 hl (by decide) rfl (fun ls hl => ?_)
      refine lv_bipush (v := 8) hx hb dX5_load_50 (by decide) ?_
      refine lv_iload_n hx hb dX5_load_52 rfl (lv_at hl 4 rfl) ?_
      refine lv_iadd hx hb dX5_load_53 ?_
      refine lv_topi (fun y3 ey3 => ?_)
      have hf := bd_x ey3 hf
      refine lv_istore (lv' := [(5, .int y3), (4, .int y2), (0, .ref (ad 6)), (1, .ref (ad 2)), (2, .int x2), (3, .int x3)]) hx hb dX5_load_54 hl (by decide) rfl (fun ls hl => ?_)
      refine lv_aload_n hx hb dX5_load_56 rfl (lv_at hl 2 rfl) ?_
      refine gC_Ter_head X hP kw198 dX5_load_57 ?_
      refine lv_iload hx hb dX5_load_60 (lv_at hl 0 rfl) ?_
      refine lv_iload hx hb dX5_load_62 (lv_at hl 1 rfl) ?_
      refine callSN_v X cs_X8_set kw451 (c_set l D cA A (wC cA ad) ta σ 33 (ad 33) 808 33 y3 y2 (by decide) rfl (fun f => wC_a33 f)) ⟨by decide, by decide⟩ ⟨rfl, rfl⟩ hP hD hS rfl hl rfl (Nat.le_of_ble_eq_true rfl) dX5_load_64 ⟨by decide, by decide⟩ (fun H locs hP hD hS => ?_)
      obtain ⟨s4, es4, hf⟩ := bd_e hf
      rw [← es4] at hP hD
      refine lv_aload_n hx hb dX5_load_67 rfl (lv_at hl 2 rfl) ?_
      refine gC_Ter_first X hP kw200 dX5_load_68 ?_
      refine lv_iload hx hb dX5_load_71 (lv_at hl 0 rfl) ?_
      refine lv_iload hx hb dX5_load_73 (lv_at hl 0 rfl) ?_
      refine lv_iconst (v := 1) hx hb dX5_load_75 (by decide) ?_
      refine lv_iadd hx hb dX5_load_76 ?_
      refine callSN_v X cs_X8_set kw451 (c_set l D cA A (wC cA ad) ta s4 34 (ad 34) 808 34 y3 (y3 + 1) (by decide) rfl (fun f => wC_a34 f)) ⟨by decide, by decide⟩ ⟨rfl, rfl⟩ hP hD hS rfl hl rfl (Nat.le_of_ble_eq_true rfl) dX5_load_77 ⟨by decide, by decide⟩ (fun H locs hP hD hS => ?_)
      obtain ⟨s5, es5, hf⟩ := bd_e hf
      rw [← es5] at hP hD
      refine lv_aload_n hx hb dX5_load_80 rfl (lv_at hl 2 rfl) ?_
      refine gC_Ter_end X hP kw201 dX5_load_81 ?_
      refine lv_iload hx hb dX5_load_84 (lv_at hl 0 rfl) ?_
      refine lv_bipush (v := 8) hx hb dX5_load_86 (by decide) ?_
      refine lv_aload_n hx hb dX5_load_88 rfl (lv_at hl 3 rfl) ?_
      refine gCN_Row_end X hP kw68 dX5_load_89 ?_
      refine lv_iload_n hx hb dX5_load_92 rfl (lv_at hl 5 rfl) ?_
      refine callSN_i X cs_X8_get kw452 (c_get l D cA A (wC cA ad) ta s5 15 (ad 15) 160 (gA s5 15) x3 (by decide) rfl) ⟨by decide, by decide⟩ ⟨rfl, rfl⟩ hP hD hS rfl hl rfl (Nat.le_of_ble_eq_true rfl) dX5_load_93 ⟨by decide, by decide⟩ (fun H locs hP hD hS => ?_)
      refine lv_topi (fun y6 ey6 => ?_)
      have hf := bd_x ey6 hf
      refine lv_iadd hx hb dX5_load_96 ?_
      refine callSN_v X cs_X8_set kw451 (c_set l D cA A (wC cA ad) ta s5 35 (ad 35) 808 35 y3 (8 + y6) (by decide) rfl (fun f => wC_a35 f)) ⟨by decide, by decide⟩ ⟨rfl, rfl⟩ hP hD hS rfl hl rfl (Nat.le_of_ble_eq_true rfl) dX5_load_97 ⟨by decide, by decide⟩ (fun H locs hP hD hS => ?_)
      obtain ⟨s7, es7, hf⟩ := bd_e hf
      rw [← es7] at hP hD
      refine lv_iload hx hb dX5_load_100 (lv_at hl 1 rfl) ?_
      refine lv_if_ge (tgt := 129) hx hb dX5_load_102 (by decide) (fun c8 => ?_) (fun c8 => ?_)
      · have hf := it_t c8 hf
        exact t_X5_load_129 X ih hf hP hD hS (lv_sub hl [2, 3, 4, 5] rfl)
      · have hf := it_f c8 hf
        refine lv_aload_n hx hb dX5_load_105 rfl (lv_at hl 2 rfl) ?_
        refine gC_Ter_times X hP kw202 dX5_load_106 ?_
        refine lv_iconst (v := -1) hx hb dX5_load_109 (by decide) ?_
        refine lv_iload hx hb dX5_load_110 (lv_at hl 1 rfl) ?_
        refine lv_isub hx hb dX5_load_112 ?_
        refine lv_aload_n hx hb dX5_load_113 rfl (lv_at hl 2 rfl) ?_
        refine gC_Ter_times X hP kw202 dX5_load_114 ?_
        refine lv_iconst (v := -1) hx hb dX5_load_117 (by decide) ?_
        refine lv_iload hx hb dX5_load_118 (lv_at hl 1 rfl) ?_
        refine lv_isub hx hb dX5_load_120 ?_
        refine callSN_i X cs_X8_get kw452 (c_get l D cA A (wC cA ad) ta s7 36 (ad 36) 808 (gA s7 36) ((-1) - y2) (by decide) rfl) ⟨by decide, by decide⟩ ⟨rfl, rfl⟩ hP hD hS rfl hl rfl (Nat.le_of_ble_eq_true rfl) dX5_load_121 ⟨by decide, by decide⟩ (fun H locs hP hD hS => ?_)
        refine lv_topi (fun y9 ey9 => ?_)
        have hf := bd_x ey9 hf
        refine lv_iconst (v := 1) hx hb dX5_load_124 (by decide) ?_
        refine lv_iadd hx hb dX5_load_125 ?_
        refine callSN_v X cs_X8_set kw451 (c_set l D cA A (wC cA ad) ta s7 36 (ad 36) 808 36 ((-1) - y2) (y9 + 1) (by decide) rfl (fun f => wC_a36 f)) ⟨by decide, by decide⟩ ⟨rfl, rfl⟩ hP hD hS rfl hl rfl (Nat.le_of_ble_eq_true rfl) dX5_load_126 ⟨by decide, by decide⟩ (fun H locs hP hD hS => ?_)
        obtain ⟨s10, es10, hf⟩ := bd_e hf
        rw [← es10] at hP hD
        exact t_X5_load_129 X ih hf hP hD hS (lv_sub hl [2, 3, 4, 5] rfl)
set_option maxHeartbeats 4000000 in
set_option maxRecDepth 100000 in
theorem t_X5_load_33  (X : Fx p s m meth c D cA A RX5 cX5_load 6 none)  {x2 : Int32} { σ : St} {H : Heap} {locs : List Loc} {ls : Array Slot} (hf : F_X5_load_33 x2 σ = some (r, σ')) (hP : va_P D vwCl (wC cA ad ta σ) H) (hD : va_D A (wC cA ad ta σ)) (hS : va_S A s.heap H locs) (hl : lv_has ls 6 [(0, .ref (ad 6)), (1, .ref (ad 2)), (2, .int x2)]) : W p l e (rm_X5_load) s m args below meth c H locs 0 0 (MQ below (QV D cA A (wC cA ad) σ' ta) args s 0 0 A) (F0 m 33 ls []) := by
  obtain ⟨hx, hb, hr, hml, hown, hlk, hE, hK, hA⟩ := id X
  rw [F_X5_load_33] at hf
  refine lv_iconst (v := 0) hx hb dX5_load_33 (by decide) ?_
  refine lv_istore_n (lv' := [(3, .int 0), (0, .ref (ad 6)), (1, .ref (ad 2)), (2, .int x2)]) hx hb dX5_load_34 rfl hl (by decide) rfl (fun ls hl => ?_)
  exact t_X5_load_35 X  5000 x2 0 σ _ _ _ hf hP hD hS (lv_sub hl [1, 2, 3, 0] rfl)
set_option maxHeartbeats 4000000 in
set_option maxRecDepth 100000 in
theorem t_X5_load_2  (X : Fx p s m meth c D cA A RX5 cX5_load 6 none)  : ∀ (n : Nat) (x2 x3 : Int32) (σ : St) (H : Heap) (locs : List Loc) (ls : Array Slot), F_X5_load_2 n x2 x3 σ = some (r, σ') → va_P D vwCl (wC cA ad ta σ) H → va_D A (wC cA ad ta σ) → va_S A s.heap H locs → lv_has ls 6 [(0, .ref (ad 6)), (1, .ref (ad 2)), (2, .int x2), (3, .int x3)] → W p l e (rm_X5_load) s m args below meth c H locs 0 0 (MQ below (QV D cA A (wC cA ad) σ' ta) args s 0 0 A) (F0 m 2 ls []) := by
  obtain ⟨hx, hb, hr, hml, hown, hlk, hE, hK, hA⟩ := id X
  intro n
  induction n with
  | zero =>
    intro x2 x3 σ H locs ls hf
    cases (show (none : Rs) = some _ from hf)
  | succ n ih =>
    intro x2 x3 σ H locs ls hf hP hD hS hl
    rw [F_X5_load_2] at hf
    refine lv_iload_n hx hb dX5_load_2 rfl (lv_at hl 3 rfl) ?_
    refine lv_bipush (v := 8) hx hb dX5_load_3 (by decide) ?_
    refine lv_icmp_ge (tgt := 33) hx hb dX5_load_5 (by decide) (fun c1 => ?_) (fun c1 => ?_)
    · have hf := it_t c1 hf
      exact t_X5_load_33 X  hf hP hD hS (lv_sub hl [0, 1, 2] rfl)
    · have hf := it_f c1 hf
      refine lv_aload_n hx hb dX5_load_8 rfl (lv_at hl 0 rfl) ?_
      refine gC_Ter_head X hP kw198 dX5_load_9 ?_
      refine lv_iload_n hx hb dX5_load_12 rfl (lv_at hl 3 rfl) ?_
      refine lv_bipush (v := -9) hx hb dX5_load_13 (by decide) ?_
      refine callSN_v X cs_X8_set kw451 (c_set l D cA A (wC cA ad) ta σ 33 (ad 33) 808 33 x3 (-9) (by decide) rfl (fun f => wC_a33 f)) ⟨by decide, by decide⟩ ⟨rfl, rfl⟩ hP hD hS rfl hl rfl (Nat.le_of_ble_eq_true rfl) dX5_load_15 ⟨by decide, by decide⟩ (fun H locs hP hD hS => ?_)
      obtain ⟨s2, es2, hf⟩ := bd_e hf
      rw [← es2] at hP hD
      refine lv_aload_n hx hb dX5_load_18 rfl (lv_at hl 0 rfl) ?_
      refine gC_Ter_times X hP kw202 dX5_load_19 ?_
      refine lv_iload_n hx hb dX5_load_22 rfl (lv_at hl 3 rfl) ?_
      refine lv_iconst (v := 0) hx hb dX5_load_23 (by decide) ?_
      refine callSN_v X cs_X8_set kw451 (c_set l D cA A (wC cA ad) ta s2 36 (ad 36) 808 36 x3 0 (by decide) rfl (fun f => wC_a36 f)) ⟨by decide, by decide⟩ ⟨rfl, rfl⟩ hP hD hS rfl hl rfl (Nat.le_of_ble_eq_true rfl) dX5_load_24 ⟨by decide, by decide⟩ (fun H locs hP hD hS => ?_)
      obtain ⟨s3, es3, hf⟩ := bd_e hf
      rw [← es3] at hP hD
      refine lv_iinc (v := (x3 + 1)) (lv' := [(3, .int (x3 + 1)), (0, .ref (ad 6)), (1, .ref (ad 2)), (2, .int x2)]) hx hb dX5_load_27 hl (k := 3) rfl rfl (by decide) rfl (fun ls hl => ?_)
      refine lv_goto (tgt := 2) hx hb dX5_load_30 (by decide) ?_
      exact ih x2 (x3 + 1) s3 _ _ _ hf hP hD hS (lv_sub hl [1, 2, 3, 0] rfl)
set_option maxHeartbeats 4000000 in
set_option maxRecDepth 100000 in
theorem t_X5_load_0  (X : Fx p s m meth c D cA A RX5 cX5_load 6 none)  {x2 : Int32} { σ : St} {H : Heap} {locs : List Loc} {ls : Array Slot} (hf : F_X5_load x2 σ = some (r, σ')) (hP : va_P D vwCl (wC cA ad ta σ) H) (hD : va_D A (wC cA ad ta σ)) (hS : va_S A s.heap H locs) (hl : lv_has ls 6 [(0, .ref (ad 6)), (1, .ref (ad 2)), (2, .int x2)]) : W p l e (rm_X5_load) s m args below meth c H locs 0 0 (MQ below (QV D cA A (wC cA ad) σ' ta) args s 0 0 A) (F0 m 0 ls []) := by
  obtain ⟨hx, hb, hr, hml, hown, hlk, hE, hK, hA⟩ := id X
  rw [F_X5_load] at hf
  refine lv_iconst (v := 0) hx hb dX5_load_0 (by decide) ?_
  refine lv_istore_n (lv' := [(3, .int 0), (0, .ref (ad 6)), (1, .ref (ad 2)), (2, .int x2)]) hx hb dX5_load_1 rfl hl (by decide) rfl (fun ls hl => ?_)
  exact t_X5_load_2 X  5000 x2 0 σ _ _ _ hf hP hD hS (lv_sub hl [1, 2, 3, 0] rfl)
end S_X5_load
theorem c_X5_load (l : Launch) (D : va_G) (cA : ClassId) (A : Nat → Prop) (ad : Nat → Nat) (ta : Nat) (σ : St) (x2 : Int32) (r : Int32) (σ' : St) (hf : F_X5_load x2 σ = some (r, σ')) : MV l D cA A (wC cA ad) yX5_load cX5_load 6 none rm_X5_load [.ref (ad 6), .ref (ad 2), .int x2] ta σ σ' 0 0 := by
  refine enter (by decide) (Nat.le_of_ble_eq_true rfl) ?_
  intro p e s m below meth c ls X hnm hP hD hS hl
  exact t_X5_load_0 X hf hP hD hS hl
abbrev rm_X5_meant : Room := { frames := 1, cells := 0, slots := 0, locals := 21 }
def F_X5_meant (x1 : Int32) (σ : St) : Rs :=
  bd (rd 808 (gA σ 33) x1) (fun y1 => if 0 ≤ y1 then (some (x1, σ)) else (if y1 ≤ (-9) then (some (x1, σ)) else (some (((-1) - y1), σ))))
section S_X5_meant
variable {p : Program} {l : Launch} {e : Env} {s : State} {m : MethodId} {args : Array Value} {below : List Frame} {meth : Method} {c : Code}
variable {D : va_G} {cA : ClassId} {A : Nat → Prop} {ad : Nat → Nat} {r : Int32} {σ' : St} {ta : Nat}
set_option maxHeartbeats 4000000 in
set_option maxRecDepth 100000 in
theorem t_X5_meant_0  (X : Fx p s m meth c D cA A RX5 cX5_meant 3 (some .int))  {x1 : Int32} { σ : St} {H : Heap} {locs : List Loc} {ls : Array Slot} (hf : F_X5_meant x1 σ = some (r, σ')) (hP : va_P D vwCl (wC cA ad ta σ) H) (hD : va_D A (wC cA ad ta σ)) (hS : va_S A s.heap H locs) (hl : lv_has ls 3 [(0, .ref (ad 6)), (1, .int x1)]) : W p l e (rm_X5_meant) s m args below meth c H locs 0 0 (MQ below (QI D cA A (wC cA ad) r σ' ta) args s 0 0 A) (F0 m 0 ls []) := by
  obtain ⟨hx, hb, hr, hml, hown, hlk, hE, hK, hA⟩ := id X
  rw [F_X5_meant] at hf
  refine lv_aload_n hx hb dX5_meant_0 rfl (lv_at hl 0 rfl) ?_
  refine gC_Ter_head X hP kw198 dX5_meant_1 ?_
  refine lv_iload_n hx hb dX5_meant_4 rfl (lv_at hl 1 rfl) ?_
  refine callSN_i X cs_X8_get kw452 (c_get l D cA A (wC cA ad) ta σ 33 (ad 33) 808 (gA σ 33) x1 (by decide) rfl) ⟨by decide, by decide⟩ ⟨rfl, rfl⟩ hP hD hS rfl hl rfl (Nat.le_of_ble_eq_true rfl) dX5_meant_5 ⟨by decide, by decide⟩ (fun H locs hP hD hS => ?_)
  refine lv_topi (fun y1 ey1 => ?_)
  have hf := bd_x ey1 hf
  refine lv_istore_n (lv' := [(2, .int y1), (0, .ref (ad 6)), (1, .int x1)]) hx hb dX5_meant_8 rfl hl (by decide) rfl (fun ls hl => ?_)
  refine lv_iload_n hx hb dX5_meant_9 rfl (lv_at hl 0 rfl) ?_
  refine lv_if_ge (tgt := 25) hx hb dX5_meant_10 (by decide) (fun c2 => ?_) (fun c2 => ?_)
  · have hf := it_t c2 hf
    refine lv_iload_n hx hb dX5_meant_25 rfl (lv_at hl 2 rfl) ?_
    obtain ⟨rfl, rfl⟩ := Prod.mk.inj (Option.some.inj hf)
    exact ret_i X hP hD hS dX5_meant_26
  · have hf := it_f c2 hf
    refine lv_iload_n hx hb dX5_meant_13 rfl (lv_at hl 0 rfl) ?_
    refine lv_bipush (v := -9) hx hb dX5_meant_14 (by decide) ?_
    refine lv_icmp_le (tgt := 25) hx hb dX5_meant_16 (by decide) (fun c3 => ?_) (fun c3 => ?_)
    · have hf := it_t c3 hf
      refine lv_iload_n hx hb dX5_meant_25 rfl (lv_at hl 2 rfl) ?_
      obtain ⟨rfl, rfl⟩ := Prod.mk.inj (Option.some.inj hf)
      exact ret_i X hP hD hS dX5_meant_26
    · have hf := it_f c3 hf
      refine lv_iconst (v := -1) hx hb dX5_meant_19 (by decide) ?_
      refine lv_iload_n hx hb dX5_meant_20 rfl (lv_at hl 0 rfl) ?_
      refine lv_isub hx hb dX5_meant_21 ?_
      refine lv_goto (tgt := 26) hx hb dX5_meant_22 (by decide) ?_
      obtain ⟨rfl, rfl⟩ := Prod.mk.inj (Option.some.inj hf)
      exact ret_i X hP hD hS dX5_meant_26
end S_X5_meant
theorem c_X5_meant (l : Launch) (D : va_G) (cA : ClassId) (A : Nat → Prop) (ad : Nat → Nat) (ta : Nat) (σ : St) (x1 : Int32) (r : Int32) (σ' : St) (hf : F_X5_meant x1 σ = some (r, σ')) : MI l D cA A (wC cA ad) yX5_meant cX5_meant 3 (some .int) rm_X5_meant [.ref (ad 6), .int x1] ta σ r σ' 0 0 := by
  refine enter (by decide) (Nat.le_of_ble_eq_true rfl) ?_
  intro p e s m below meth c ls X hnm hP hD hS hl
  exact t_X5_meant_0 X hf hP hD hS hl
abbrev rm_X5_isFree : Room := { frames := 1, cells := 0, slots := 0, locals := 21 }
def F_X5_isFree (x1 : Int32) (σ : St) : Rs :=
  bd (rd 808 (gA σ 33) x1) (fun y1 => if y1 = (-9) then (ck (isB 1) (some (1, σ))) else (ck (isB 0) (some (0, σ))))
section S_X5_isFree
variable {p : Program} {l : Launch} {e : Env} {s : State} {m : MethodId} {args : Array Value} {below : List Frame} {meth : Method} {c : Code}
variable {D : va_G} {cA : ClassId} {A : Nat → Prop} {ad : Nat → Nat} {r : Int32} {σ' : St} {ta : Nat}
set_option maxHeartbeats 4000000 in
set_option maxRecDepth 100000 in
theorem t_X5_isFree_0  (X : Fx p s m meth c D cA A RX5 cX5_isFree 2 (some .boolean))  {x1 : Int32} { σ : St} {H : Heap} {locs : List Loc} {ls : Array Slot} (hf : F_X5_isFree x1 σ = some (r, σ')) (hP : va_P D vwCl (wC cA ad ta σ) H) (hD : va_D A (wC cA ad ta σ)) (hS : va_S A s.heap H locs) (hl : lv_has ls 2 [(0, .ref (ad 6)), (1, .int x1)]) : W p l e (rm_X5_isFree) s m args below meth c H locs 0 0 (MQ below (QI D cA A (wC cA ad) r σ' ta) args s 0 0 A) (F0 m 0 ls []) := by
  obtain ⟨hx, hb, hr, hml, hown, hlk, hE, hK, hA⟩ := id X
  rw [F_X5_isFree] at hf
  refine lv_aload_n hx hb dX5_isFree_0 rfl (lv_at hl 0 rfl) ?_
  refine gC_Ter_head X hP kw198 dX5_isFree_1 ?_
  refine lv_iload_n hx hb dX5_isFree_4 rfl (lv_at hl 1 rfl) ?_
  refine callSN_i X cs_X8_get kw452 (c_get l D cA A (wC cA ad) ta σ 33 (ad 33) 808 (gA σ 33) x1 (by decide) rfl) ⟨by decide, by decide⟩ ⟨rfl, rfl⟩ hP hD hS rfl hl rfl (Nat.le_of_ble_eq_true rfl) dX5_isFree_5 ⟨by decide, by decide⟩ (fun H locs hP hD hS => ?_)
  refine lv_topi (fun y1 ey1 => ?_)
  have hf := bd_x ey1 hf
  refine lv_bipush (v := -9) hx hb dX5_isFree_8 (by decide) ?_
  refine lv_icmp_ne (tgt := 17) hx hb dX5_isFree_10 (by decide) (fun c2 => ?_) (fun c2 => ?_)
  · have hf := it_f c2 hf
    refine lv_iconst (v := 0) hx hb dX5_isFree_17 (by decide) ?_
    obtain ⟨b3, hf⟩ := ck_e hf
    obtain ⟨rfl, rfl⟩ := Prod.mk.inj (Option.some.inj hf)
    exact ret_z X b3 hP hD hS dX5_isFree_18
  · have hf := it_t c2 hf
    refine lv_iconst (v := 1) hx hb dX5_isFree_13 (by decide) ?_
    refine lv_goto (tgt := 18) hx hb dX5_isFree_14 (by decide) ?_
    obtain ⟨b4, hf⟩ := ck_e hf
    obtain ⟨rfl, rfl⟩ := Prod.mk.inj (Option.some.inj hf)
    exact ret_z X b4 hP hD hS dX5_isFree_18
end S_X5_isFree
theorem c_X5_isFree (l : Launch) (D : va_G) (cA : ClassId) (A : Nat → Prop) (ad : Nat → Nat) (ta : Nat) (σ : St) (x1 : Int32) (r : Int32) (σ' : St) (hf : F_X5_isFree x1 σ = some (r, σ')) : MI l D cA A (wC cA ad) yX5_isFree cX5_isFree 2 (some .boolean) rm_X5_isFree [.ref (ad 6), .int x1] ta σ r σ' 0 0 := by
  refine enter (by decide) (Nat.le_of_ble_eq_true rfl) ?_
  intro p e s m below meth c ls X hnm hP hD hS hl
  exact t_X5_isFree_0 X hf hP hD hS hl
abbrev rm_X5_part : Room := { frames := 2, cells := 0, slots := 0, locals := 43 }
def F_X5_part_43 (x3 : Int32) (σ : St) : Rs :=
  bo (F_X5_meant x3 σ) (fun r1 s2 => some (r1, s2))
def F_X5_part_22  : Nat → Int32 → Int32 → Int32 → St → Rs
  | 0, _, _, _, _ => none
  | n + 1, x2, x3, x4, σ => if x2 ≤ x4 then (F_X5_part_43 x3 σ) else (bd (rd 808 (gA σ 35) x3) (fun y2 => F_X5_part_22 n x2 y2 (x4 + 1) σ))
def F_X5_part_18 (x2 : Int32) (z0 : Int32) (σ : St) : Rs :=
  F_X5_part_22 5000 x2 z0 0 σ
def F_X5_part (x1 : Int32) (x2 : Int32) (σ : St) : Rs :=
  if x1 = (-1) then (F_X5_part_18 x2 8 σ) else (bd (rd 808 (gA σ 34) x1) (fun y2 => F_X5_part_18 x2 y2 σ))
section S_X5_part
variable {p : Program} {l : Launch} {e : Env} {s : State} {m : MethodId} {args : Array Value} {below : List Frame} {meth : Method} {c : Code}
variable {D : va_G} {cA : ClassId} {A : Nat → Prop} {ad : Nat → Nat} {r : Int32} {σ' : St} {ta : Nat}
set_option maxHeartbeats 4000000 in
set_option maxRecDepth 100000 in
theorem t_X5_part_43  (X : Fx p s m meth c D cA A RX5 cX5_part 5 (some .int))  {x3 : Int32} { σ : St} {H : Heap} {locs : List Loc} {ls : Array Slot} (hf : F_X5_part_43 x3 σ = some (r, σ')) (hP : va_P D vwCl (wC cA ad ta σ) H) (hD : va_D A (wC cA ad ta σ)) (hS : va_S A s.heap H locs) (hl : lv_has ls 5 [(0, .ref (ad 6)), (3, .int x3)]) : W p l e (rm_X5_part) s m args below meth c H locs 0 0 (MQ below (QI D cA A (wC cA ad) r σ' ta) args s 0 0 A) (F0 m 43 ls []) := by
  obtain ⟨hx, hb, hr, hml, hown, hlk, hE, hK, hA⟩ := id X
  rw [F_X5_part_43] at hf
  refine lv_aload_n hx hb dX5_part_43 rfl (lv_at hl 0 rfl) ?_
  refine lv_iload_n hx hb dX5_part_44 rfl (lv_at hl 1 rfl) ?_
  obtain ⟨r1, s2, h3, hf⟩ := bo_e hf
  refine callV_i X cv_X5_meant kw580 (c_X5_meant l D cA A ad ta σ x3 r1 s2 h3) ⟨by decide, by decide⟩ ⟨rfl, rfl⟩ hP hD hS (q0 := 6) (ci := 5) rfl rfl rfl rfl hl rfl (Nat.le_of_ble_eq_true rfl) dX5_part_45 ⟨by decide, by decide⟩ (fun H locs hP hD hS => ?_)
  obtain ⟨rfl, rfl⟩ := Prod.mk.inj (Option.some.inj hf)
  exact ret_i X hP hD hS dX5_part_48
set_option maxHeartbeats 4000000 in
set_option maxRecDepth 100000 in
theorem t_X5_part_22  (X : Fx p s m meth c D cA A RX5 cX5_part 5 (some .int))  : ∀ (n : Nat) (x2 x3 x4 : Int32) (σ : St) (H : Heap) (locs : List Loc) (ls : Array Slot), F_X5_part_22 n x2 x3 x4 σ = some (r, σ') → va_P D vwCl (wC cA ad ta σ) H → va_D A (wC cA ad ta σ) → va_S A s.heap H locs → lv_has ls 5 [(0, .ref (ad 6)), (2, .int x2), (3, .int x3), (4, .int x4)] → W p l e (rm_X5_part) s m args below meth c H locs 0 0 (MQ below (QI D cA A (wC cA ad) r σ' ta) args s 0 0 A) (F0 m 22 ls []) := by
  obtain ⟨hx, hb, hr, hml, hown, hlk, hE, hK, hA⟩ := id X
  intro n
  induction n with
  | zero =>
    intro x2 x3 x4 σ H locs ls hf
    cases (show (none : Rs) = some _ from hf)
  | succ n ih =>
    intro x2 x3 x4 σ H locs ls hf hP hD hS hl
    rw [F_X5_part_22] at hf
    refine lv_iload hx hb dX5_part_22 (lv_at hl 3 rfl) ?_
    refine lv_iload_n hx hb dX5_part_24 rfl (lv_at hl 1 rfl) ?_
    refine lv_icmp_ge (tgt := 43) hx hb dX5_part_25 (by decide) (fun c1 => ?_) (fun c1 => ?_)
    · have hf := it_t c1 hf
      exact t_X5_part_43 X  hf hP hD hS (lv_sub hl [0, 2] rfl)
    · have hf := it_f c1 hf
      refine lv_aload_n hx hb dX5_part_28 rfl (lv_at hl 0 rfl) ?_
      refine gC_Ter_end X hP kw201 dX5_part_29 ?_
      refine lv_iload_n hx hb dX5_part_32 rfl (lv_at hl 2 rfl) ?_
      refine callSN_i X cs_X8_get kw452 (c_get l D cA A (wC cA ad) ta σ 35 (ad 35) 808 (gA σ 35) x3 (by decide) rfl) ⟨by decide, by decide⟩ ⟨rfl, rfl⟩ hP hD hS rfl hl rfl (Nat.le_of_ble_eq_true rfl) dX5_part_33 ⟨by decide, by decide⟩ (fun H locs hP hD hS => ?_)
      refine lv_topi (fun y2 ey2 => ?_)
      have hf := bd_x ey2 hf
      refine lv_istore_n (lv' := [(3, .int y2), (0, .ref (ad 6)), (2, .int x2), (4, .int x4)]) hx hb dX5_part_36 rfl hl (by decide) rfl (fun ls hl => ?_)
      refine lv_iinc (v := (x4 + 1)) (lv' := [(4, .int (x4 + 1)), (3, .int y2), (0, .ref (ad 6)), (2, .int x2)]) hx hb dX5_part_37 hl (k := 3) rfl rfl (by decide) rfl (fun ls hl => ?_)
      refine lv_goto (tgt := 22) hx hb dX5_part_40 (by decide) ?_
      exact ih x2 y2 (x4 + 1) σ _ _ _ hf hP hD hS (lv_sub hl [2, 3, 1, 0] rfl)
set_option maxHeartbeats 4000000 in
set_option maxRecDepth 100000 in
theorem t_X5_part_18  (X : Fx p s m meth c D cA A RX5 cX5_part 5 (some .int))  {x2 z0 : Int32} { σ : St} {H : Heap} {locs : List Loc} {ls : Array Slot} (hf : F_X5_part_18 x2 z0 σ = some (r, σ')) (hP : va_P D vwCl (wC cA ad ta σ) H) (hD : va_D A (wC cA ad ta σ)) (hS : va_S A s.heap H locs) (hl : lv_has ls 5 [(0, .ref (ad 6)), (2, .int x2)]) : W p l e (rm_X5_part) s m args below meth c H locs 0 0 (MQ below (QI D cA A (wC cA ad) r σ' ta) args s 0 0 A) (F0 m 18 ls [.int z0]) := by
  obtain ⟨hx, hb, hr, hml, hown, hlk, hE, hK, hA⟩ := id X
  rw [F_X5_part_18] at hf
  refine lv_istore_n (lv' := [(3, .int z0), (0, .ref (ad 6)), (2, .int x2)]) hx hb dX5_part_18 rfl hl (by decide) rfl (fun ls hl => ?_)
  refine lv_iconst (v := 0) hx hb dX5_part_19 (by decide) ?_
  refine lv_istore (lv' := [(4, .int 0), (3, .int z0), (0, .ref (ad 6)), (2, .int x2)]) hx hb dX5_part_20 hl (by decide) rfl (fun ls hl => ?_)
  exact t_X5_part_22 X  5000 x2 z0 0 σ _ _ _ hf hP hD hS (lv_sub hl [2, 3, 1, 0] rfl)
set_option maxHeartbeats 4000000 in
set_option maxRecDepth 100000 in
theorem t_X5_part_0  (X : Fx p s m meth c D cA A RX5 cX5_part 5 (some .int))  {x1 x2 : Int32} { σ : St} {H : Heap} {locs : List Loc} {ls : Array Slot} (hf : F_X5_part x1 x2 σ = some (r, σ')) (hP : va_P D vwCl (wC cA ad ta σ) H) (hD : va_D A (wC cA ad ta σ)) (hS : va_S A s.heap H locs) (hl : lv_has ls 5 [(0, .ref (ad 6)), (1, .int x1), (2, .int x2)]) : W p l e (rm_X5_part) s m args below meth c H locs 0 0 (MQ below (QI D cA A (wC cA ad) r σ' ta) args s 0 0 A) (F0 m 0 ls []) := by
  obtain ⟨hx, hb, hr, hml, hown, hlk, hE, hK, hA⟩ := id X
  rw [F_X5_part] at hf
  refine lv_iload_n hx hb dX5_part_0 rfl (lv_at hl 1 rfl) ?_
  refine lv_iconst (v := -1) hx hb dX5_part_1 (by decide) ?_
  refine lv_icmp_ne (tgt := 10) hx hb dX5_part_2 (by decide) (fun c1 => ?_) (fun c1 => ?_)
  · have hf := it_f c1 hf
    refine lv_aload_n hx hb dX5_part_10 rfl (lv_at hl 0 rfl) ?_
    refine gC_Ter_first X hP kw200 dX5_part_11 ?_
    refine lv_iload_n hx hb dX5_part_14 rfl (lv_at hl 1 rfl) ?_
    refine callSN_i X cs_X8_get kw452 (c_get l D cA A (wC cA ad) ta σ 34 (ad 34) 808 (gA σ 34) x1 (by decide) rfl) ⟨by decide, by decide⟩ ⟨rfl, rfl⟩ hP hD hS rfl hl rfl (Nat.le_of_ble_eq_true rfl) dX5_part_15 ⟨by decide, by decide⟩ (fun H locs hP hD hS => ?_)
    refine lv_topi (fun y2 ey2 => ?_)
    have hf := bd_x ey2 hf
    exact t_X5_part_18 X  hf hP hD hS (lv_sub hl [0, 2] rfl)
  · have hf := it_t c1 hf
    refine lv_bipush (v := 8) hx hb dX5_part_5 (by decide) ?_
    refine lv_goto (tgt := 18) hx hb dX5_part_7 (by decide) ?_
    exact t_X5_part_18 X  hf hP hD hS (lv_sub hl [0, 2] rfl)
end S_X5_part
theorem c_X5_part (l : Launch) (D : va_G) (cA : ClassId) (A : Nat → Prop) (ad : Nat → Nat) (ta : Nat) (σ : St) (x1 x2 : Int32) (r : Int32) (σ' : St) (hf : F_X5_part x1 x2 σ = some (r, σ')) : MI l D cA A (wC cA ad) yX5_part cX5_part 5 (some .int) rm_X5_part [.ref (ad 6), .int x1, .int x2] ta σ r σ' 0 0 := by
  refine enter (by decide) (Nat.le_of_ble_eq_true rfl) ?_
  intro p e s m below meth c ls X hnm hP hD hS hl
  exact t_X5_part_0 X hf hP hD hS hl
abbrev rm_X5_bind : Room := { frames := 2, cells := 0, slots := 0, locals := 42 }
def F_X5_bind_149 (x1 : Int32) (x3 : Int32) (σ : St) : Rs :=
  bd (rd 808 (gA σ 36) x1) (fun y1 => bd (sF σ 13 ((gF σ 13) + (x3 * y1))) (fun s2 => some (0, s2)))
def F_X5_bind_78  : Nat → Int32 → Int32 → Int32 → St → Rs
  | 0, _, _, _, _ => none
  | n + 1, x1, x3, x4, σ => if x3 ≤ x4 then (F_X5_bind_149 x1 x3 σ) else (bd (sA σ 33 (wr 808 (gA σ 33) (gF σ 11) (-9))) (fun s2 => bd (sA s2 35 (wr 808 (gA s2 35) (gF s2 11) ((gF s2 11) + 1))) (fun s3 => bd (rd 808 (gA s3 36) x1) (fun y4 => bd (sA s3 36 (wr 808 (gA s3 36) (gF s3 11) y4)) (fun s5 => bd (sF s5 11 ((gF s5 11) + 1)) (fun s6 => F_X5_bind_78 n x1 x3 (x4 + 1) s6))))))
def F_X5_bind (x1 : Int32) (x2 : Int32) (σ : St) : Rs :=
  bo (F_X4_parts x2 σ) (fun r1 s2 => if 160 ≤ (gF s2 12) then (some (0, s2)) else (if ((gF s2 11) + r1) ≤ 808 then (bd (sA s2 38 (wr 160 (gA s2 38) (gF s2 12) x1)) (fun s6 => bd (sF s6 12 ((gF s6 12) + 1)) (fun s7 => bd (sA s7 33 (wr 808 (gA s7 33) x1 x2)) (fun s8 => bd (sA s8 34 (wr 808 (gA s8 34) x1 (gF s8 11))) (fun s9 => F_X5_bind_78 5000 x1 r1 0 s9))))) else (some (0, s2))))
section S_X5_bind
variable {p : Program} {l : Launch} {e : Env} {s : State} {m : MethodId} {args : Array Value} {below : List Frame} {meth : Method} {c : Code}
variable {D : va_G} {cA : ClassId} {A : Nat → Prop} {ad : Nat → Nat} {r : Int32} {σ' : St} {ta : Nat}
set_option maxHeartbeats 4000000 in
set_option maxRecDepth 100000 in
theorem t_X5_bind_149  (X : Fx p s m meth c D cA A RX5 cX5_bind 5 none)  {x1 x3 : Int32} { σ : St} {H : Heap} {locs : List Loc} {ls : Array Slot} (hf : F_X5_bind_149 x1 x3 σ = some (r, σ')) (hP : va_P D vwCl (wC cA ad ta σ) H) (hD : va_D A (wC cA ad ta σ)) (hS : va_S A s.heap H locs) (hl : lv_has ls 5 [(0, .ref (ad 6)), (1, .int x1), (3, .int x3)]) : W p l e (rm_X5_bind) s m args below meth c H locs 0 0 (MQ below (QV D cA A (wC cA ad) σ' ta) args s 0 0 A) (F0 m 149 ls []) := by
  obtain ⟨hx, hb, hr, hml, hown, hlk, hE, hK, hA⟩ := id X
  rw [F_X5_bind_149] at hf
  refine lv_aload_n hx hb dX5_bind_149 rfl (lv_at hl 0 rfl) ?_
  refine lv_dup hx hb dX5_bind_150 rfl ?_
  refine gC_Ter_length X hP kw210 dX5_bind_151 ?_
  refine lv_iload_n hx hb dX5_bind_154 rfl (lv_at hl 2 rfl) ?_
  refine lv_aload_n hx hb dX5_bind_155 rfl (lv_at hl 0 rfl) ?_
  refine gC_Ter_times X hP kw202 dX5_bind_156 ?_
  refine lv_iload_n hx hb dX5_bind_159 rfl (lv_at hl 1 rfl) ?_
  refine callSN_i X cs_X8_get kw452 (c_get l D cA A (wC cA ad) ta σ 36 (ad 36) 808 (gA σ 36) x1 (by decide) rfl) ⟨by decide, by decide⟩ ⟨rfl, rfl⟩ hP hD hS rfl hl rfl (Nat.le_of_ble_eq_true rfl) dX5_bind_160 ⟨by decide, by decide⟩ (fun H locs hP hD hS => ?_)
  refine lv_topi (fun y1 ey1 => ?_)
  have hf := bd_x ey1 hf
  refine lv_imul hx hb dX5_bind_163 ?_
  refine lv_iadd hx hb dX5_bind_164 ?_
  refine pC_Ter_length X hP hD hS kw210 dX5_bind_165 (fun H locs hP hD hS => ?_)
  obtain ⟨s2, es2, hf⟩ := bd_e hf
  rw [← es2] at hP hD
  obtain ⟨rfl, rfl⟩ := Prod.mk.inj (Option.some.inj hf)
  exact ret_v X hP hD hS dX5_bind_168
set_option maxHeartbeats 4000000 in
set_option maxRecDepth 100000 in
theorem t_X5_bind_78  (X : Fx p s m meth c D cA A RX5 cX5_bind 5 none)  : ∀ (n : Nat) (x1 x3 x4 : Int32) (σ : St) (H : Heap) (locs : List Loc) (ls : Array Slot), F_X5_bind_78 n x1 x3 x4 σ = some (r, σ') → va_P D vwCl (wC cA ad ta σ) H → va_D A (wC cA ad ta σ) → va_S A s.heap H locs → lv_has ls 5 [(0, .ref (ad 6)), (1, .int x1), (3, .int x3), (4, .int x4)] → W p l e (rm_X5_bind) s m args below meth c H locs 0 0 (MQ below (QV D cA A (wC cA ad) σ' ta) args s 0 0 A) (F0 m 78 ls []) := by
  obtain ⟨hx, hb, hr, hml, hown, hlk, hE, hK, hA⟩ := id X
  intro n
  induction n with
  | zero =>
    intro x1 x3 x4 σ H locs ls hf
    cases (show (none : Rs) = some _ from hf)
  | succ n ih =>
    intro x1 x3 x4 σ H locs ls hf hP hD hS hl
    rw [F_X5_bind_78] at hf
    refine lv_iload hx hb dX5_bind_78 (lv_at hl 3 rfl) ?_
    refine lv_iload_n hx hb dX5_bind_80 rfl (lv_at hl 2 rfl) ?_
    refine lv_icmp_ge (tgt := 149) hx hb dX5_bind_81 (by decide) (fun c1 => ?_) (fun c1 => ?_)
    · have hf := it_t c1 hf
      exact t_X5_bind_149 X  hf hP hD hS (lv_sub hl [0, 1, 2] rfl)
    · have hf := it_f c1 hf
      refine lv_aload_n hx hb dX5_bind_84 rfl (lv_at hl 0 rfl) ?_
      refine gC_Ter_head X hP kw198 dX5_bind_85 ?_
      refine lv_aload_n hx hb dX5_bind_88 rfl (lv_at hl 0 rfl) ?_
      refine gC_Ter_cells X hP kw206 dX5_bind_89 ?_
      refine lv_bipush (v := -9) hx hb dX5_bind_92 (by decide) ?_
      refine callSN_v X cs_X8_set kw451 (c_set l D cA A (wC cA ad) ta σ 33 (ad 33) 808 33 (gF σ 11) (-9) (by decide) rfl (fun f => wC_a33 f)) ⟨by decide, by decide⟩ ⟨rfl, rfl⟩ hP hD hS rfl hl rfl (Nat.le_of_ble_eq_true rfl) dX5_bind_94 ⟨by decide, by decide⟩ (fun H locs hP hD hS => ?_)
      obtain ⟨s2, es2, hf⟩ := bd_e hf
      rw [← es2] at hP hD
      refine lv_aload_n hx hb dX5_bind_97 rfl (lv_at hl 0 rfl) ?_
      refine gC_Ter_end X hP kw201 dX5_bind_98 ?_
      refine lv_aload_n hx hb dX5_bind_101 rfl (lv_at hl 0 rfl) ?_
      refine gC_Ter_cells X hP kw206 dX5_bind_102 ?_
      refine lv_aload_n hx hb dX5_bind_105 rfl (lv_at hl 0 rfl) ?_
      refine gC_Ter_cells X hP kw206 dX5_bind_106 ?_
      refine lv_iconst (v := 1) hx hb dX5_bind_109 (by decide) ?_
      refine lv_iadd hx hb dX5_bind_110 ?_
      refine callSN_v X cs_X8_set kw451 (c_set l D cA A (wC cA ad) ta s2 35 (ad 35) 808 35 (gF s2 11) ((gF s2 11) + 1) (by decide) rfl (fun f => wC_a35 f)) ⟨by decide, by decide⟩ ⟨rfl, rfl⟩ hP hD hS rfl hl rfl (Nat.le_of_ble_eq_true rfl) dX5_bind_111 ⟨by decide, by decide⟩ (fun H locs hP hD hS => ?_)
      obtain ⟨s3, es3, hf⟩ := bd_e hf
      rw [← es3] at hP hD
      refine lv_aload_n hx hb dX5_bind_114 rfl (lv_at hl 0 rfl) ?_
      refine gC_Ter_times X hP kw202 dX5_bind_115 ?_
      refine lv_aload_n hx hb dX5_bind_118 rfl (lv_at hl 0 rfl) ?_
      refine gC_Ter_cells X hP kw206 dX5_bind_119 ?_
      refine lv_aload_n hx hb dX5_bind_122 rfl (lv_at hl 0 rfl) ?_
      refine gC_Ter_times X hP kw202 dX5_bind_123 ?_
      refine lv_iload_n hx hb dX5_bind_126 rfl (lv_at hl 1 rfl) ?_
      refine callSN_i X cs_X8_get kw452 (c_get l D cA A (wC cA ad) ta s3 36 (ad 36) 808 (gA s3 36) x1 (by decide) rfl) ⟨by decide, by decide⟩ ⟨rfl, rfl⟩ hP hD hS rfl hl rfl (Nat.le_of_ble_eq_true rfl) dX5_bind_127 ⟨by decide, by decide⟩ (fun H locs hP hD hS => ?_)
      refine lv_topi (fun y4 ey4 => ?_)
      have hf := bd_x ey4 hf
      refine callSN_v X cs_X8_set kw451 (c_set l D cA A (wC cA ad) ta s3 36 (ad 36) 808 36 (gF s3 11) y4 (by decide) rfl (fun f => wC_a36 f)) ⟨by decide, by decide⟩ ⟨rfl, rfl⟩ hP hD hS rfl hl rfl (Nat.le_of_ble_eq_true rfl) dX5_bind_130 ⟨by decide, by decide⟩ (fun H locs hP hD hS => ?_)
      obtain ⟨s5, es5, hf⟩ := bd_e hf
      rw [← es5] at hP hD
      refine lv_aload_n hx hb dX5_bind_133 rfl (lv_at hl 0 rfl) ?_
      refine lv_dup hx hb dX5_bind_134 rfl ?_
      refine gC_Ter_cells X hP kw206 dX5_bind_135 ?_
      refine lv_iconst (v := 1) hx hb dX5_bind_138 (by decide) ?_
      refine lv_iadd hx hb dX5_bind_139 ?_
      refine pC_Ter_cells X hP hD hS kw206 dX5_bind_140 (fun H locs hP hD hS => ?_)
      obtain ⟨s6, es6, hf⟩ := bd_e hf
      rw [← es6] at hP hD
      refine lv_iinc (v := (x4 + 1)) (lv' := [(4, .int (x4 + 1)), (0, .ref (ad 6)), (1, .int x1), (3, .int x3)]) hx hb dX5_bind_143 hl (k := 3) rfl rfl (by decide) rfl (fun ls hl => ?_)
      refine lv_goto (tgt := 78) hx hb dX5_bind_146 (by decide) ?_
      exact ih x1 x3 (x4 + 1) s6 _ _ _ hf hP hD hS (lv_sub hl [1, 2, 3, 0] rfl)
set_option maxHeartbeats 4000000 in
set_option maxRecDepth 100000 in
theorem t_X5_bind_0  (X : Fx p s m meth c D cA A RX5 cX5_bind 5 none)  {x1 x2 : Int32} { σ : St} {H : Heap} {locs : List Loc} {ls : Array Slot} (hf : F_X5_bind x1 x2 σ = some (r, σ')) (hP : va_P D vwCl (wC cA ad ta σ) H) (hD : va_D A (wC cA ad ta σ)) (hS : va_S A s.heap H locs) (hl : lv_has ls 5 [(0, .ref (ad 6)), (1, .int x1), (2, .int x2)]) : W p l e (rm_X5_bind) s m args below meth c H locs 0 0 (MQ below (QV D cA A (wC cA ad) σ' ta) args s 0 0 A) (F0 m 0 ls []) := by
  obtain ⟨hx, hb, hr, hml, hown, hlk, hE, hK, hA⟩ := id X
  rw [F_X5_bind] at hf
  refine lv_aload_n hx hb dX5_bind_0 rfl (lv_at hl 0 rfl) ?_
  refine gC_Ter_signature X hP kw197 dX5_bind_1 ?_
  refine lv_iload_n hx hb dX5_bind_4 rfl (lv_at hl 2 rfl) ?_
  obtain ⟨r1, s2, h3, hf⟩ := bo_e hf
  refine callVN_i X cv_X4_parts kw562 (c_X4_parts l D cA A ad ta σ x2 r1 s2 h3) ⟨by decide, by decide⟩ ⟨rfl, rfl⟩ hP hD hS (q0 := 1) (ci := 4) rfl rfl rfl rfl hl rfl (Nat.le_of_ble_eq_true rfl) dX5_bind_5 ⟨by decide, by decide⟩ (fun H locs hP hD hS => ?_)
  refine lv_istore_n (lv' := [(3, .int r1), (0, .ref (ad 6)), (1, .int x1), (2, .int x2)]) hx hb dX5_bind_8 rfl hl (by decide) rfl (fun ls hl => ?_)
  refine lv_aload_n hx hb dX5_bind_9 rfl (lv_at hl 1 rfl) ?_
  refine gC_Ter_bindings X hP kw207 dX5_bind_10 ?_
  refine lv_sipush (v := 160) hx hb dX5_bind_13 (by decide) ?_
  refine lv_icmp_ge (tgt := 31) hx hb dX5_bind_16 (by decide) (fun c4 => ?_) (fun c4 => ?_)
  · have hf := it_t c4 hf
    obtain ⟨rfl, rfl⟩ := Prod.mk.inj (Option.some.inj hf)
    exact ret_v X hP hD hS dX5_bind_31
  · have hf := it_f c4 hf
    refine lv_aload_n hx hb dX5_bind_19 rfl (lv_at hl 1 rfl) ?_
    refine gC_Ter_cells X hP kw206 dX5_bind_20 ?_
    refine lv_iload_n hx hb dX5_bind_23 rfl (lv_at hl 0 rfl) ?_
    refine lv_iadd hx hb dX5_bind_24 ?_
    refine lv_sipush (v := 808) hx hb dX5_bind_25 (by decide) ?_
    refine lv_icmp_le (tgt := 32) hx hb dX5_bind_28 (by decide) (fun c5 => ?_) (fun c5 => ?_)
    · have hf := it_t c5 hf
      refine lv_aload_n hx hb dX5_bind_32 rfl (lv_at hl 1 rfl) ?_
      refine gC_Ter_bound X hP kw204 dX5_bind_33 ?_
      refine lv_aload_n hx hb dX5_bind_36 rfl (lv_at hl 1 rfl) ?_
      refine gC_Ter_bindings X hP kw207 dX5_bind_37 ?_
      refine lv_iload_n hx hb dX5_bind_40 rfl (lv_at hl 2 rfl) ?_
      refine callSN_v X cs_X8_set kw451 (c_set l D cA A (wC cA ad) ta s2 38 (ad 38) 160 38 (gF s2 12) x1 (by decide) rfl (fun f => wC_a38 f)) ⟨by decide, by decide⟩ ⟨rfl, rfl⟩ hP hD hS rfl hl rfl (Nat.le_of_ble_eq_true rfl) dX5_bind_41 ⟨by decide, by decide⟩ (fun H locs hP hD hS => ?_)
      obtain ⟨s6, es6, hf⟩ := bd_e hf
      rw [← es6] at hP hD
      refine lv_aload_n hx hb dX5_bind_44 rfl (lv_at hl 1 rfl) ?_
      refine lv_dup hx hb dX5_bind_45 rfl ?_
      refine gC_Ter_bindings X hP kw207 dX5_bind_46 ?_
      refine lv_iconst (v := 1) hx hb dX5_bind_49 (by decide) ?_
      refine lv_iadd hx hb dX5_bind_50 ?_
      refine pC_Ter_bindings X hP hD hS kw207 dX5_bind_51 (fun H locs hP hD hS => ?_)
      obtain ⟨s7, es7, hf⟩ := bd_e hf
      rw [← es7] at hP hD
      refine lv_aload_n hx hb dX5_bind_54 rfl (lv_at hl 1 rfl) ?_
      refine gC_Ter_head X hP kw198 dX5_bind_55 ?_
      refine lv_iload_n hx hb dX5_bind_58 rfl (lv_at hl 2 rfl) ?_
      refine lv_iload_n hx hb dX5_bind_59 rfl (lv_at hl 3 rfl) ?_
      refine callSN_v X cs_X8_set kw451 (c_set l D cA A (wC cA ad) ta s7 33 (ad 33) 808 33 x1 x2 (by decide) rfl (fun f => wC_a33 f)) ⟨by decide, by decide⟩ ⟨rfl, rfl⟩ hP hD hS rfl hl rfl (Nat.le_of_ble_eq_true rfl) dX5_bind_60 ⟨by decide, by decide⟩ (fun H locs hP hD hS => ?_)
      obtain ⟨s8, es8, hf⟩ := bd_e hf
      rw [← es8] at hP hD
      refine lv_aload_n hx hb dX5_bind_63 rfl (lv_at hl 1 rfl) ?_
      refine gC_Ter_first X hP kw200 dX5_bind_64 ?_
      refine lv_iload_n hx hb dX5_bind_67 rfl (lv_at hl 2 rfl) ?_
      refine lv_aload_n hx hb dX5_bind_68 rfl (lv_at hl 1 rfl) ?_
      refine gC_Ter_cells X hP kw206 dX5_bind_69 ?_
      refine callSN_v X cs_X8_set kw451 (c_set l D cA A (wC cA ad) ta s8 34 (ad 34) 808 34 x1 (gF s8 11) (by decide) rfl (fun f => wC_a34 f)) ⟨by decide, by decide⟩ ⟨rfl, rfl⟩ hP hD hS rfl hl rfl (Nat.le_of_ble_eq_true rfl) dX5_bind_72 ⟨by decide, by decide⟩ (fun H locs hP hD hS => ?_)
      obtain ⟨s9, es9, hf⟩ := bd_e hf
      rw [← es9] at hP hD
      refine lv_iconst (v := 0) hx hb dX5_bind_75 (by decide) ?_
      refine lv_istore (lv' := [(4, .int 0), (3, .int r1), (0, .ref (ad 6)), (1, .int x1), (2, .int x2)]) hx hb dX5_bind_76 hl (by decide) rfl (fun ls hl => ?_)
      exact t_X5_bind_78 X  5000 x1 r1 0 s9 _ _ _ hf hP hD hS (lv_sub hl [2, 3, 1, 0] rfl)
    · have hf := it_f c5 hf
      obtain ⟨rfl, rfl⟩ := Prod.mk.inj (Option.some.inj hf)
      exact ret_v X hP hD hS dX5_bind_31
end S_X5_bind
theorem c_X5_bind (l : Launch) (D : va_G) (cA : ClassId) (A : Nat → Prop) (ad : Nat → Nat) (ta : Nat) (σ : St) (x1 x2 : Int32) (r : Int32) (σ' : St) (hf : F_X5_bind x1 x2 σ = some (r, σ')) : MV l D cA A (wC cA ad) yX5_bind cX5_bind 5 none rm_X5_bind [.ref (ad 6), .int x1, .int x2] ta σ σ' 0 0 := by
  refine enter (by decide) (Nat.le_of_ble_eq_true rfl) ?_
  intro p e s m below meth c ls X hnm hP hD hS hl
  exact t_X5_bind_0 X hf hP hD hS hl
abbrev rm_X5_unbindTo : Room := { frames := 2, cells := 0, slots := 0, locals := 42 }
def F_X5_unbindTo_7  : Nat → Int32 → Int32 → St → Rs
  | 0, _, _, _ => none
  | n + 1, x1, x2, σ => if x2 < x1 then (some (0, σ)) else (if x2 < 0 then (some (0, σ)) else (bd (rd 160 (gA σ 38) x2) (fun y3 => bd (rd 808 (gA σ 33) y3) (fun y4 => bo (F_X4_parts y4 σ) (fun r5 s6 => bd (rd 808 (gA s6 36) y3) (fun y8 => bd (sF s6 13 ((gF σ 13) - (r5 * y8))) (fun s9 => bd (rd 808 (gA s9 34) y3) (fun y10 => bd (sF s9 11 y10) (fun s11 => bd (sA s11 33 (wr 808 (gA s11 33) y3 (-9))) (fun s12 => bd (sF s12 12 x2) (fun s13 => F_X5_unbindTo_7 n x1 (x2 + (-1)) s13)))))))))))
def F_X5_unbindTo (x1 : Int32) (σ : St) : Rs :=
  bd ((gF σ 12) - 1) (fun y1 => F_X5_unbindTo_7 5000 x1 y1 σ)
section S_X5_unbindTo
variable {p : Program} {l : Launch} {e : Env} {s : State} {m : MethodId} {args : Array Value} {below : List Frame} {meth : Method} {c : Code}
variable {D : va_G} {cA : ClassId} {A : Nat → Prop} {ad : Nat → Nat} {r : Int32} {σ' : St} {ta : Nat}
set_option maxHeartbeats 4000000 in
set_option maxRecDepth 100000 in
theorem t_X5_unbindTo_7  (X : Fx p s m meth c D cA A RX5 cX5_unbindTo 4 none)  : ∀ (n : Nat) (x1 x2 : Int32) (σ : St) (H : Heap) (locs : List Loc) (ls : Array Slot), F_X5_unbindTo_7 n x1 x2 σ = some (r, σ') → va_P D vwCl (wC cA ad ta σ) H → va_D A (wC cA ad ta σ) → va_S A s.heap H locs → lv_has ls 4 [(0, .ref (ad 6)), (1, .int x1), (2, .int x2)] → W p l e (rm_X5_unbindTo) s m args below meth c H locs 0 0 (MQ below (QV D cA A (wC cA ad) σ' ta) args s 0 0 A) (F0 m 7 ls []) := by
  obtain ⟨hx, hb, hr, hml, hown, hlk, hE, hK, hA⟩ := id X
  intro n
  induction n with
  | zero =>
    intro x1 x2 σ H locs ls hf
    cases (show (none : Rs) = some _ from hf)
  | succ n ih =>
    intro x1 x2 σ H locs ls hf hP hD hS hl
    rw [F_X5_unbindTo_7] at hf
    refine lv_iload_n hx hb dX5_unbindTo_7 rfl (lv_at hl 2 rfl) ?_
    refine lv_iload_n hx hb dX5_unbindTo_8 rfl (lv_at hl 1 rfl) ?_
    refine lv_icmp_lt (tgt := 91) hx hb dX5_unbindTo_9 (by decide) (fun c1 => ?_) (fun c1 => ?_)
    · have hf := it_t c1 hf
      obtain ⟨rfl, rfl⟩ := Prod.mk.inj (Option.some.inj hf)
      exact ret_v X hP hD hS dX5_unbindTo_91
    · have hf := it_f c1 hf
      refine lv_iload_n hx hb dX5_unbindTo_12 rfl (lv_at hl 2 rfl) ?_
      refine lv_if_lt (tgt := 91) hx hb dX5_unbindTo_13 (by decide) (fun c2 => ?_) (fun c2 => ?_)
      · have hf := it_t c2 hf
        obtain ⟨rfl, rfl⟩ := Prod.mk.inj (Option.some.inj hf)
        exact ret_v X hP hD hS dX5_unbindTo_91
      · have hf := it_f c2 hf
        refine lv_aload_n hx hb dX5_unbindTo_16 rfl (lv_at hl 0 rfl) ?_
        refine gC_Ter_bound X hP kw204 dX5_unbindTo_17 ?_
        refine lv_iload_n hx hb dX5_unbindTo_20 rfl (lv_at hl 2 rfl) ?_
        refine callSN_i X cs_X8_get kw452 (c_get l D cA A (wC cA ad) ta σ 38 (ad 38) 160 (gA σ 38) x2 (by decide) rfl) ⟨by decide, by decide⟩ ⟨rfl, rfl⟩ hP hD hS rfl hl rfl (Nat.le_of_ble_eq_true rfl) dX5_unbindTo_21 ⟨by decide, by decide⟩ (fun H locs hP hD hS => ?_)
        refine lv_topi (fun y3 ey3 => ?_)
        have hf := bd_x ey3 hf
        refine lv_istore_n (lv' := [(3, .int y3), (0, .ref (ad 6)), (1, .int x1), (2, .int x2)]) hx hb dX5_unbindTo_24 rfl hl (by decide) rfl (fun ls hl => ?_)
        refine lv_aload_n hx hb dX5_unbindTo_25 rfl (lv_at hl 1 rfl) ?_
        refine lv_dup hx hb dX5_unbindTo_26 rfl ?_
        refine gC_Ter_length X hP kw210 dX5_unbindTo_27 ?_
        refine lv_aload_n hx hb dX5_unbindTo_30 rfl (lv_at hl 1 rfl) ?_
        refine gC_Ter_signature X hP kw197 dX5_unbindTo_31 ?_
        refine lv_aload_n hx hb dX5_unbindTo_34 rfl (lv_at hl 1 rfl) ?_
        refine gC_Ter_head X hP kw198 dX5_unbindTo_35 ?_
        refine lv_iload_n hx hb dX5_unbindTo_38 rfl (lv_at hl 0 rfl) ?_
        refine callSN_i X cs_X8_get kw452 (c_get l D cA A (wC cA ad) ta σ 33 (ad 33) 808 (gA σ 33) y3 (by decide) rfl) ⟨by decide, by decide⟩ ⟨rfl, rfl⟩ hP hD hS rfl hl rfl (Nat.le_of_ble_eq_true rfl) dX5_unbindTo_39 ⟨by decide, by decide⟩ (fun H locs hP hD hS => ?_)
        refine lv_topi (fun y4 ey4 => ?_)
        have hf := bd_x ey4 hf
        obtain ⟨r5, s6, h7, hf⟩ := bo_e hf
        refine callVN_i X cv_X4_parts kw562 (c_X4_parts l D cA A ad ta σ y4 r5 s6 h7) ⟨by decide, by decide⟩ ⟨rfl, rfl⟩ hP hD hS (q0 := 1) (ci := 4) rfl rfl rfl rfl hl rfl (Nat.le_of_ble_eq_true rfl) dX5_unbindTo_42 ⟨by decide, by decide⟩ (fun H locs hP hD hS => ?_)
        refine lv_aload_n hx hb dX5_unbindTo_45 rfl (lv_at hl 1 rfl) ?_
        refine gC_Ter_times X hP kw202 dX5_unbindTo_46 ?_
        refine lv_iload_n hx hb dX5_unbindTo_49 rfl (lv_at hl 0 rfl) ?_
        refine callSN_i X cs_X8_get kw452 (c_get l D cA A (wC cA ad) ta s6 36 (ad 36) 808 (gA s6 36) y3 (by decide) rfl) ⟨by decide, by decide⟩ ⟨rfl, rfl⟩ hP hD hS rfl hl rfl (Nat.le_of_ble_eq_true rfl) dX5_unbindTo_50 ⟨by decide, by decide⟩ (fun H locs hP hD hS => ?_)
        refine lv_topi (fun y8 ey8 => ?_)
        have hf := bd_x ey8 hf
        refine lv_imul hx hb dX5_unbindTo_53 ?_
        refine lv_isub hx hb dX5_unbindTo_54 ?_
        refine pC_Ter_length X hP hD hS kw210 dX5_unbindTo_55 (fun H locs hP hD hS => ?_)
        obtain ⟨s9, es9, hf⟩ := bd_e hf
        rw [← es9] at hP hD
        refine lv_aload_n hx hb dX5_unbindTo_58 rfl (lv_at hl 1 rfl) ?_
        refine lv_aload_n hx hb dX5_unbindTo_59 rfl (lv_at hl 1 rfl) ?_
        refine gC_Ter_first X hP kw200 dX5_unbindTo_60 ?_
        refine lv_iload_n hx hb dX5_unbindTo_63 rfl (lv_at hl 0 rfl) ?_
        refine callSN_i X cs_X8_get kw452 (c_get l D cA A (wC cA ad) ta s9 34 (ad 34) 808 (gA s9 34) y3 (by decide) rfl) ⟨by decide, by decide⟩ ⟨rfl, rfl⟩ hP hD hS rfl hl rfl (Nat.le_of_ble_eq_true rfl) dX5_unbindTo_64 ⟨by decide, by decide⟩ (fun H locs hP hD hS => ?_)
        refine lv_topi (fun y10 ey10 => ?_)
        have hf := bd_x ey10 hf
        refine pC_Ter_cells X hP hD hS kw206 dX5_unbindTo_67 (fun H locs hP hD hS => ?_)
        obtain ⟨s11, es11, hf⟩ := bd_e hf
        rw [← es11] at hP hD
        refine lv_aload_n hx hb dX5_unbindTo_70 rfl (lv_at hl 1 rfl) ?_
        refine gC_Ter_head X hP kw198 dX5_unbindTo_71 ?_
        refine lv_iload_n hx hb dX5_unbindTo_74 rfl (lv_at hl 0 rfl) ?_
        refine lv_bipush (v := -9) hx hb dX5_unbindTo_75 (by decide) ?_
        refine callSN_v X cs_X8_set kw451 (c_set l D cA A (wC cA ad) ta s11 33 (ad 33) 808 33 y3 (-9) (by decide) rfl (fun f => wC_a33 f)) ⟨by decide, by decide⟩ ⟨rfl, rfl⟩ hP hD hS rfl hl rfl (Nat.le_of_ble_eq_true rfl) dX5_unbindTo_77 ⟨by decide, by decide⟩ (fun H locs hP hD hS => ?_)
        obtain ⟨s12, es12, hf⟩ := bd_e hf
        rw [← es12] at hP hD
        refine lv_aload_n hx hb dX5_unbindTo_80 rfl (lv_at hl 1 rfl) ?_
        refine lv_iload_n hx hb dX5_unbindTo_81 rfl (lv_at hl 3 rfl) ?_
        refine pC_Ter_bindings X hP hD hS kw207 dX5_unbindTo_82 (fun H locs hP hD hS => ?_)
        obtain ⟨s13, es13, hf⟩ := bd_e hf
        rw [← es13] at hP hD
        refine lv_iinc (v := (x2 + (-1))) (lv' := [(2, .int (x2 + (-1))), (3, .int y3), (0, .ref (ad 6)), (1, .int x1)]) hx hb dX5_unbindTo_85 hl (k := 3) rfl rfl (by decide) rfl (fun ls hl => ?_)
        refine lv_goto (tgt := 7) hx hb dX5_unbindTo_88 (by decide) ?_
        exact ih x1 (x2 + (-1)) s13 _ _ _ hf hP hD hS (lv_sub hl [2, 3, 0] rfl)
set_option maxHeartbeats 4000000 in
set_option maxRecDepth 100000 in
theorem t_X5_unbindTo_0  (X : Fx p s m meth c D cA A RX5 cX5_unbindTo 4 none)  {x1 : Int32} { σ : St} {H : Heap} {locs : List Loc} {ls : Array Slot} (hf : F_X5_unbindTo x1 σ = some (r, σ')) (hP : va_P D vwCl (wC cA ad ta σ) H) (hD : va_D A (wC cA ad ta σ)) (hS : va_S A s.heap H locs) (hl : lv_has ls 4 [(0, .ref (ad 6)), (1, .int x1)]) : W p l e (rm_X5_unbindTo) s m args below meth c H locs 0 0 (MQ below (QV D cA A (wC cA ad) σ' ta) args s 0 0 A) (F0 m 0 ls []) := by
  obtain ⟨hx, hb, hr, hml, hown, hlk, hE, hK, hA⟩ := id X
  rw [F_X5_unbindTo] at hf
  refine lv_aload_n hx hb dX5_unbindTo_0 rfl (lv_at hl 0 rfl) ?_
  refine gC_Ter_bindings X hP kw207 dX5_unbindTo_1 ?_
  refine lv_iconst (v := 1) hx hb dX5_unbindTo_4 (by decide) ?_
  refine lv_isub hx hb dX5_unbindTo_5 ?_
  refine lv_topi (fun y1 ey1 => ?_)
  have hf := bd_x ey1 hf
  refine lv_istore_n (lv' := [(2, .int y1), (0, .ref (ad 6)), (1, .int x1)]) hx hb dX5_unbindTo_6 rfl hl (by decide) rfl (fun ls hl => ?_)
  exact t_X5_unbindTo_7 X  5000 x1 y1 σ _ _ _ hf hP hD hS (lv_sub hl [1, 2, 0] rfl)
end S_X5_unbindTo
theorem c_X5_unbindTo (l : Launch) (D : va_G) (cA : ClassId) (A : Nat → Prop) (ad : Nat → Nat) (ta : Nat) (σ : St) (x1 : Int32) (r : Int32) (σ' : St) (hf : F_X5_unbindTo x1 σ = some (r, σ')) : MV l D cA A (wC cA ad) yX5_unbindTo cX5_unbindTo 4 none rm_X5_unbindTo [.ref (ad 6), .int x1] ta σ σ' 0 0 := by
  refine enter (by decide) (Nat.le_of_ble_eq_true rfl) ?_
  intro p e s m below meth c ls X hnm hP hD hS hl
  exact t_X5_unbindTo_0 X hf hP hD hS hl
abbrev rm_X5_leave : Room := { frames := 1, cells := 0, slots := 0, locals := 22 }
def F_X5_leave_42 (x2 : Int32) (σ : St) : Rs :=
  bd (sF σ 14 ((gF σ 14) + x2)) (fun s1 => some (0, s1))
def F_X5_leave_7  : Nat → Int32 → Int32 → Int32 → St → Rs
  | 0, _, _, _, _ => none
  | n + 1, x2, x3, x4, σ => if x4 < 0 then (F_X5_leave_42 x2 σ) else (bd (sA σ 39 (wr 400 (gA σ 39) ((gF σ 14) + x4) x3)) (fun s2 => bd (rd 808 (gA s2 35) x3) (fun y3 => F_X5_leave_7 n x2 y3 (x4 + (-1)) s2)))
def F_X5_leave (x1 : Int32) (x2 : Int32) (σ : St) : Rs :=
  bd (x2 - 1) (fun y1 => F_X5_leave_7 5000 x2 x1 y1 σ)
section S_X5_leave
variable {p : Program} {l : Launch} {e : Env} {s : State} {m : MethodId} {args : Array Value} {below : List Frame} {meth : Method} {c : Code}
variable {D : va_G} {cA : ClassId} {A : Nat → Prop} {ad : Nat → Nat} {r : Int32} {σ' : St} {ta : Nat}
set_option maxHeartbeats 4000000 in
set_option maxRecDepth 100000 in
theorem t_X5_leave_42  (X : Fx p s m meth c D cA A RX5 cX5_leave 5 none)  {x2 : Int32} { σ : St} {H : Heap} {locs : List Loc} {ls : Array Slot} (hf : F_X5_leave_42 x2 σ = some (r, σ')) (hP : va_P D vwCl (wC cA ad ta σ) H) (hD : va_D A (wC cA ad ta σ)) (hS : va_S A s.heap H locs) (hl : lv_has ls 5 [(0, .ref (ad 6)), (2, .int x2)]) : W p l e (rm_X5_leave) s m args below meth c H locs 0 0 (MQ below (QV D cA A (wC cA ad) σ' ta) args s 0 0 A) (F0 m 42 ls []) := by
  obtain ⟨hx, hb, hr, hml, hown, hlk, hE, hK, hA⟩ := id X
  rw [F_X5_leave_42] at hf
  refine lv_aload_n hx hb dX5_leave_42 rfl (lv_at hl 0 rfl) ?_
  refine lv_dup hx hb dX5_leave_43 rfl ?_
  refine gC_Ter_left X hP kw212 dX5_leave_44 ?_
  refine lv_iload_n hx hb dX5_leave_47 rfl (lv_at hl 1 rfl) ?_
  refine lv_iadd hx hb dX5_leave_48 ?_
  refine pC_Ter_left X hP hD hS kw212 dX5_leave_49 (fun H locs hP hD hS => ?_)
  obtain ⟨s1, es1, hf⟩ := bd_e hf
  rw [← es1] at hP hD
  obtain ⟨rfl, rfl⟩ := Prod.mk.inj (Option.some.inj hf)
  exact ret_v X hP hD hS dX5_leave_52
set_option maxHeartbeats 4000000 in
set_option maxRecDepth 100000 in
theorem t_X5_leave_7  (X : Fx p s m meth c D cA A RX5 cX5_leave 5 none)  : ∀ (n : Nat) (x2 x3 x4 : Int32) (σ : St) (H : Heap) (locs : List Loc) (ls : Array Slot), F_X5_leave_7 n x2 x3 x4 σ = some (r, σ') → va_P D vwCl (wC cA ad ta σ) H → va_D A (wC cA ad ta σ) → va_S A s.heap H locs → lv_has ls 5 [(0, .ref (ad 6)), (2, .int x2), (3, .int x3), (4, .int x4)] → W p l e (rm_X5_leave) s m args below meth c H locs 0 0 (MQ below (QV D cA A (wC cA ad) σ' ta) args s 0 0 A) (F0 m 7 ls []) := by
  obtain ⟨hx, hb, hr, hml, hown, hlk, hE, hK, hA⟩ := id X
  intro n
  induction n with
  | zero =>
    intro x2 x3 x4 σ H locs ls hf
    cases (show (none : Rs) = some _ from hf)
  | succ n ih =>
    intro x2 x3 x4 σ H locs ls hf hP hD hS hl
    rw [F_X5_leave_7] at hf
    refine lv_iload hx hb dX5_leave_7 (lv_at hl 3 rfl) ?_
    refine lv_if_lt (tgt := 42) hx hb dX5_leave_9 (by decide) (fun c1 => ?_) (fun c1 => ?_)
    · have hf := it_t c1 hf
      exact t_X5_leave_42 X  hf hP hD hS (lv_sub hl [0, 1] rfl)
    · have hf := it_f c1 hf
      refine lv_aload_n hx hb dX5_leave_12 rfl (lv_at hl 0 rfl) ?_
      refine gC_Ter_unwritten X hP kw205 dX5_leave_13 ?_
      refine lv_aload_n hx hb dX5_leave_16 rfl (lv_at hl 0 rfl) ?_
      refine gC_Ter_left X hP kw212 dX5_leave_17 ?_
      refine lv_iload hx hb dX5_leave_20 (lv_at hl 3 rfl) ?_
      refine lv_iadd hx hb dX5_leave_22 ?_
      refine lv_iload_n hx hb dX5_leave_23 rfl (lv_at hl 2 rfl) ?_
      refine callSN_v X cs_X8_set kw451 (c_set l D cA A (wC cA ad) ta σ 39 (ad 39) 400 39 ((gF σ 14) + x4) x3 (by decide) rfl (fun f => wC_a39 f)) ⟨by decide, by decide⟩ ⟨rfl, rfl⟩ hP hD hS rfl hl rfl (Nat.le_of_ble_eq_true rfl) dX5_leave_24 ⟨by decide, by decide⟩ (fun H locs hP hD hS => ?_)
      obtain ⟨s2, es2, hf⟩ := bd_e hf
      rw [← es2] at hP hD
      refine lv_aload_n hx hb dX5_leave_27 rfl (lv_at hl 0 rfl) ?_
      refine gC_Ter_end X hP kw201 dX5_leave_28 ?_
      refine lv_iload_n hx hb dX5_leave_31 rfl (lv_at hl 2 rfl) ?_
      refine callSN_i X cs_X8_get kw452 (c_get l D cA A (wC cA ad) ta s2 35 (ad 35) 808 (gA s2 35) x3 (by decide) rfl) ⟨by decide, by decide⟩ ⟨rfl, rfl⟩ hP hD hS rfl hl rfl (Nat.le_of_ble_eq_true rfl) dX5_leave_32 ⟨by decide, by decide⟩ (fun H locs hP hD hS => ?_)
      refine lv_topi (fun y3 ey3 => ?_)
      have hf := bd_x ey3 hf
      refine lv_istore_n (lv' := [(3, .int y3), (0, .ref (ad 6)), (2, .int x2), (4, .int x4)]) hx hb dX5_leave_35 rfl hl (by decide) rfl (fun ls hl => ?_)
      refine lv_iinc (v := (x4 + (-1))) (lv' := [(4, .int (x4 + (-1))), (3, .int y3), (0, .ref (ad 6)), (2, .int x2)]) hx hb dX5_leave_36 hl (k := 3) rfl rfl (by decide) rfl (fun ls hl => ?_)
      refine lv_goto (tgt := 7) hx hb dX5_leave_39 (by decide) ?_
      exact ih x2 y3 (x4 + (-1)) s2 _ _ _ hf hP hD hS (lv_sub hl [2, 3, 1, 0] rfl)
set_option maxHeartbeats 4000000 in
set_option maxRecDepth 100000 in
theorem t_X5_leave_0  (X : Fx p s m meth c D cA A RX5 cX5_leave 5 none)  {x1 x2 : Int32} { σ : St} {H : Heap} {locs : List Loc} {ls : Array Slot} (hf : F_X5_leave x1 x2 σ = some (r, σ')) (hP : va_P D vwCl (wC cA ad ta σ) H) (hD : va_D A (wC cA ad ta σ)) (hS : va_S A s.heap H locs) (hl : lv_has ls 5 [(0, .ref (ad 6)), (1, .int x1), (2, .int x2)]) : W p l e (rm_X5_leave) s m args below meth c H locs 0 0 (MQ below (QV D cA A (wC cA ad) σ' ta) args s 0 0 A) (F0 m 0 ls []) := by
  obtain ⟨hx, hb, hr, hml, hown, hlk, hE, hK, hA⟩ := id X
  rw [F_X5_leave] at hf
  refine lv_iload_n hx hb dX5_leave_0 rfl (lv_at hl 1 rfl) ?_
  refine lv_istore_n (lv' := [(3, .int x1), (0, .ref (ad 6)), (1, .int x1), (2, .int x2)]) hx hb dX5_leave_1 rfl hl (by decide) rfl (fun ls hl => ?_)
  refine lv_iload_n hx hb dX5_leave_2 rfl (lv_at hl 3 rfl) ?_
  refine lv_iconst (v := 1) hx hb dX5_leave_3 (by decide) ?_
  refine lv_isub hx hb dX5_leave_4 ?_
  refine lv_topi (fun y1 ey1 => ?_)
  have hf := bd_x ey1 hf
  refine lv_istore (lv' := [(4, .int y1), (3, .int x1), (0, .ref (ad 6)), (1, .int x1), (2, .int x2)]) hx hb dX5_leave_5 hl (by decide) rfl (fun ls hl => ?_)
  exact t_X5_leave_7 X  5000 x2 x1 y1 σ _ _ _ hf hP hD hS (lv_sub hl [2, 4, 1, 0] rfl)
end S_X5_leave
theorem c_X5_leave (l : Launch) (D : va_G) (cA : ClassId) (A : Nat → Prop) (ad : Nat → Nat) (ta : Nat) (σ : St) (x1 x2 : Int32) (r : Int32) (σ' : St) (hf : F_X5_leave x1 x2 σ = some (r, σ')) : MV l D cA A (wC cA ad) yX5_leave cX5_leave 5 none rm_X5_leave [.ref (ad 6), .int x1, .int x2] ta σ σ' 0 0 := by
  refine enter (by decide) (Nat.le_of_ble_eq_true rfl) ?_
  intro p e s m below meth c ls X hnm hP hD hS hl
  exact t_X5_leave_0 X hf hP hD hS hl
abbrev rm_X5_write : Room := { frames := 2, cells := 0, slots := 0, locals := 46 }
def F_X5_write_166 (k32 : Int32 → Int32 → Int32 → St → Rs) (x2 : Int32) (x3 : Int32) (x4 : Int32) (z0 : Int32) (z1 : Int32) (σ : St) : Rs :=
  bd (sA σ 48 (wr ((gF σ 16).toNatClampNeg) (gA σ 48) z1 z0)) (fun s1 => k32 x2 x3 (x4 + 1) s1)
def F_X5_write_142 (k32 : Int32 → Int32 → Int32 → St → Rs) (x2 : Int32) (x3 : Int32) (x4 : Int32) (x5 : Int32) (x6 : Int32) (σ : St) : Rs :=
  if x6 < 0 then (bd (rd 808 (gA σ 37) x5) (fun y2 => F_X5_write_166 k32 x2 x3 x4 y2 (x2 + x4) σ)) else (F_X5_write_166 k32 x2 x3 x4 x6 (x2 + x4) σ)
def F_X5_write_32  : Nat → Int32 → Int32 → Int32 → St → Rs
  | 0, _, _, _, _ => none
  | n + 1, x2, x3, x4, σ => if (gF σ 13) ≤ x4 then (some (0, σ)) else (if (gF σ 14) ≤ 0 then (some (0, σ)) else (bd (sF σ 14 ((gF σ 14) - 1)) (fun s3 => bd (rd 400 (gA s3 39) (gF s3 14)) (fun y4 => bo (F_X5_meant y4 s3) (fun r5 s6 => bd (rd 808 (gA s6 33) r5) (fun y8 => if y8 < 0 then (bd (rd 808 (gA s6 37) r5) (fun y10 => if y10 = 0 then (bd (sA s6 37 (wr 808 (gA s6 37) r5 (-(x3 + 1)))) (fun s12 => F_X5_write_142 (F_X5_write_32 n) x2 (x3 + 1) x4 r5 y8 s12)) else (F_X5_write_142 (F_X5_write_32 n) x2 x3 x4 r5 y8 s6))) else (bd (rd 808 (gA s6 34) r5) (fun y13 => bo (F_X4_parts y8 s6) (fun r14 s15 => bo (F_X5_leave y13 r14 s15) (fun r17 s18 => F_X5_write_142 (F_X5_write_32 n) x2 x3 x4 r5 y8 s18))))))))))
def F_X5_write (x2 : Int32) (σ : St) : Rs :=
  bd (sA σ 37 (fl 808 (gA σ 37) 0)) (fun s1 => bd (sF s1 14 0) (fun s2 => bo (F_X4_parts (-1) s2) (fun r3 s4 => bo (F_X5_leave 8 r3 s4) (fun r6 s7 => F_X5_write_32 5000 x2 0 0 s7))))
section S_X5_write
variable {p : Program} {l : Launch} {e : Env} {s : State} {m : MethodId} {args : Array Value} {below : List Frame} {meth : Method} {c : Code}
variable {D : va_G} {cA : ClassId} {A : Nat → Prop} {ad : Nat → Nat} {r : Int32} {σ' : St} {ta : Nat}
set_option maxHeartbeats 4000000 in
set_option maxRecDepth 100000 in
theorem t_X5_write_166 {k32 : Int32 → Int32 → Int32 → St → Rs} (X : Fx p s m meth c D cA A RX5 cX5_write 7 none) (K32 : ∀ (x2 x3 x4 : Int32) (σ : St) (H : Heap) (locs : List Loc) (ls : Array Slot), k32 x2 x3 x4 σ = some (r, σ') → va_P D vwCl (wC cA ad ta σ) H → va_D A (wC cA ad ta σ) → va_S A s.heap H locs → lv_has ls 7 [(0, .ref (ad 6)), (1, .ref ta), (2, .int x2), (3, .int x3), (4, .int x4)] → W p l e (rm_X5_write) s m args below meth c H locs 0 0 (MQ below (QV D cA A (wC cA ad) σ' ta) args s 0 0 A) (F0 m 32 ls [])) {x2 x3 x4 z0 z1 : Int32} { σ : St} {H : Heap} {locs : List Loc} {ls : Array Slot} (hf : F_X5_write_166 k32 x2 x3 x4 z0 z1 σ = some (r, σ')) (hP : va_P D vwCl (wC cA ad ta σ) H) (hD : va_D A (wC cA ad ta σ)) (hS : va_S A s.heap H locs) (hl : lv_has ls 7 [(0, .ref (ad 6)), (1, .ref ta), (2, .int x2), (3, .int x3), (4, .int x4)]) : W p l e (rm_X5_write) s m args below meth c H locs 0 0 (MQ below (QV D cA A (wC cA ad) σ' ta) args s 0 0 A) (F0 m 166 ls [.int z0, .int z1, .ref ta]) := by
  obtain ⟨hx, hb, hr, hml, hown, hlk, hE, hK, hA⟩ := id X
  rw [F_X5_write_166] at hf
  refine callSN_v X cs_X8_set kw451 (c_set l D cA A (wC cA ad) ta σ 48 ta ((gF σ 16).toNatClampNeg) 48 z1 z0 (cl_lt _) rfl (fun f => wC_a48 f)) ⟨by decide, by decide⟩ ⟨rfl, rfl⟩ hP hD hS rfl hl rfl (Nat.le_of_ble_eq_true rfl) dX5_write_166 ⟨by decide, by decide⟩ (fun H locs hP hD hS => ?_)
  obtain ⟨s1, es1, hf⟩ := bd_e hf
  rw [← es1] at hP hD
  refine lv_iinc (v := (x4 + 1)) (lv' := [(4, .int (x4 + 1)), (0, .ref (ad 6)), (1, .ref ta), (2, .int x2), (3, .int x3)]) hx hb dX5_write_169 hl (k := 4) rfl rfl (by decide) rfl (fun ls hl => ?_)
  refine lv_goto (tgt := 32) hx hb dX5_write_172 (by decide) ?_
  exact K32 x2 x3 (x4 + 1) s1 _ _ _ hf hP hD hS (lv_sub hl [1, 2, 3, 4, 0] rfl)
set_option maxHeartbeats 4000000 in
set_option maxRecDepth 100000 in
theorem t_X5_write_142 {k32 : Int32 → Int32 → Int32 → St → Rs} (X : Fx p s m meth c D cA A RX5 cX5_write 7 none) (K32 : ∀ (x2 x3 x4 : Int32) (σ : St) (H : Heap) (locs : List Loc) (ls : Array Slot), k32 x2 x3 x4 σ = some (r, σ') → va_P D vwCl (wC cA ad ta σ) H → va_D A (wC cA ad ta σ) → va_S A s.heap H locs → lv_has ls 7 [(0, .ref (ad 6)), (1, .ref ta), (2, .int x2), (3, .int x3), (4, .int x4)] → W p l e (rm_X5_write) s m args below meth c H locs 0 0 (MQ below (QV D cA A (wC cA ad) σ' ta) args s 0 0 A) (F0 m 32 ls [])) {x2 x3 x4 x5 x6 : Int32} { σ : St} {H : Heap} {locs : List Loc} {ls : Array Slot} (hf : F_X5_write_142 k32 x2 x3 x4 x5 x6 σ = some (r, σ')) (hP : va_P D vwCl (wC cA ad ta σ) H) (hD : va_D A (wC cA ad ta σ)) (hS : va_S A s.heap H locs) (hl : lv_has ls 7 [(0, .ref (ad 6)), (1, .ref ta), (2, .int x2), (3, .int x3), (4, .int x4), (5, .int x5), (6, .int x6)]) : W p l e (rm_X5_write) s m args below meth c H locs 0 0 (MQ below (QV D cA A (wC cA ad) σ' ta) args s 0 0 A) (F0 m 142 ls []) := by
  obtain ⟨hx, hb, hr, hml, hown, hlk, hE, hK, hA⟩ := id X
  rw [F_X5_write_142] at hf
  refine lv_aload_n hx hb dX5_write_142 rfl (lv_at hl 1 rfl) ?_
  refine lv_iload_n hx hb dX5_write_143 rfl (lv_at hl 2 rfl) ?_
  refine lv_iload hx hb dX5_write_144 (lv_at hl 4 rfl) ?_
  refine lv_iadd hx hb dX5_write_146 ?_
  refine lv_iload hx hb dX5_write_147 (lv_at hl 6 rfl) ?_
  refine lv_if_lt (tgt := 157) hx hb dX5_write_149 (by decide) (fun c1 => ?_) (fun c1 => ?_)
  · have hf := it_t c1 hf
    refine lv_aload_n hx hb dX5_write_157 rfl (lv_at hl 0 rfl) ?_
    refine gC_Ter_alias X hP kw203 dX5_write_158 ?_
    refine lv_iload hx hb dX5_write_161 (lv_at hl 5 rfl) ?_
    refine callSN_i X cs_X8_get kw452 (c_get l D cA A (wC cA ad) ta σ 37 (ad 37) 808 (gA σ 37) x5 (by decide) rfl) ⟨by decide, by decide⟩ ⟨rfl, rfl⟩ hP hD hS rfl hl rfl (Nat.le_of_ble_eq_true rfl) dX5_write_163 ⟨by decide, by decide⟩ (fun H locs hP hD hS => ?_)
    refine lv_topi (fun y2 ey2 => ?_)
    have hf := bd_x ey2 hf
    exact t_X5_write_166 X K32 hf hP hD hS (lv_sub hl [0, 1, 2, 3, 4] rfl)
  · have hf := it_f c1 hf
    refine lv_iload hx hb dX5_write_152 (lv_at hl 6 rfl) ?_
    refine lv_goto (tgt := 166) hx hb dX5_write_154 (by decide) ?_
    exact t_X5_write_166 X K32 hf hP hD hS (lv_sub hl [0, 1, 2, 3, 4] rfl)
set_option maxHeartbeats 4000000 in
set_option maxRecDepth 100000 in
theorem t_X5_write_32  (X : Fx p s m meth c D cA A RX5 cX5_write 7 none)  : ∀ (n : Nat) (x2 x3 x4 : Int32) (σ : St) (H : Heap) (locs : List Loc) (ls : Array Slot), F_X5_write_32 n x2 x3 x4 σ = some (r, σ') → va_P D vwCl (wC cA ad ta σ) H → va_D A (wC cA ad ta σ) → va_S A s.heap H locs → lv_has ls 7 [(0, .ref (ad 6)), (1, .ref ta), (2, .int x2), (3, .int x3), (4, .int x4)] → W p l e (rm_X5_write) s m args below meth c H locs 0 0 (MQ below (QV D cA A (wC cA ad) σ' ta) args s 0 0 A) (F0 m 32 ls []) := by
  obtain ⟨hx, hb, hr, hml, hown, hlk, hE, hK, hA⟩ := id X
  intro n
  induction n with
  | zero =>
    intro x2 x3 x4 σ H locs ls hf
    cases (show (none : Rs) = some _ from hf)
  | succ n ih =>
    intro x2 x3 x4 σ H locs ls hf hP hD hS hl
    rw [F_X5_write_32] at hf
    refine lv_iload hx hb dX5_write_32 (lv_at hl 4 rfl) ?_
    refine lv_aload_n hx hb dX5_write_34 rfl (lv_at hl 0 rfl) ?_
    refine gC_Ter_length X hP kw210 dX5_write_35 ?_
    refine lv_icmp_ge (tgt := 175) hx hb dX5_write_38 (by decide) (fun c1 => ?_) (fun c1 => ?_)
    · have hf := it_t c1 hf
      obtain ⟨rfl, rfl⟩ := Prod.mk.inj (Option.some.inj hf)
      exact ret_v X hP hD hS dX5_write_175
    · have hf := it_f c1 hf
      refine lv_aload_n hx hb dX5_write_41 rfl (lv_at hl 0 rfl) ?_
      refine gC_Ter_left X hP kw212 dX5_write_42 ?_
      refine lv_if_le (tgt := 175) hx hb dX5_write_45 (by decide) (fun c2 => ?_) (fun c2 => ?_)
      · have hf := it_t c2 hf
        obtain ⟨rfl, rfl⟩ := Prod.mk.inj (Option.some.inj hf)
        exact ret_v X hP hD hS dX5_write_175
      · have hf := it_f c2 hf
        refine lv_aload_n hx hb dX5_write_48 rfl (lv_at hl 0 rfl) ?_
        refine lv_dup hx hb dX5_write_49 rfl ?_
        refine gC_Ter_left X hP kw212 dX5_write_50 ?_
        refine lv_iconst (v := 1) hx hb dX5_write_53 (by decide) ?_
        refine lv_isub hx hb dX5_write_54 ?_
        refine pC_Ter_left X hP hD hS kw212 dX5_write_55 (fun H locs hP hD hS => ?_)
        obtain ⟨s3, es3, hf⟩ := bd_e hf
        rw [← es3] at hP hD
        refine lv_aload_n hx hb dX5_write_58 rfl (lv_at hl 0 rfl) ?_
        refine lv_aload_n hx hb dX5_write_59 rfl (lv_at hl 0 rfl) ?_
        refine gC_Ter_unwritten X hP kw205 dX5_write_60 ?_
        refine lv_aload_n hx hb dX5_write_63 rfl (lv_at hl 0 rfl) ?_
        refine gC_Ter_left X hP kw212 dX5_write_64 ?_
        refine callSN_i X cs_X8_get kw452 (c_get l D cA A (wC cA ad) ta s3 39 (ad 39) 400 (gA s3 39) (gF s3 14) (by decide) rfl) ⟨by decide, by decide⟩ ⟨rfl, rfl⟩ hP hD hS rfl hl rfl (Nat.le_of_ble_eq_true rfl) dX5_write_67 ⟨by decide, by decide⟩ (fun H locs hP hD hS => ?_)
        refine lv_topi (fun y4 ey4 => ?_)
        have hf := bd_x ey4 hf
        obtain ⟨r5, s6, h7, hf⟩ := bo_e hf
        refine callV_i X cv_X5_meant kw580 (c_X5_meant l D cA A ad ta s3 y4 r5 s6 h7) ⟨by decide, by decide⟩ ⟨rfl, rfl⟩ hP hD hS (q0 := 6) (ci := 5) rfl rfl rfl rfl hl rfl (Nat.le_of_ble_eq_true rfl) dX5_write_70 ⟨by decide, by decide⟩ (fun H locs hP hD hS => ?_)
        refine lv_istore (lv' := [(5, .int r5), (0, .ref (ad 6)), (1, .ref ta), (2, .int x2), (3, .int x3), (4, .int x4)]) hx hb dX5_write_73 hl (by decide) rfl (fun ls hl => ?_)
        refine lv_aload_n hx hb dX5_write_75 rfl (lv_at hl 1 rfl) ?_
        refine gC_Ter_head X hP kw198 dX5_write_76 ?_
        refine lv_iload hx hb dX5_write_79 (lv_at hl 0 rfl) ?_
        refine callSN_i X cs_X8_get kw452 (c_get l D cA A (wC cA ad) ta s6 33 (ad 33) 808 (gA s6 33) r5 (by decide) rfl) ⟨by decide, by decide⟩ ⟨rfl, rfl⟩ hP hD hS rfl hl rfl (Nat.le_of_ble_eq_true rfl) dX5_write_81 ⟨by decide, by decide⟩ (fun H locs hP hD hS => ?_)
        refine lv_topi (fun y8 ey8 => ?_)
        have hf := bd_x ey8 hf
        refine lv_istore (lv' := [(6, .int y8), (5, .int r5), (0, .ref (ad 6)), (1, .ref ta), (2, .int x2), (3, .int x3), (4, .int x4)]) hx hb dX5_write_84 hl (by decide) rfl (fun ls hl => ?_)
        refine lv_iload hx hb dX5_write_86 (lv_at hl 0 rfl) ?_
        refine lv_if_lt (tgt := 116) hx hb dX5_write_88 (by decide) (fun c9 => ?_) (fun c9 => ?_)
        · have hf := it_t c9 hf
          refine lv_aload_n hx hb dX5_write_116 rfl (lv_at hl 2 rfl) ?_
          refine gC_Ter_alias X hP kw203 dX5_write_117 ?_
          refine lv_iload hx hb dX5_write_120 (lv_at hl 1 rfl) ?_
          refine callSN_i X cs_X8_get kw452 (c_get l D cA A (wC cA ad) ta s6 37 (ad 37) 808 (gA s6 37) r5 (by decide) rfl) ⟨by decide, by decide⟩ ⟨rfl, rfl⟩ hP hD hS rfl hl rfl (Nat.le_of_ble_eq_true rfl) dX5_write_122 ⟨by decide, by decide⟩ (fun H locs hP hD hS => ?_)
          refine lv_topi (fun y10 ey10 => ?_)
          have hf := bd_x ey10 hf
          refine lv_if_ne (tgt := 142) hx hb dX5_write_125 (by decide) (fun c11 => ?_) (fun c11 => ?_)
          · have hf := it_f c11 hf
            exact t_X5_write_142 X ih hf hP hD hS (lv_sub hl [2, 3, 4, 5, 6, 1, 0] rfl)
          · have hf := it_t c11 hf
            refine lv_iinc (v := (x3 + 1)) (lv' := [(3, .int (x3 + 1)), (6, .int y8), (5, .int r5), (0, .ref (ad 6)), (1, .ref ta), (2, .int x2), (4, .int x4)]) hx hb dX5_write_128 hl (k := 5) rfl rfl (by decide) rfl (fun ls hl => ?_)
            refine lv_aload_n hx hb dX5_write_131 rfl (lv_at hl 3 rfl) ?_
            refine gC_Ter_alias X hP kw203 dX5_write_132 ?_
            refine lv_iload hx hb dX5_write_135 (lv_at hl 2 rfl) ?_
            refine lv_iload_n hx hb dX5_write_137 rfl (lv_at hl 0 rfl) ?_
            refine lv_ineg hx hb dX5_write_138 ?_
            refine callSN_v X cs_X8_set kw451 (c_set l D cA A (wC cA ad) ta s6 37 (ad 37) 808 37 r5 (-(x3 + 1)) (by decide) rfl (fun f => wC_a37 f)) ⟨by decide, by decide⟩ ⟨rfl, rfl⟩ hP hD hS rfl hl rfl (Nat.le_of_ble_eq_true rfl) dX5_write_139 ⟨by decide, by decide⟩ (fun H locs hP hD hS => ?_)
            obtain ⟨s12, es12, hf⟩ := bd_e hf
            rw [← es12] at hP hD
            exact t_X5_write_142 X ih hf hP hD hS (lv_sub hl [3, 4, 5, 0, 6, 2, 1] rfl)
        · have hf := it_f c9 hf
          refine lv_aload_n hx hb dX5_write_91 rfl (lv_at hl 2 rfl) ?_
          refine lv_aload_n hx hb dX5_write_92 rfl (lv_at hl 2 rfl) ?_
          refine gC_Ter_first X hP kw200 dX5_write_93 ?_
          refine lv_iload hx hb dX5_write_96 (lv_at hl 1 rfl) ?_
          refine callSN_i X cs_X8_get kw452 (c_get l D cA A (wC cA ad) ta s6 34 (ad 34) 808 (gA s6 34) r5 (by decide) rfl) ⟨by decide, by decide⟩ ⟨rfl, rfl⟩ hP hD hS rfl hl rfl (Nat.le_of_ble_eq_true rfl) dX5_write_98 ⟨by decide, by decide⟩ (fun H locs hP hD hS => ?_)
          refine lv_topi (fun y13 ey13 => ?_)
          have hf := bd_x ey13 hf
          refine lv_aload_n hx hb dX5_write_101 rfl (lv_at hl 2 rfl) ?_
          refine gC_Ter_signature X hP kw197 dX5_write_102 ?_
          refine lv_iload hx hb dX5_write_105 (lv_at hl 0 rfl) ?_
          obtain ⟨r14, s15, h16, hf⟩ := bo_e hf
          refine callVN_i X cv_X4_parts kw562 (c_X4_parts l D cA A ad ta s6 y8 r14 s15 h16) ⟨by decide, by decide⟩ ⟨rfl, rfl⟩ hP hD hS (q0 := 1) (ci := 4) rfl rfl rfl rfl hl rfl (Nat.le_of_ble_eq_true rfl) dX5_write_107 ⟨by decide, by decide⟩ (fun H locs hP hD hS => ?_)
          obtain ⟨r17, s18, h19, hf⟩ := bo_e hf
          refine callV_v X cv_X5_leave kw594 (c_X5_leave l D cA A ad ta s15 y13 r14 r17 s18 h19) ⟨by decide, by decide⟩ ⟨rfl, rfl⟩ hP hD hS (q0 := 6) (ci := 5) rfl rfl rfl rfl hl rfl (Nat.le_of_ble_eq_true rfl) dX5_write_110 ⟨by decide, by decide⟩ (fun H locs hP hD hS => ?_)
          refine lv_goto (tgt := 142) hx hb dX5_write_113 (by decide) ?_
          exact t_X5_write_142 X ih hf hP hD hS (lv_sub hl [2, 3, 4, 5, 6, 1, 0] rfl)
set_option maxHeartbeats 4000000 in
set_option maxRecDepth 100000 in
theorem t_X5_write_0  (X : Fx p s m meth c D cA A RX5 cX5_write 7 none)  {x2 : Int32} { σ : St} {H : Heap} {locs : List Loc} {ls : Array Slot} (hf : F_X5_write x2 σ = some (r, σ')) (hP : va_P D vwCl (wC cA ad ta σ) H) (hD : va_D A (wC cA ad ta σ)) (hS : va_S A s.heap H locs) (hl : lv_has ls 7 [(0, .ref (ad 6)), (1, .ref ta), (2, .int x2)]) : W p l e (rm_X5_write) s m args below meth c H locs 0 0 (MQ below (QV D cA A (wC cA ad) σ' ta) args s 0 0 A) (F0 m 0 ls []) := by
  obtain ⟨hx, hb, hr, hml, hown, hlk, hE, hK, hA⟩ := id X
  rw [F_X5_write] at hf
  refine lv_iconst (v := 0) hx hb dX5_write_0 (by decide) ?_
  refine lv_istore_n (lv' := [(3, .int 0), (0, .ref (ad 6)), (1, .ref ta), (2, .int x2)]) hx hb dX5_write_1 rfl hl (by decide) rfl (fun ls hl => ?_)
  refine lv_aload_n hx hb dX5_write_2 rfl (lv_at hl 1 rfl) ?_
  refine gC_Ter_alias X hP kw203 dX5_write_3 ?_
  refine lv_iconst (v := 0) hx hb dX5_write_6 (by decide) ?_
  refine callS_v X cs_J7_fill_53178 kw593 (c_fill l D cA A (wC cA ad) ta σ 37 (ad 37) 808 37 0 (by decide) (fun f => rfl) (fun g f => rfl) (sA_gA _ _)) ⟨by decide, by decide⟩ ⟨rfl, rfl⟩ hP hD hS rfl hl rfl (Nat.le_of_ble_eq_true rfl) dX5_write_7 ⟨by decide, by decide⟩ (fun H locs hP hD hS => ?_)
  obtain ⟨s1, es1, hf⟩ := bd_e hf
  rw [← es1] at hP hD
  refine lv_aload_n hx hb dX5_write_10 rfl (lv_at hl 1 rfl) ?_
  refine lv_iconst (v := 0) hx hb dX5_write_11 (by decide) ?_
  refine pC_Ter_left X hP hD hS kw212 dX5_write_12 (fun H locs hP hD hS => ?_)
  obtain ⟨s2, es2, hf⟩ := bd_e hf
  rw [← es2] at hP hD
  refine lv_aload_n hx hb dX5_write_15 rfl (lv_at hl 1 rfl) ?_
  refine lv_bipush (v := 8) hx hb dX5_write_16 (by decide) ?_
  refine lv_aload_n hx hb dX5_write_18 rfl (lv_at hl 1 rfl) ?_
  refine gC_Ter_signature X hP kw197 dX5_write_19 ?_
  refine lv_iconst (v := -1) hx hb dX5_write_22 (by decide) ?_
  obtain ⟨r3, s4, h5, hf⟩ := bo_e hf
  refine callVN_i X cv_X4_parts kw562 (c_X4_parts l D cA A ad ta s2 (-1) r3 s4 h5) ⟨by decide, by decide⟩ ⟨rfl, rfl⟩ hP hD hS (q0 := 1) (ci := 4) rfl rfl rfl rfl hl rfl (Nat.le_of_ble_eq_true rfl) dX5_write_23 ⟨by decide, by decide⟩ (fun H locs hP hD hS => ?_)
  obtain ⟨r6, s7, h8, hf⟩ := bo_e hf
  refine callV_v X cv_X5_leave kw594 (c_X5_leave l D cA A ad ta s4 8 r3 r6 s7 h8) ⟨by decide, by decide⟩ ⟨rfl, rfl⟩ hP hD hS (q0 := 6) (ci := 5) rfl rfl rfl rfl hl rfl (Nat.le_of_ble_eq_true rfl) dX5_write_26 ⟨by decide, by decide⟩ (fun H locs hP hD hS => ?_)
  refine lv_iconst (v := 0) hx hb dX5_write_29 (by decide) ?_
  refine lv_istore (lv' := [(4, .int 0), (3, .int 0), (0, .ref (ad 6)), (1, .ref ta), (2, .int x2)]) hx hb dX5_write_30 hl (by decide) rfl (fun ls hl => ?_)
  exact t_X5_write_32 X  5000 x2 0 0 s7 _ _ _ hf hP hD hS (lv_sub hl [2, 3, 4, 1, 0] rfl)
end S_X5_write
theorem c_X5_write (l : Launch) (D : va_G) (cA : ClassId) (A : Nat → Prop) (ad : Nat → Nat) (ta : Nat) (σ : St) (x2 : Int32) (r : Int32) (σ' : St) (hf : F_X5_write x2 σ = some (r, σ')) : MV l D cA A (wC cA ad) yX5_write cX5_write 7 none rm_X5_write [.ref (ad 6), .ref ta, .int x2] ta σ σ' 0 0 := by
  refine enter (by decide) (Nat.le_of_ble_eq_true rfl) ?_
  intro p e s m below meth c ls X hnm hP hD hS hl
  exact t_X5_write_0 X hf hP hD hS hl
