abbrev rm_X9_grown : Room := { frames := 1, cells := 0, slots := 0, locals := 21 }
def F_X9_grown_31  : Nat → Int32 → Int32 → Int32 → St → Rs
  | 0, _, _, _, _ => none
  | n + 1, x1, x2, x3, σ => ck (inb x1 60) (bd (gA σ 2 x1.toNatClampNeg) (fun y2 => if y2 ≤ x3 then (some (x2, σ)) else (ck (inb (gF σ 16) 800) (bd (sA σ 28 (upd (gA σ 28) (gF σ 16).toNatClampNeg (-1))) (fun s5 => ck (inb x2 1200) (bd (gA s5 27 x2.toNatClampNeg) (fun y7 => ck (inb (y7 + x3) 1200) (bd (sA s5 26 (upd (gA s5 26) (y7 + x3).toNatClampNeg ((-1) - (gF s5 16)))) (fun s9 => bd (sF s9 16 ((gF s9 16) + 1)) (fun s10 => F_X9_grown_31 n x1 x2 (x3 + 1) s10))))))))))
def F_X9_grown (x1 : Int32) (σ : St) : Rs :=
  bo (F_X9_newCells 1 σ) (fun r1 s2 => ck (inb r1 1200) (bd (sA s2 26 (upd (gA s2 26) r1.toNatClampNeg x1)) (fun s5 => ck (inb x1 60) (bd (gA s5 2 x1.toNatClampNeg) (fun y7 => bo (F_X9_newCells y7 s5) (fun r8 s9 => ck (inb r1 1200) (bd (sA s9 27 (upd (gA s9 27) r1.toNatClampNeg r8)) (fun s12 => F_X9_grown_31 5000 x1 r1 0 s12))))))))
section S_X9_grown
variable {p : Program} {l : Launch} {e : Env} {s : State} {m : MethodId} {args : Array Value} {below : List Frame} {meth : Method} {c : Code}
variable {D : va_G} {cA : ClassId} {A : Nat → Prop} {ad : Nat → Nat} {r : Int32} {σ' : St} {ta : Nat}
set_option maxHeartbeats 4000000 in
set_option maxRecDepth 100000 in
theorem t_X9_grown_31  (X : Fx p s m meth c D cA A RX9 cX9_grown 4 (some .int))  : ∀ (n : Nat) (x1 x2 x3 : Int32) (σ : St) (H : Heap) (locs : List Loc) (ls : Array Slot), F_X9_grown_31 n x1 x2 x3 σ = some (r, σ') → va_P D vwCl (wM cA ad ta σ) H → va_D A (wM cA ad ta σ) → va_S A s.heap H locs → lv_has ls 4 [(0, .ref (ad 0)), (1, .int x1), (2, .int x2), (3, .int x3)] → W p l e (rm_X9_grown) s m args below meth c H locs 0 0 (MQ below (QI D cA A (wM cA ad) r σ' ta) args s 0 0 A) (F0 m 31 ls []) := by
  obtain ⟨hx, hb, hr, hml, hown, hlk, hE, hK, hA⟩ := id X
  intro n
  induction n with
  | zero =>
    intro x1 x2 x3 σ H locs ls hf
    cases (show (none : Rs) = some _ from hf)
  | succ n ih =>
    intro x1 x2 x3 σ H locs ls hf hP hD hS hl
    rw [F_X9_grown_31] at hf
    refine lv_iload_n hx hb dX9_grown_31 rfl (lv_at hl 3 rfl) ?_
    refine lv_aload_n hx hb dX9_grown_32 rfl (lv_at hl 0 rfl) ?_
    refine gM_Mod_arity X hP kw682 dX9_grown_33 ?_
    refine lv_iload_n hx hb dX9_grown_36 rfl (lv_at hl 1 rfl) ?_
    obtain ⟨b1, hf⟩ := ck_e hf
    refine lM_arity X hP b1 dX9_grown_37 ?_
    refine lv_topi (fun y2 ey2 => ?_)
    have hf := bd_x ey2 hf
    refine lv_icmp_ge (tgt := 86) hx hb dX9_grown_38 (by decide) (fun c3 => ?_) (fun c3 => ?_)
    · have hf := it_t c3 hf
      refine lv_iload_n hx hb dX9_grown_86 rfl (lv_at hl 2 rfl) ?_
      obtain ⟨rfl, rfl⟩ := Prod.mk.inj (Option.some.inj hf)
      exact ret_i X hP hD hS dX9_grown_87
    · have hf := it_f c3 hf
      refine lv_aload_n hx hb dX9_grown_41 rfl (lv_at hl 0 rfl) ?_
      refine gM_Mod_became X hP kw721 dX9_grown_42 ?_
      refine lv_aload_n hx hb dX9_grown_45 rfl (lv_at hl 0 rfl) ?_
      refine gM_Mod_names X hP kw723 dX9_grown_46 ?_
      refine lv_iconst (v := -1) hx hb dX9_grown_49 (by decide) ?_
      obtain ⟨b4, hf⟩ := ck_e hf
      refine sM_became X hP hD hS b4 dX9_grown_50 (fun H locs hP hD hS => ?_)
      obtain ⟨s5, es5, hf⟩ := bd_e hf
      rw [← es5] at hP hD
      refine lv_aload_n hx hb dX9_grown_51 rfl (lv_at hl 0 rfl) ?_
      refine gM_Mod_cell X hP kw719 dX9_grown_52 ?_
      refine lv_aload_n hx hb dX9_grown_55 rfl (lv_at hl 0 rfl) ?_
      refine gM_Mod_kids X hP kw720 dX9_grown_56 ?_
      refine lv_iload_n hx hb dX9_grown_59 rfl (lv_at hl 2 rfl) ?_
      obtain ⟨b6, hf⟩ := ck_e hf
      refine lM_kids X hP b6 dX9_grown_60 ?_
      refine lv_topi (fun y7 ey7 => ?_)
      have hf := bd_x ey7 hf
      refine lv_iload_n hx hb dX9_grown_61 rfl (lv_at hl 3 rfl) ?_
      refine lv_iadd hx hb dX9_grown_62 ?_
      refine lv_iconst (v := -1) hx hb dX9_grown_63 (by decide) ?_
      refine lv_aload_n hx hb dX9_grown_64 rfl (lv_at hl 0 rfl) ?_
      refine gM_Mod_names X hP kw723 dX9_grown_65 ?_
      refine lv_isub hx hb dX9_grown_68 ?_
      obtain ⟨b8, hf⟩ := ck_e hf
      refine sM_cell X hP hD hS b8 dX9_grown_69 (fun H locs hP hD hS => ?_)
      obtain ⟨s9, es9, hf⟩ := bd_e hf
      rw [← es9] at hP hD
      refine lv_aload_n hx hb dX9_grown_70 rfl (lv_at hl 0 rfl) ?_
      refine lv_dup hx hb dX9_grown_71 rfl ?_
      refine gM_Mod_names X hP kw723 dX9_grown_72 ?_
      refine lv_iconst (v := 1) hx hb dX9_grown_75 (by decide) ?_
      refine lv_iadd hx hb dX9_grown_76 ?_
      refine pM_Mod_names X hP hD hS kw723 dX9_grown_77 (fun H locs hP hD hS => ?_)
      obtain ⟨s10, es10, hf⟩ := bd_e hf
      rw [← es10] at hP hD
      refine lv_iinc (v := (x3 + 1)) (lv' := [(3, .int (x3 + 1)), (0, .ref (ad 0)), (1, .int x1), (2, .int x2)]) hx hb dX9_grown_80 hl (k := 3) rfl rfl (by decide) rfl (fun ls hl => ?_)
      refine lv_goto (tgt := 31) hx hb dX9_grown_83 (by decide) ?_
      exact ih x1 x2 (x3 + 1) s10 _ _ _ hf hP hD hS (lv_sub hl [1, 2, 3, 0] rfl)
set_option maxHeartbeats 4000000 in
set_option maxRecDepth 100000 in
theorem t_X9_grown_0  (X : Fx p s m meth c D cA A RX9 cX9_grown 4 (some .int))  {x1 : Int32} { σ : St} {H : Heap} {locs : List Loc} {ls : Array Slot} (hf : F_X9_grown x1 σ = some (r, σ')) (hP : va_P D vwCl (wM cA ad ta σ) H) (hD : va_D A (wM cA ad ta σ)) (hS : va_S A s.heap H locs) (hl : lv_has ls 4 [(0, .ref (ad 0)), (1, .int x1)]) : W p l e (rm_X9_grown) s m args below meth c H locs 0 0 (MQ below (QI D cA A (wM cA ad) r σ' ta) args s 0 0 A) (F0 m 0 ls []) := by
  obtain ⟨hx, hb, hr, hml, hown, hlk, hE, hK, hA⟩ := id X
  rw [F_X9_grown] at hf
  refine lv_aload_n hx hb dX9_grown_0 rfl (lv_at hl 0 rfl) ?_
  refine lv_iconst (v := 1) hx hb dX9_grown_1 (by decide) ?_
  obtain ⟨r1, s2, h3, hf⟩ := bo_e hf
  refine callV_i X cv_X9_newCells kw944 (c_X9_newCells l D cA A ad ta σ 1 r1 s2 h3) ⟨by decide, by decide⟩ ⟨rfl, rfl⟩ hP hD hS (q0 := 0) (ci := 9) rfl rfl rfl rfl hl rfl (Nat.le_of_ble_eq_true rfl) dX9_grown_2 ⟨by decide, by decide⟩ (fun H locs hP hD hS => ?_)
  refine lv_istore_n (lv' := [(2, .int r1), (0, .ref (ad 0)), (1, .int x1)]) hx hb dX9_grown_5 rfl hl (by decide) rfl (fun ls hl => ?_)
  refine lv_aload_n hx hb dX9_grown_6 rfl (lv_at hl 1 rfl) ?_
  refine gM_Mod_cell X hP kw719 dX9_grown_7 ?_
  refine lv_iload_n hx hb dX9_grown_10 rfl (lv_at hl 0 rfl) ?_
  refine lv_iload_n hx hb dX9_grown_11 rfl (lv_at hl 2 rfl) ?_
  obtain ⟨b4, hf⟩ := ck_e hf
  refine sM_cell X hP hD hS b4 dX9_grown_12 (fun H locs hP hD hS => ?_)
  obtain ⟨s5, es5, hf⟩ := bd_e hf
  rw [← es5] at hP hD
  refine lv_aload_n hx hb dX9_grown_13 rfl (lv_at hl 1 rfl) ?_
  refine gM_Mod_kids X hP kw720 dX9_grown_14 ?_
  refine lv_iload_n hx hb dX9_grown_17 rfl (lv_at hl 0 rfl) ?_
  refine lv_aload_n hx hb dX9_grown_18 rfl (lv_at hl 1 rfl) ?_
  refine lv_aload_n hx hb dX9_grown_19 rfl (lv_at hl 1 rfl) ?_
  refine gM_Mod_arity X hP kw682 dX9_grown_20 ?_
  refine lv_iload_n hx hb dX9_grown_23 rfl (lv_at hl 2 rfl) ?_
  obtain ⟨b6, hf⟩ := ck_e hf
  refine lM_arity X hP b6 dX9_grown_24 ?_
  refine lv_topi (fun y7 ey7 => ?_)
  have hf := bd_x ey7 hf
  obtain ⟨r8, s9, h10, hf⟩ := bo_e hf
  refine callV_i X cv_X9_newCells kw944 (c_X9_newCells l D cA A ad ta s5 y7 r8 s9 h10) ⟨by decide, by decide⟩ ⟨rfl, rfl⟩ hP hD hS (q0 := 0) (ci := 9) rfl rfl rfl rfl hl rfl (Nat.le_of_ble_eq_true rfl) dX9_grown_25 ⟨by decide, by decide⟩ (fun H locs hP hD hS => ?_)
  obtain ⟨b11, hf⟩ := ck_e hf
  refine sM_kids X hP hD hS b11 dX9_grown_28 (fun H locs hP hD hS => ?_)
  obtain ⟨s12, es12, hf⟩ := bd_e hf
  rw [← es12] at hP hD
  refine lv_iconst (v := 0) hx hb dX9_grown_29 (by decide) ?_
  refine lv_istore_n (lv' := [(3, .int 0), (2, .int r1), (0, .ref (ad 0)), (1, .int x1)]) hx hb dX9_grown_30 rfl hl (by decide) rfl (fun ls hl => ?_)
  exact t_X9_grown_31 X  5000 x1 r1 0 s12 _ _ _ hf hP hD hS (lv_sub hl [2, 3, 1, 0] rfl)
end S_X9_grown
theorem c_X9_grown (l : Launch) (D : va_G) (cA : ClassId) (A : Nat → Prop) (ad : Nat → Nat) (ta : Nat) (σ : St) (x1 : Int32) (r : Int32) (σ' : St) (hf : F_X9_grown x1 σ = some (r, σ')) : MI l D cA A (wM cA ad) yX9_grown cX9_grown 4 (some .int) rm_X9_grown [.ref (ad 0), .int x1] ta σ r σ' 0 0 := by
  refine enter (by decide) (Nat.le_of_ble_eq_true rfl) ?_
  intro p e s m below meth c ls X hnm hP hD hS hl
  exact t_X9_grown_0 X hf hP hD hS hl
abbrev rm_X9_shift : Room := { frames := 0, cells := 0, slots := 0, locals := 0 }
def F_X9_shift_90  : Nat → Int32 → Int32 → Int32 → Int32 → St → Rs
  | 0, _, _, _, _, _ => none
  | n + 1, x1, x2, x3, x5, σ => if x2 ≤ x5 then (some (0, σ)) else (ck (inb (x1 + x5) 170) (bd (sA σ 29 (upd (gA σ 29) (x1 + x5).toNatClampNeg (x3 + x5))) (fun s3 => F_X9_shift_90 n x1 x2 x3 (x5 + 1) s3)))
def F_X9_shift_87 (x1 : Int32) (x2 : Int32) (x3 : Int32) (σ : St) : Rs :=
  F_X9_shift_90 5000 x1 x2 x3 0 σ
def F_X9_shift_57  : Nat → Int32 → Int32 → Int32 → Int32 → St → Rs
  | 0, _, _, _, _, _ => none
  | n + 1, x1, x2, x3, x5, σ => if x5 ≤ x1 then (F_X9_shift_87 x1 x2 x3 σ) else (ck (inb x5 170) (bd (gA σ 29 x5.toNatClampNeg) (fun y3 => ck (inb ((x5 + x2) - 1) 170) (bd (sA σ 29 (upd (gA σ 29) ((x5 + x2) - 1).toNatClampNeg y3)) (fun s5 => F_X9_shift_57 n x1 x2 x3 (x5 + (-1)) s5)))))
def F_X9_shift_48 (x1 : Int32) (x2 : Int32) (x3 : Int32) (σ : St) : Rs :=
  F_X9_shift_87 x1 x2 x3 σ
def F_X9_shift_19  : Nat → Int32 → Int32 → Int32 → Int32 → Int32 → St → Rs
  | 0, _, _, _, _, _, _ => none
  | n + 1, x1, x2, x3, x4, x5, σ => if x4 ≤ x5 then (F_X9_shift_48 x1 x2 x3 σ) else (ck (inb x5 170) (bd (gA σ 29 x5.toNatClampNeg) (fun y3 => ck (inb (x5 - 1) 170) (bd (sA σ 29 (upd (gA σ 29) (x5 - 1).toNatClampNeg y3)) (fun s5 => F_X9_shift_19 n x1 x2 x3 x4 (x5 + 1) s5)))))
def F_X9_shift (x1 : Int32) (x2 : Int32) (x3 : Int32) (σ : St) : Rs :=
  bd (((gF σ 7) - x2) + 1) (fun y1 => if x2 = 0 then (bd (x1 + 1) (fun y4 => F_X9_shift_19 5000 x1 x2 x3 y1 y4 σ)) else (bd (y1 - 1) (fun y3 => F_X9_shift_57 5000 x1 x2 x3 y3 σ)))
section S_X9_shift
variable {p : Program} {l : Launch} {e : Env} {s : State} {m : MethodId} {args : Array Value} {below : List Frame} {meth : Method} {c : Code}
variable {D : va_G} {cA : ClassId} {A : Nat → Prop} {ad : Nat → Nat} {r : Int32} {σ' : St} {ta : Nat}
set_option maxHeartbeats 4000000 in
set_option maxRecDepth 100000 in
theorem t_X9_shift_90  (X : Fx p s m meth c D cA A RX9 cX9_shift 6 none)  : ∀ (n : Nat) (x1 x2 x3 x5 : Int32) (σ : St) (H : Heap) (locs : List Loc) (ls : Array Slot), F_X9_shift_90 n x1 x2 x3 x5 σ = some (r, σ') → va_P D vwCl (wM cA ad ta σ) H → va_D A (wM cA ad ta σ) → va_S A s.heap H locs → lv_has ls 6 [(0, .ref (ad 0)), (1, .int x1), (2, .int x2), (3, .int x3), (5, .int x5)] → W p l e (rm_X9_shift) s m args below meth c H locs 0 0 (MQ below (QV D cA A (wM cA ad) σ' ta) args s 0 0 A) (F0 m 90 ls []) := by
  obtain ⟨hx, hb, hr, hml, hown, hlk, hE, hK, hA⟩ := id X
  intro n
  induction n with
  | zero =>
    intro x1 x2 x3 x5 σ H locs ls hf
    cases (show (none : Rs) = some _ from hf)
  | succ n ih =>
    intro x1 x2 x3 x5 σ H locs ls hf hP hD hS hl
    rw [F_X9_shift_90] at hf
    refine lv_iload hx hb dX9_shift_90 (lv_at hl 4 rfl) ?_
    refine lv_iload_n hx hb dX9_shift_92 rfl (lv_at hl 2 rfl) ?_
    refine lv_icmp_ge (tgt := 115) hx hb dX9_shift_93 (by decide) (fun c1 => ?_) (fun c1 => ?_)
    · have hf := it_t c1 hf
      obtain ⟨rfl, rfl⟩ := Prod.mk.inj (Option.some.inj hf)
      exact ret_v X hP hD hS dX9_shift_115
    · have hf := it_f c1 hf
      refine lv_aload_n hx hb dX9_shift_96 rfl (lv_at hl 0 rfl) ?_
      refine gM_Mod_terms X hP kw724 dX9_shift_97 ?_
      refine lv_iload_n hx hb dX9_shift_100 rfl (lv_at hl 1 rfl) ?_
      refine lv_iload hx hb dX9_shift_101 (lv_at hl 4 rfl) ?_
      refine lv_iadd hx hb dX9_shift_103 ?_
      refine lv_iload_n hx hb dX9_shift_104 rfl (lv_at hl 3 rfl) ?_
      refine lv_iload hx hb dX9_shift_105 (lv_at hl 4 rfl) ?_
      refine lv_iadd hx hb dX9_shift_107 ?_
      obtain ⟨b2, hf⟩ := ck_e hf
      refine sM_terms X hP hD hS b2 dX9_shift_108 (fun H locs hP hD hS => ?_)
      obtain ⟨s3, es3, hf⟩ := bd_e hf
      rw [← es3] at hP hD
      refine lv_iinc (v := (x5 + 1)) (lv' := [(5, .int (x5 + 1)), (0, .ref (ad 0)), (1, .int x1), (2, .int x2), (3, .int x3)]) hx hb dX9_shift_109 hl (k := 4) rfl rfl (by decide) rfl (fun ls hl => ?_)
      refine lv_goto (tgt := 90) hx hb dX9_shift_112 (by decide) ?_
      exact ih x1 x2 x3 (x5 + 1) s3 _ _ _ hf hP hD hS (lv_sub hl [1, 2, 3, 4, 0] rfl)
set_option maxHeartbeats 4000000 in
set_option maxRecDepth 100000 in
theorem t_X9_shift_87  (X : Fx p s m meth c D cA A RX9 cX9_shift 6 none)  {x1 x2 x3 : Int32} { σ : St} {H : Heap} {locs : List Loc} {ls : Array Slot} (hf : F_X9_shift_87 x1 x2 x3 σ = some (r, σ')) (hP : va_P D vwCl (wM cA ad ta σ) H) (hD : va_D A (wM cA ad ta σ)) (hS : va_S A s.heap H locs) (hl : lv_has ls 6 [(0, .ref (ad 0)), (1, .int x1), (2, .int x2), (3, .int x3)]) : W p l e (rm_X9_shift) s m args below meth c H locs 0 0 (MQ below (QV D cA A (wM cA ad) σ' ta) args s 0 0 A) (F0 m 87 ls []) := by
  obtain ⟨hx, hb, hr, hml, hown, hlk, hE, hK, hA⟩ := id X
  rw [F_X9_shift_87] at hf
  refine lv_iconst (v := 0) hx hb dX9_shift_87 (by decide) ?_
  refine lv_istore (lv' := [(5, .int 0), (0, .ref (ad 0)), (1, .int x1), (2, .int x2), (3, .int x3)]) hx hb dX9_shift_88 hl (by decide) rfl (fun ls hl => ?_)
  exact t_X9_shift_90 X  5000 x1 x2 x3 0 σ _ _ _ hf hP hD hS (lv_sub hl [1, 2, 3, 4, 0] rfl)
set_option maxHeartbeats 4000000 in
set_option maxRecDepth 100000 in
theorem t_X9_shift_57  (X : Fx p s m meth c D cA A RX9 cX9_shift 6 none)  : ∀ (n : Nat) (x1 x2 x3 x5 : Int32) (σ : St) (H : Heap) (locs : List Loc) (ls : Array Slot), F_X9_shift_57 n x1 x2 x3 x5 σ = some (r, σ') → va_P D vwCl (wM cA ad ta σ) H → va_D A (wM cA ad ta σ) → va_S A s.heap H locs → lv_has ls 6 [(0, .ref (ad 0)), (1, .int x1), (2, .int x2), (3, .int x3), (5, .int x5)] → W p l e (rm_X9_shift) s m args below meth c H locs 0 0 (MQ below (QV D cA A (wM cA ad) σ' ta) args s 0 0 A) (F0 m 57 ls []) := by
  obtain ⟨hx, hb, hr, hml, hown, hlk, hE, hK, hA⟩ := id X
  intro n
  induction n with
  | zero =>
    intro x1 x2 x3 x5 σ H locs ls hf
    cases (show (none : Rs) = some _ from hf)
  | succ n ih =>
    intro x1 x2 x3 x5 σ H locs ls hf hP hD hS hl
    rw [F_X9_shift_57] at hf
    refine lv_iload hx hb dX9_shift_57 (lv_at hl 4 rfl) ?_
    refine lv_iload_n hx hb dX9_shift_59 rfl (lv_at hl 1 rfl) ?_
    refine lv_icmp_le (tgt := 87) hx hb dX9_shift_60 (by decide) (fun c1 => ?_) (fun c1 => ?_)
    · have hf := it_t c1 hf
      exact t_X9_shift_87 X  hf hP hD hS (lv_sub hl [0, 1, 2, 3] rfl)
    · have hf := it_f c1 hf
      refine lv_aload_n hx hb dX9_shift_63 rfl (lv_at hl 0 rfl) ?_
      refine gM_Mod_terms X hP kw724 dX9_shift_64 ?_
      refine lv_iload hx hb dX9_shift_67 (lv_at hl 4 rfl) ?_
      refine lv_iload_n hx hb dX9_shift_69 rfl (lv_at hl 2 rfl) ?_
      refine lv_iadd hx hb dX9_shift_70 ?_
      refine lv_iconst (v := 1) hx hb dX9_shift_71 (by decide) ?_
      refine lv_isub hx hb dX9_shift_72 ?_
      refine lv_aload_n hx hb dX9_shift_73 rfl (lv_at hl 0 rfl) ?_
      refine gM_Mod_terms X hP kw724 dX9_shift_74 ?_
      refine lv_iload hx hb dX9_shift_77 (lv_at hl 4 rfl) ?_
      obtain ⟨b2, hf⟩ := ck_e hf
      refine lM_terms X hP b2 dX9_shift_79 ?_
      refine lv_topi (fun y3 ey3 => ?_)
      have hf := bd_x ey3 hf
      obtain ⟨b4, hf⟩ := ck_e hf
      refine sM_terms X hP hD hS b4 dX9_shift_80 (fun H locs hP hD hS => ?_)
      obtain ⟨s5, es5, hf⟩ := bd_e hf
      rw [← es5] at hP hD
      refine lv_iinc (v := (x5 + (-1))) (lv' := [(5, .int (x5 + (-1))), (0, .ref (ad 0)), (1, .int x1), (2, .int x2), (3, .int x3)]) hx hb dX9_shift_81 hl (k := 4) rfl rfl (by decide) rfl (fun ls hl => ?_)
      refine lv_goto (tgt := 57) hx hb dX9_shift_84 (by decide) ?_
      exact ih x1 x2 x3 (x5 + (-1)) s5 _ _ _ hf hP hD hS (lv_sub hl [1, 2, 3, 4, 0] rfl)
set_option maxHeartbeats 4000000 in
set_option maxRecDepth 100000 in
theorem t_X9_shift_48  (X : Fx p s m meth c D cA A RX9 cX9_shift 6 none)  {x1 x2 x3 : Int32} { σ : St} {H : Heap} {locs : List Loc} {ls : Array Slot} (hf : F_X9_shift_48 x1 x2 x3 σ = some (r, σ')) (hP : va_P D vwCl (wM cA ad ta σ) H) (hD : va_D A (wM cA ad ta σ)) (hS : va_S A s.heap H locs) (hl : lv_has ls 6 [(0, .ref (ad 0)), (1, .int x1), (2, .int x2), (3, .int x3)]) : W p l e (rm_X9_shift) s m args below meth c H locs 0 0 (MQ below (QV D cA A (wM cA ad) σ' ta) args s 0 0 A) (F0 m 48 ls []) := by
  obtain ⟨hx, hb, hr, hml, hown, hlk, hE, hK, hA⟩ := id X
  rw [F_X9_shift_48] at hf
  refine lv_goto (tgt := 87) hx hb dX9_shift_48 (by decide) ?_
  exact t_X9_shift_87 X  hf hP hD hS (lv_sub hl [0, 1, 2, 3] rfl)
set_option maxHeartbeats 4000000 in
set_option maxRecDepth 100000 in
theorem t_X9_shift_19  (X : Fx p s m meth c D cA A RX9 cX9_shift 6 none)  : ∀ (n : Nat) (x1 x2 x3 x4 x5 : Int32) (σ : St) (H : Heap) (locs : List Loc) (ls : Array Slot), F_X9_shift_19 n x1 x2 x3 x4 x5 σ = some (r, σ') → va_P D vwCl (wM cA ad ta σ) H → va_D A (wM cA ad ta σ) → va_S A s.heap H locs → lv_has ls 6 [(0, .ref (ad 0)), (1, .int x1), (2, .int x2), (3, .int x3), (4, .int x4), (5, .int x5)] → W p l e (rm_X9_shift) s m args below meth c H locs 0 0 (MQ below (QV D cA A (wM cA ad) σ' ta) args s 0 0 A) (F0 m 19 ls []) := by
  obtain ⟨hx, hb, hr, hml, hown, hlk, hE, hK, hA⟩ := id X
  intro n
  induction n with
  | zero =>
    intro x1 x2 x3 x4 x5 σ H locs ls hf
    cases (show (none : Rs) = some _ from hf)
  | succ n ih =>
    intro x1 x2 x3 x4 x5 σ H locs ls hf hP hD hS hl
    rw [F_X9_shift_19] at hf
    refine lv_iload hx hb dX9_shift_19 (lv_at hl 5 rfl) ?_
    refine lv_iload hx hb dX9_shift_21 (lv_at hl 4 rfl) ?_
    refine lv_icmp_ge (tgt := 48) hx hb dX9_shift_23 (by decide) (fun c1 => ?_) (fun c1 => ?_)
    · have hf := it_t c1 hf
      exact t_X9_shift_48 X  hf hP hD hS (lv_sub hl [0, 1, 2, 3] rfl)
    · have hf := it_f c1 hf
      refine lv_aload_n hx hb dX9_shift_26 rfl (lv_at hl 0 rfl) ?_
      refine gM_Mod_terms X hP kw724 dX9_shift_27 ?_
      refine lv_iload hx hb dX9_shift_30 (lv_at hl 5 rfl) ?_
      refine lv_iconst (v := 1) hx hb dX9_shift_32 (by decide) ?_
      refine lv_isub hx hb dX9_shift_33 ?_
      refine lv_aload_n hx hb dX9_shift_34 rfl (lv_at hl 0 rfl) ?_
      refine gM_Mod_terms X hP kw724 dX9_shift_35 ?_
      refine lv_iload hx hb dX9_shift_38 (lv_at hl 5 rfl) ?_
      obtain ⟨b2, hf⟩ := ck_e hf
      refine lM_terms X hP b2 dX9_shift_40 ?_
      refine lv_topi (fun y3 ey3 => ?_)
      have hf := bd_x ey3 hf
      obtain ⟨b4, hf⟩ := ck_e hf
      refine sM_terms X hP hD hS b4 dX9_shift_41 (fun H locs hP hD hS => ?_)
      obtain ⟨s5, es5, hf⟩ := bd_e hf
      rw [← es5] at hP hD
      refine lv_iinc (v := (x5 + 1)) (lv' := [(5, .int (x5 + 1)), (0, .ref (ad 0)), (1, .int x1), (2, .int x2), (3, .int x3), (4, .int x4)]) hx hb dX9_shift_42 hl (k := 5) rfl rfl (by decide) rfl (fun ls hl => ?_)
      refine lv_goto (tgt := 19) hx hb dX9_shift_45 (by decide) ?_
      exact ih x1 x2 x3 x4 (x5 + 1) s5 _ _ _ hf hP hD hS (lv_sub hl [1, 2, 3, 4, 5, 0] rfl)
set_option maxHeartbeats 4000000 in
set_option maxRecDepth 100000 in
theorem t_X9_shift_0  (X : Fx p s m meth c D cA A RX9 cX9_shift 6 none)  {x1 x2 x3 : Int32} { σ : St} {H : Heap} {locs : List Loc} {ls : Array Slot} (hf : F_X9_shift x1 x2 x3 σ = some (r, σ')) (hP : va_P D vwCl (wM cA ad ta σ) H) (hD : va_D A (wM cA ad ta σ)) (hS : va_S A s.heap H locs) (hl : lv_has ls 6 [(0, .ref (ad 0)), (1, .int x1), (2, .int x2), (3, .int x3)]) : W p l e (rm_X9_shift) s m args below meth c H locs 0 0 (MQ below (QV D cA A (wM cA ad) σ' ta) args s 0 0 A) (F0 m 0 ls []) := by
  obtain ⟨hx, hb, hr, hml, hown, hlk, hE, hK, hA⟩ := id X
  rw [F_X9_shift] at hf
  refine lv_aload_n hx hb dX9_shift_0 rfl (lv_at hl 0 rfl) ?_
  refine gM_Mod_opens X hP kw702 dX9_shift_1 ?_
  refine lv_iload_n hx hb dX9_shift_4 rfl (lv_at hl 2 rfl) ?_
  refine lv_isub hx hb dX9_shift_5 ?_
  refine lv_iconst (v := 1) hx hb dX9_shift_6 (by decide) ?_
  refine lv_iadd hx hb dX9_shift_7 ?_
  refine lv_topi (fun y1 ey1 => ?_)
  have hf := bd_x ey1 hf
  refine lv_istore (lv' := [(4, .int y1), (0, .ref (ad 0)), (1, .int x1), (2, .int x2), (3, .int x3)]) hx hb dX9_shift_8 hl (by decide) rfl (fun ls hl => ?_)
  refine lv_iload_n hx hb dX9_shift_10 rfl (lv_at hl 3 rfl) ?_
  refine lv_if_ne (tgt := 51) hx hb dX9_shift_11 (by decide) (fun c2 => ?_) (fun c2 => ?_)
  · have hf := it_f c2 hf
    refine lv_iload hx hb dX9_shift_51 (lv_at hl 0 rfl) ?_
    refine lv_iconst (v := 1) hx hb dX9_shift_53 (by decide) ?_
    refine lv_isub hx hb dX9_shift_54 ?_
    refine lv_topi (fun y3 ey3 => ?_)
    have hf := bd_x ey3 hf
    refine lv_istore (lv' := [(5, .int y3), (4, .int y1), (0, .ref (ad 0)), (1, .int x1), (2, .int x2), (3, .int x3)]) hx hb dX9_shift_55 hl (by decide) rfl (fun ls hl => ?_)
    exact t_X9_shift_57 X  5000 x1 x2 x3 y3 σ _ _ _ hf hP hD hS (lv_sub hl [2, 3, 4, 5, 0] rfl)
  · have hf := it_t c2 hf
    refine lv_iload_n hx hb dX9_shift_14 rfl (lv_at hl 2 rfl) ?_
    refine lv_iconst (v := 1) hx hb dX9_shift_15 (by decide) ?_
    refine lv_iadd hx hb dX9_shift_16 ?_
    refine lv_topi (fun y4 ey4 => ?_)
    have hf := bd_x ey4 hf
    refine lv_istore (lv' := [(5, .int y4), (4, .int y1), (0, .ref (ad 0)), (1, .int x1), (2, .int x2), (3, .int x3)]) hx hb dX9_shift_17 hl (by decide) rfl (fun ls hl => ?_)
    exact t_X9_shift_19 X  5000 x1 x2 x3 y1 y4 σ _ _ _ hf hP hD hS (lv_sub hl [2, 3, 4, 5, 1, 0] rfl)
end S_X9_shift
theorem c_X9_shift (l : Launch) (D : va_G) (cA : ClassId) (A : Nat → Prop) (ad : Nat → Nat) (ta : Nat) (σ : St) (x1 x2 x3 : Int32) (r : Int32) (σ' : St) (hf : F_X9_shift x1 x2 x3 σ = some (r, σ')) : MV l D cA A (wM cA ad) yX9_shift cX9_shift 6 none rm_X9_shift [.ref (ad 0), .int x1, .int x2, .int x3] ta σ σ' 0 0 := by
  refine enter (by decide) (Nat.le_of_ble_eq_true rfl) ?_
  intro p e s m below meth c ls X hnm hP hD hS hl
  exact t_X9_shift_0 X hf hP hD hS hl
abbrev rm_X9_shiftBack : Room := { frames := 0, cells := 0, slots := 0, locals := 0 }
def F_X9_shiftBack_81 (x1 : Int32) (x3 : Int32) (σ : St) : Rs :=
  ck (inb x1 170) (bd (sA σ 29 (upd (gA σ 29) x1.toNatClampNeg x3)) (fun s2 => some (0, s2)))
def F_X9_shiftBack_48  : Nat → Int32 → Int32 → Int32 → Int32 → St → Rs
  | 0, _, _, _, _, _ => none
  | n + 1, x1, x2, x3, x4, σ => if (gF σ 7) ≤ x4 then (F_X9_shiftBack_81 x1 x3 σ) else (ck (inb ((x4 + x2) - 1) 170) (bd (gA σ 29 ((x4 + x2) - 1).toNatClampNeg) (fun y3 => ck (inb x4 170) (bd (sA σ 29 (upd (gA σ 29) x4.toNatClampNeg y3)) (fun s5 => F_X9_shiftBack_48 n x1 x2 x3 (x4 + 1) s5)))))
def F_X9_shiftBack_40 (x1 : Int32) (x3 : Int32) (σ : St) : Rs :=
  F_X9_shiftBack_81 x1 x3 σ
def F_X9_shiftBack_12  : Nat → Int32 → Int32 → Int32 → St → Rs
  | 0, _, _, _, _ => none
  | n + 1, x1, x3, x4, σ => if x4 ≤ x1 then (F_X9_shiftBack_40 x1 x3 σ) else (ck (inb (x4 - 1) 170) (bd (gA σ 29 (x4 - 1).toNatClampNeg) (fun y3 => ck (inb x4 170) (bd (sA σ 29 (upd (gA σ 29) x4.toNatClampNeg y3)) (fun s5 => F_X9_shiftBack_12 n x1 x3 (x4 + (-1)) s5)))))
def F_X9_shiftBack (x1 : Int32) (x2 : Int32) (x3 : Int32) (σ : St) : Rs :=
  if x2 = 0 then (bd ((gF σ 7) - 1) (fun y3 => F_X9_shiftBack_12 5000 x1 x3 y3 σ)) else (bd (x1 + 1) (fun y2 => F_X9_shiftBack_48 5000 x1 x2 x3 y2 σ))
section S_X9_shiftBack
variable {p : Program} {l : Launch} {e : Env} {s : State} {m : MethodId} {args : Array Value} {below : List Frame} {meth : Method} {c : Code}
variable {D : va_G} {cA : ClassId} {A : Nat → Prop} {ad : Nat → Nat} {r : Int32} {σ' : St} {ta : Nat}
set_option maxHeartbeats 4000000 in
set_option maxRecDepth 100000 in
theorem t_X9_shiftBack_81  (X : Fx p s m meth c D cA A RX9 cX9_shiftBack 5 none)  {x1 x3 : Int32} { σ : St} {H : Heap} {locs : List Loc} {ls : Array Slot} (hf : F_X9_shiftBack_81 x1 x3 σ = some (r, σ')) (hP : va_P D vwCl (wM cA ad ta σ) H) (hD : va_D A (wM cA ad ta σ)) (hS : va_S A s.heap H locs) (hl : lv_has ls 5 [(0, .ref (ad 0)), (1, .int x1), (3, .int x3)]) : W p l e (rm_X9_shiftBack) s m args below meth c H locs 0 0 (MQ below (QV D cA A (wM cA ad) σ' ta) args s 0 0 A) (F0 m 81 ls []) := by
  obtain ⟨hx, hb, hr, hml, hown, hlk, hE, hK, hA⟩ := id X
  rw [F_X9_shiftBack_81] at hf
  refine lv_aload_n hx hb dX9_shiftBack_81 rfl (lv_at hl 0 rfl) ?_
  refine gM_Mod_terms X hP kw724 dX9_shiftBack_82 ?_
  refine lv_iload_n hx hb dX9_shiftBack_85 rfl (lv_at hl 1 rfl) ?_
  refine lv_iload_n hx hb dX9_shiftBack_86 rfl (lv_at hl 2 rfl) ?_
  obtain ⟨b1, hf⟩ := ck_e hf
  refine sM_terms X hP hD hS b1 dX9_shiftBack_87 (fun H locs hP hD hS => ?_)
  obtain ⟨s2, es2, hf⟩ := bd_e hf
  rw [← es2] at hP hD
  obtain ⟨rfl, rfl⟩ := Prod.mk.inj (Option.some.inj hf)
  exact ret_v X hP hD hS dX9_shiftBack_88
set_option maxHeartbeats 4000000 in
set_option maxRecDepth 100000 in
theorem t_X9_shiftBack_48  (X : Fx p s m meth c D cA A RX9 cX9_shiftBack 5 none)  : ∀ (n : Nat) (x1 x2 x3 x4 : Int32) (σ : St) (H : Heap) (locs : List Loc) (ls : Array Slot), F_X9_shiftBack_48 n x1 x2 x3 x4 σ = some (r, σ') → va_P D vwCl (wM cA ad ta σ) H → va_D A (wM cA ad ta σ) → va_S A s.heap H locs → lv_has ls 5 [(0, .ref (ad 0)), (1, .int x1), (2, .int x2), (3, .int x3), (4, .int x4)] → W p l e (rm_X9_shiftBack) s m args below meth c H locs 0 0 (MQ below (QV D cA A (wM cA ad) σ' ta) args s 0 0 A) (F0 m 48 ls []) := by
  obtain ⟨hx, hb, hr, hml, hown, hlk, hE, hK, hA⟩ := id X
  intro n
  induction n with
  | zero =>
    intro x1 x2 x3 x4 σ H locs ls hf
    cases (show (none : Rs) = some _ from hf)
  | succ n ih =>
    intro x1 x2 x3 x4 σ H locs ls hf hP hD hS hl
    rw [F_X9_shiftBack_48] at hf
    refine lv_iload hx hb dX9_shiftBack_48 (lv_at hl 4 rfl) ?_
    refine lv_aload_n hx hb dX9_shiftBack_50 rfl (lv_at hl 0 rfl) ?_
    refine gM_Mod_opens X hP kw702 dX9_shiftBack_51 ?_
    refine lv_icmp_ge (tgt := 81) hx hb dX9_shiftBack_54 (by decide) (fun c1 => ?_) (fun c1 => ?_)
    · have hf := it_t c1 hf
      exact t_X9_shiftBack_81 X  hf hP hD hS (lv_sub hl [0, 1, 3] rfl)
    · have hf := it_f c1 hf
      refine lv_aload_n hx hb dX9_shiftBack_57 rfl (lv_at hl 0 rfl) ?_
      refine gM_Mod_terms X hP kw724 dX9_shiftBack_58 ?_
      refine lv_iload hx hb dX9_shiftBack_61 (lv_at hl 4 rfl) ?_
      refine lv_aload_n hx hb dX9_shiftBack_63 rfl (lv_at hl 0 rfl) ?_
      refine gM_Mod_terms X hP kw724 dX9_shiftBack_64 ?_
      refine lv_iload hx hb dX9_shiftBack_67 (lv_at hl 4 rfl) ?_
      refine lv_iload_n hx hb dX9_shiftBack_69 rfl (lv_at hl 2 rfl) ?_
      refine lv_iadd hx hb dX9_shiftBack_70 ?_
      refine lv_iconst (v := 1) hx hb dX9_shiftBack_71 (by decide) ?_
      refine lv_isub hx hb dX9_shiftBack_72 ?_
      obtain ⟨b2, hf⟩ := ck_e hf
      refine lM_terms X hP b2 dX9_shiftBack_73 ?_
      refine lv_topi (fun y3 ey3 => ?_)
      have hf := bd_x ey3 hf
      obtain ⟨b4, hf⟩ := ck_e hf
      refine sM_terms X hP hD hS b4 dX9_shiftBack_74 (fun H locs hP hD hS => ?_)
      obtain ⟨s5, es5, hf⟩ := bd_e hf
      rw [← es5] at hP hD
      refine lv_iinc (v := (x4 + 1)) (lv' := [(4, .int (x4 + 1)), (0, .ref (ad 0)), (1, .int x1), (2, .int x2), (3, .int x3)]) hx hb dX9_shiftBack_75 hl (k := 4) rfl rfl (by decide) rfl (fun ls hl => ?_)
      refine lv_goto (tgt := 48) hx hb dX9_shiftBack_78 (by decide) ?_
      exact ih x1 x2 x3 (x4 + 1) s5 _ _ _ hf hP hD hS (lv_sub hl [1, 2, 3, 4, 0] rfl)
set_option maxHeartbeats 4000000 in
set_option maxRecDepth 100000 in
theorem t_X9_shiftBack_40  (X : Fx p s m meth c D cA A RX9 cX9_shiftBack 5 none)  {x1 x3 : Int32} { σ : St} {H : Heap} {locs : List Loc} {ls : Array Slot} (hf : F_X9_shiftBack_40 x1 x3 σ = some (r, σ')) (hP : va_P D vwCl (wM cA ad ta σ) H) (hD : va_D A (wM cA ad ta σ)) (hS : va_S A s.heap H locs) (hl : lv_has ls 5 [(0, .ref (ad 0)), (1, .int x1), (3, .int x3)]) : W p l e (rm_X9_shiftBack) s m args below meth c H locs 0 0 (MQ below (QV D cA A (wM cA ad) σ' ta) args s 0 0 A) (F0 m 40 ls []) := by
  obtain ⟨hx, hb, hr, hml, hown, hlk, hE, hK, hA⟩ := id X
  rw [F_X9_shiftBack_40] at hf
  refine lv_goto (tgt := 81) hx hb dX9_shiftBack_40 (by decide) ?_
  exact t_X9_shiftBack_81 X  hf hP hD hS (lv_sub hl [0, 1, 2] rfl)
set_option maxHeartbeats 4000000 in
set_option maxRecDepth 100000 in
theorem t_X9_shiftBack_12  (X : Fx p s m meth c D cA A RX9 cX9_shiftBack 5 none)  : ∀ (n : Nat) (x1 x3 x4 : Int32) (σ : St) (H : Heap) (locs : List Loc) (ls : Array Slot), F_X9_shiftBack_12 n x1 x3 x4 σ = some (r, σ') → va_P D vwCl (wM cA ad ta σ) H → va_D A (wM cA ad ta σ) → va_S A s.heap H locs → lv_has ls 5 [(0, .ref (ad 0)), (1, .int x1), (3, .int x3), (4, .int x4)] → W p l e (rm_X9_shiftBack) s m args below meth c H locs 0 0 (MQ below (QV D cA A (wM cA ad) σ' ta) args s 0 0 A) (F0 m 12 ls []) := by
  obtain ⟨hx, hb, hr, hml, hown, hlk, hE, hK, hA⟩ := id X
  intro n
  induction n with
  | zero =>
    intro x1 x3 x4 σ H locs ls hf
    cases (show (none : Rs) = some _ from hf)
  | succ n ih =>
    intro x1 x3 x4 σ H locs ls hf hP hD hS hl
    rw [F_X9_shiftBack_12] at hf
    refine lv_iload hx hb dX9_shiftBack_12 (lv_at hl 3 rfl) ?_
    refine lv_iload_n hx hb dX9_shiftBack_14 rfl (lv_at hl 1 rfl) ?_
    refine lv_icmp_le (tgt := 40) hx hb dX9_shiftBack_15 (by decide) (fun c1 => ?_) (fun c1 => ?_)
    · have hf := it_t c1 hf
      exact t_X9_shiftBack_40 X  hf hP hD hS (lv_sub hl [0, 1, 2] rfl)
    · have hf := it_f c1 hf
      refine lv_aload_n hx hb dX9_shiftBack_18 rfl (lv_at hl 0 rfl) ?_
      refine gM_Mod_terms X hP kw724 dX9_shiftBack_19 ?_
      refine lv_iload hx hb dX9_shiftBack_22 (lv_at hl 3 rfl) ?_
      refine lv_aload_n hx hb dX9_shiftBack_24 rfl (lv_at hl 0 rfl) ?_
      refine gM_Mod_terms X hP kw724 dX9_shiftBack_25 ?_
      refine lv_iload hx hb dX9_shiftBack_28 (lv_at hl 3 rfl) ?_
      refine lv_iconst (v := 1) hx hb dX9_shiftBack_30 (by decide) ?_
      refine lv_isub hx hb dX9_shiftBack_31 ?_
      obtain ⟨b2, hf⟩ := ck_e hf
      refine lM_terms X hP b2 dX9_shiftBack_32 ?_
      refine lv_topi (fun y3 ey3 => ?_)
      have hf := bd_x ey3 hf
      obtain ⟨b4, hf⟩ := ck_e hf
      refine sM_terms X hP hD hS b4 dX9_shiftBack_33 (fun H locs hP hD hS => ?_)
      obtain ⟨s5, es5, hf⟩ := bd_e hf
      rw [← es5] at hP hD
      refine lv_iinc (v := (x4 + (-1))) (lv' := [(4, .int (x4 + (-1))), (0, .ref (ad 0)), (1, .int x1), (3, .int x3)]) hx hb dX9_shiftBack_34 hl (k := 3) rfl rfl (by decide) rfl (fun ls hl => ?_)
      refine lv_goto (tgt := 12) hx hb dX9_shiftBack_37 (by decide) ?_
      exact ih x1 x3 (x4 + (-1)) s5 _ _ _ hf hP hD hS (lv_sub hl [1, 2, 3, 0] rfl)
set_option maxHeartbeats 4000000 in
set_option maxRecDepth 100000 in
theorem t_X9_shiftBack_0  (X : Fx p s m meth c D cA A RX9 cX9_shiftBack 5 none)  {x1 x2 x3 : Int32} { σ : St} {H : Heap} {locs : List Loc} {ls : Array Slot} (hf : F_X9_shiftBack x1 x2 x3 σ = some (r, σ')) (hP : va_P D vwCl (wM cA ad ta σ) H) (hD : va_D A (wM cA ad ta σ)) (hS : va_S A s.heap H locs) (hl : lv_has ls 5 [(0, .ref (ad 0)), (1, .int x1), (2, .int x2), (3, .int x3)]) : W p l e (rm_X9_shiftBack) s m args below meth c H locs 0 0 (MQ below (QV D cA A (wM cA ad) σ' ta) args s 0 0 A) (F0 m 0 ls []) := by
  obtain ⟨hx, hb, hr, hml, hown, hlk, hE, hK, hA⟩ := id X
  rw [F_X9_shiftBack] at hf
  refine lv_iload_n hx hb dX9_shiftBack_0 rfl (lv_at hl 2 rfl) ?_
  refine lv_if_ne (tgt := 43) hx hb dX9_shiftBack_1 (by decide) (fun c1 => ?_) (fun c1 => ?_)
  · have hf := it_f c1 hf
    refine lv_iload_n hx hb dX9_shiftBack_43 rfl (lv_at hl 1 rfl) ?_
    refine lv_iconst (v := 1) hx hb dX9_shiftBack_44 (by decide) ?_
    refine lv_iadd hx hb dX9_shiftBack_45 ?_
    refine lv_topi (fun y2 ey2 => ?_)
    have hf := bd_x ey2 hf
    refine lv_istore (lv' := [(4, .int y2), (0, .ref (ad 0)), (1, .int x1), (2, .int x2), (3, .int x3)]) hx hb dX9_shiftBack_46 hl (by decide) rfl (fun ls hl => ?_)
    exact t_X9_shiftBack_48 X  5000 x1 x2 x3 y2 σ _ _ _ hf hP hD hS (lv_sub hl [1, 2, 3, 4, 0] rfl)
  · have hf := it_t c1 hf
    refine lv_aload_n hx hb dX9_shiftBack_4 rfl (lv_at hl 0 rfl) ?_
    refine gM_Mod_opens X hP kw702 dX9_shiftBack_5 ?_
    refine lv_iconst (v := 1) hx hb dX9_shiftBack_8 (by decide) ?_
    refine lv_isub hx hb dX9_shiftBack_9 ?_
    refine lv_topi (fun y3 ey3 => ?_)
    have hf := bd_x ey3 hf
    refine lv_istore (lv' := [(4, .int y3), (0, .ref (ad 0)), (1, .int x1), (2, .int x2), (3, .int x3)]) hx hb dX9_shiftBack_10 hl (by decide) rfl (fun ls hl => ?_)
    exact t_X9_shiftBack_12 X  5000 x1 x3 y3 σ _ _ _ hf hP hD hS (lv_sub hl [1, 2, 4, 0] rfl)
end S_X9_shiftBack
theorem c_X9_shiftBack (l : Launch) (D : va_G) (cA : ClassId) (A : Nat → Prop) (ad : Nat → Nat) (ta : Nat) (σ : St) (x1 x2 x3 : Int32) (r : Int32) (σ' : St) (hf : F_X9_shiftBack x1 x2 x3 σ = some (r, σ')) : MV l D cA A (wM cA ad) yX9_shiftBack cX9_shiftBack 5 none rm_X9_shiftBack [.ref (ad 0), .int x1, .int x2, .int x3] ta σ σ' 0 0 := by
  refine enter (by decide) (Nat.le_of_ble_eq_true rfl) ?_
  intro p e s m below meth c ls X hnm hP hD hS hl
  exact t_X9_shiftBack_0 X hf hP hD hS hl
abbrev rm_X9_comes : Room := { frames := 1, cells := 0, slots := 0, locals := 22 }
def F_X9_comes_263 (k115 : Int32 → Int32 → St → Rs) (x2 : Int32) (x3 : Int32) (σ : St) : Rs :=
  bd (sF σ 25 ((gF σ 25) + 1)) (fun s1 => k115 x2 x3 s1)
def F_X9_comes_233 (k115 : Int32 → Int32 → St → Rs) : Nat → Int32 → Int32 → Int32 → Int32 → St → Rs
  | 0, _, _, _, _, _ => none
  | n + 1, x2, x3, x4, x6, σ => if x6 < 0 then (F_X9_comes_263 k115 x2 x3 σ) else (ck (inb x4 1200) (bd (gA σ 27 x4.toNatClampNeg) (fun y3 => ck (inb x3 1200) (bd (sA σ 32 (upd (gA σ 32) x3.toNatClampNeg (y3 + x6))) (fun s5 => F_X9_comes_233 k115 n x2 (x3 + 1) x4 (x6 + (-1)) s5)))))
def F_X9_comes_129  (σ : St) : Rs :=
  ck (isB 1) (bd (sF σ 26 1) (fun s2 => some (0, s2)))
def F_X9_comes_189 (k115 : Int32 → Int32 → St → Rs) (x2 : Int32) (x3 : Int32) (x5 : Int32) (σ : St) : Rs :=
  ck (inb ((-1) - x5) 800) (bd (gA σ 31 ((-1) - x5).toNatClampNeg) (fun y2 => ck (inb (gF σ 25) 401) (bd (sA σ 30 (upd (gA σ 30) (gF σ 25).toNatClampNeg (-y2))) (fun s4 => F_X9_comes_263 k115 x2 x3 s4))))
def F_X9_comes_115  : Nat → Int32 → Int32 → St → Rs
  | 0, _, _, _ => none
  | n + 1, x2, x3, σ => if x3 ≤ 0 then (some (0, σ)) else (if (gF σ 25) = 400 then (F_X9_comes_129 σ) else (ck (inb (x3 + (-1)) 1200) (bd (gA σ 32 (x3 + (-1)).toNatClampNeg) (fun y4 => bo (F_X9_here y4 σ) (fun r5 s6 => ck (inb r5 1200) (bd (gA s6 26 r5.toNatClampNeg) (fun y9 => if 0 ≤ y9 then (ck (inb (gF s6 25) 401) (bd (sA s6 30 (upd (gA s6 30) (gF s6 25).toNatClampNeg y9)) (fun s12 => ck (inb y9 60) (bd (gA s12 2 y9.toNatClampNeg) (fun y14 => bd (y14 - 1) (fun y15 => F_X9_comes_233 (F_X9_comes_115 n) 5000 x2 (x3 + (-1)) r5 y15 s12)))))) else (ck (inb ((-1) - y9) 800) (bd (gA s6 31 ((-1) - y9).toNatClampNeg) (fun y17 => if y17 = 0 then (ck (inb ((-1) - y9) 800) (bd (sA s6 31 (upd (gA s6 31) ((-1) - y9).toNatClampNeg (x2 + 1))) (fun s20 => F_X9_comes_189 (F_X9_comes_115 n) (x2 + 1) (x3 + (-1)) y9 s20))) else (F_X9_comes_189 (F_X9_comes_115 n) x2 (x3 + (-1)) y9 s6)))))))))))
def F_X9_comes_93  : Nat → Int32 → Int32 → Int32 → St → Rs
  | 0, _, _, _, _ => none
  | n + 1, x2, x3, x4, σ => if x4 < 0 then (F_X9_comes_115 5000 x2 x3 σ) else (ck (inb x3 1200) (bd (sA σ 32 (upd (gA σ 32) x3.toNatClampNeg x4)) (fun s3 => F_X9_comes_93 n x2 (x3 + 1) (x4 + (-1)) s3)))
def F_X9_comes_81  (σ : St) : Rs :=
  bd ((gF σ 2) - 1) (fun y1 => F_X9_comes_93 5000 0 0 y1 σ)
def F_X9_comes_60  : Nat → Int32 → St → Rs
  | 0, _, _ => none
  | n + 1, x2, σ => if (gF σ 16) ≤ x2 then (F_X9_comes_81 σ) else (ck (inb x2 800) (bd (sA σ 31 (upd (gA σ 31) x2.toNatClampNeg 0)) (fun s3 => F_X9_comes_60 n (x2 + 1) s3)))
def F_X9_comes_32 (x1 : Int32) (σ : St) : Rs :=
  bd (sF σ 22 x1) (fun s1 => bd (sF s1 23 (gF s1 17)) (fun s2 => bd (sF s2 24 (gF s2 18)) (fun s3 => bd (sF s3 25 0) (fun s4 => F_X9_comes_60 5000 0 s4))))
def F_X9_comes (x1 : Int32) (σ : St) : Rs :=
  bd (sF σ 20 ((gF σ 20) + 1)) (fun s1 => if (gF s1 21) = (-1) then (F_X9_comes_32 x1 s1) else (if ((gF s1 20) - 1) = (gF s1 21) then (F_X9_comes_32 x1 s1) else (some (0, s1))))
section S_X9_comes
variable {p : Program} {l : Launch} {e : Env} {s : State} {m : MethodId} {args : Array Value} {below : List Frame} {meth : Method} {c : Code}
variable {D : va_G} {cA : ClassId} {A : Nat → Prop} {ad : Nat → Nat} {r : Int32} {σ' : St} {ta : Nat}
set_option maxHeartbeats 4000000 in
set_option maxRecDepth 100000 in
theorem t_X9_comes_263 {k115 : Int32 → Int32 → St → Rs} (X : Fx p s m meth c D cA A RX9 cX9_comes 7 none) (K115 : ∀ (x2 x3 : Int32) (σ : St) (H : Heap) (locs : List Loc) (ls : Array Slot), k115 x2 x3 σ = some (r, σ') → va_P D vwCl (wM cA ad ta σ) H → va_D A (wM cA ad ta σ) → va_S A s.heap H locs → lv_has ls 7 [(0, .ref (ad 0)), (2, .int x2), (3, .int x3)] → W p l e (rm_X9_comes) s m args below meth c H locs 0 0 (MQ below (QV D cA A (wM cA ad) σ' ta) args s 0 0 A) (F0 m 115 ls [])) {x2 x3 : Int32} { σ : St} {H : Heap} {locs : List Loc} {ls : Array Slot} (hf : F_X9_comes_263 k115 x2 x3 σ = some (r, σ')) (hP : va_P D vwCl (wM cA ad ta σ) H) (hD : va_D A (wM cA ad ta σ)) (hS : va_S A s.heap H locs) (hl : lv_has ls 7 [(0, .ref (ad 0)), (2, .int x2), (3, .int x3)]) : W p l e (rm_X9_comes) s m args below meth c H locs 0 0 (MQ below (QV D cA A (wM cA ad) σ' ta) args s 0 0 A) (F0 m 263 ls []) := by
  obtain ⟨hx, hb, hr, hml, hown, hlk, hE, hK, hA⟩ := id X
  rw [F_X9_comes_263] at hf
  refine lv_aload_n hx hb dX9_comes_263 rfl (lv_at hl 0 rfl) ?_
  refine lv_dup hx hb dX9_comes_264 rfl ?_
  refine gM_Mod_told X hP kw733 dX9_comes_265 ?_
  refine lv_iconst (v := 1) hx hb dX9_comes_268 (by decide) ?_
  refine lv_iadd hx hb dX9_comes_269 ?_
  refine pM_Mod_told X hP hD hS kw733 dX9_comes_270 (fun H locs hP hD hS => ?_)
  obtain ⟨s1, es1, hf⟩ := bd_e hf
  rw [← es1] at hP hD
  refine lv_goto (tgt := 115) hx hb dX9_comes_273 (by decide) ?_
  exact K115 x2 x3 s1 _ _ _ hf hP hD hS (lv_sub hl [0, 1, 2] rfl)
set_option maxHeartbeats 4000000 in
set_option maxRecDepth 100000 in
theorem t_X9_comes_233 {k115 : Int32 → Int32 → St → Rs} (X : Fx p s m meth c D cA A RX9 cX9_comes 7 none) (K115 : ∀ (x2 x3 : Int32) (σ : St) (H : Heap) (locs : List Loc) (ls : Array Slot), k115 x2 x3 σ = some (r, σ') → va_P D vwCl (wM cA ad ta σ) H → va_D A (wM cA ad ta σ) → va_S A s.heap H locs → lv_has ls 7 [(0, .ref (ad 0)), (2, .int x2), (3, .int x3)] → W p l e (rm_X9_comes) s m args below meth c H locs 0 0 (MQ below (QV D cA A (wM cA ad) σ' ta) args s 0 0 A) (F0 m 115 ls [])) : ∀ (n : Nat) (x2 x3 x4 x6 : Int32) (σ : St) (H : Heap) (locs : List Loc) (ls : Array Slot), F_X9_comes_233 k115 n x2 x3 x4 x6 σ = some (r, σ') → va_P D vwCl (wM cA ad ta σ) H → va_D A (wM cA ad ta σ) → va_S A s.heap H locs → lv_has ls 7 [(0, .ref (ad 0)), (2, .int x2), (3, .int x3), (4, .int x4), (6, .int x6)] → W p l e (rm_X9_comes) s m args below meth c H locs 0 0 (MQ below (QV D cA A (wM cA ad) σ' ta) args s 0 0 A) (F0 m 233 ls []) := by
  obtain ⟨hx, hb, hr, hml, hown, hlk, hE, hK, hA⟩ := id X
  intro n
  induction n with
  | zero =>
    intro x2 x3 x4 x6 σ H locs ls hf
    cases (show (none : Rs) = some _ from hf)
  | succ n ih =>
    intro x2 x3 x4 x6 σ H locs ls hf hP hD hS hl
    rw [F_X9_comes_233] at hf
    refine lv_iload hx hb dX9_comes_233 (lv_at hl 4 rfl) ?_
    refine lv_if_lt (tgt := 263) hx hb dX9_comes_235 (by decide) (fun c1 => ?_) (fun c1 => ?_)
    · have hf := it_t c1 hf
      exact t_X9_comes_263 X K115 hf hP hD hS (lv_sub hl [0, 1, 2] rfl)
    · have hf := it_f c1 hf
      refine lv_aload_n hx hb dX9_comes_238 rfl (lv_at hl 0 rfl) ?_
      refine gM_Mod_toTell X hP kw737 dX9_comes_239 ?_
      refine lv_iload_n hx hb dX9_comes_242 rfl (lv_at hl 2 rfl) ?_
      refine lv_aload_n hx hb dX9_comes_243 rfl (lv_at hl 0 rfl) ?_
      refine gM_Mod_kids X hP kw720 dX9_comes_244 ?_
      refine lv_iload hx hb dX9_comes_247 (lv_at hl 3 rfl) ?_
      obtain ⟨b2, hf⟩ := ck_e hf
      refine lM_kids X hP b2 dX9_comes_249 ?_
      refine lv_topi (fun y3 ey3 => ?_)
      have hf := bd_x ey3 hf
      refine lv_iload hx hb dX9_comes_250 (lv_at hl 4 rfl) ?_
      refine lv_iadd hx hb dX9_comes_252 ?_
      obtain ⟨b4, hf⟩ := ck_e hf
      refine sM_toTell X hP hD hS b4 dX9_comes_253 (fun H locs hP hD hS => ?_)
      obtain ⟨s5, es5, hf⟩ := bd_e hf
      rw [← es5] at hP hD
      refine lv_iinc (v := (x3 + 1)) (lv' := [(3, .int (x3 + 1)), (0, .ref (ad 0)), (2, .int x2), (4, .int x4), (6, .int x6)]) hx hb dX9_comes_254 hl (k := 2) rfl rfl (by decide) rfl (fun ls hl => ?_)
      refine lv_iinc (v := (x6 + (-1))) (lv' := [(6, .int (x6 + (-1))), (3, .int (x3 + 1)), (0, .ref (ad 0)), (2, .int x2), (4, .int x4)]) hx hb dX9_comes_257 hl (k := 4) rfl rfl (by decide) rfl (fun ls hl => ?_)
      refine lv_goto (tgt := 233) hx hb dX9_comes_260 (by decide) ?_
      exact ih x2 (x3 + 1) x4 (x6 + (-1)) s5 _ _ _ hf hP hD hS (lv_sub hl [2, 3, 1, 4, 0] rfl)
set_option maxHeartbeats 4000000 in
set_option maxRecDepth 100000 in
theorem t_X9_comes_129  (X : Fx p s m meth c D cA A RX9 cX9_comes 7 none)  { σ : St} {H : Heap} {locs : List Loc} {ls : Array Slot} (hf : F_X9_comes_129 σ = some (r, σ')) (hP : va_P D vwCl (wM cA ad ta σ) H) (hD : va_D A (wM cA ad ta σ)) (hS : va_S A s.heap H locs) (hl : lv_has ls 7 [(0, .ref (ad 0))]) : W p l e (rm_X9_comes) s m args below meth c H locs 0 0 (MQ below (QV D cA A (wM cA ad) σ' ta) args s 0 0 A) (F0 m 129 ls []) := by
  obtain ⟨hx, hb, hr, hml, hown, hlk, hE, hK, hA⟩ := id X
  rw [F_X9_comes_129] at hf
  refine lv_aload_n hx hb dX9_comes_129 rfl (lv_at hl 0 rfl) ?_
  refine lv_iconst (v := 1) hx hb dX9_comes_130 (by decide) ?_
  obtain ⟨b1, hf⟩ := ck_e hf
  refine pM_Mod_isLong X b1 hP hD hS kw735 dX9_comes_131 (fun H locs hP hD hS => ?_)
  obtain ⟨s2, es2, hf⟩ := bd_e hf
  rw [← es2] at hP hD
  obtain ⟨rfl, rfl⟩ := Prod.mk.inj (Option.some.inj hf)
  exact ret_v X hP hD hS dX9_comes_134
set_option maxHeartbeats 4000000 in
set_option maxRecDepth 100000 in
theorem t_X9_comes_189 {k115 : Int32 → Int32 → St → Rs} (X : Fx p s m meth c D cA A RX9 cX9_comes 7 none) (K115 : ∀ (x2 x3 : Int32) (σ : St) (H : Heap) (locs : List Loc) (ls : Array Slot), k115 x2 x3 σ = some (r, σ') → va_P D vwCl (wM cA ad ta σ) H → va_D A (wM cA ad ta σ) → va_S A s.heap H locs → lv_has ls 7 [(0, .ref (ad 0)), (2, .int x2), (3, .int x3)] → W p l e (rm_X9_comes) s m args below meth c H locs 0 0 (MQ below (QV D cA A (wM cA ad) σ' ta) args s 0 0 A) (F0 m 115 ls [])) {x2 x3 x5 : Int32} { σ : St} {H : Heap} {locs : List Loc} {ls : Array Slot} (hf : F_X9_comes_189 k115 x2 x3 x5 σ = some (r, σ')) (hP : va_P D vwCl (wM cA ad ta σ) H) (hD : va_D A (wM cA ad ta σ)) (hS : va_S A s.heap H locs) (hl : lv_has ls 7 [(0, .ref (ad 0)), (2, .int x2), (3, .int x3), (5, .int x5)]) : W p l e (rm_X9_comes) s m args below meth c H locs 0 0 (MQ below (QV D cA A (wM cA ad) σ' ta) args s 0 0 A) (F0 m 189 ls []) := by
  obtain ⟨hx, hb, hr, hml, hown, hlk, hE, hK, hA⟩ := id X
  rw [F_X9_comes_189] at hf
  refine lv_aload_n hx hb dX9_comes_189 rfl (lv_at hl 0 rfl) ?_
  refine gM_Mod_tell X hP kw734 dX9_comes_190 ?_
  refine lv_aload_n hx hb dX9_comes_193 rfl (lv_at hl 0 rfl) ?_
  refine gM_Mod_told X hP kw733 dX9_comes_194 ?_
  refine lv_aload_n hx hb dX9_comes_197 rfl (lv_at hl 0 rfl) ?_
  refine gM_Mod_numberOf X hP kw736 dX9_comes_198 ?_
  refine lv_iconst (v := -1) hx hb dX9_comes_201 (by decide) ?_
  refine lv_iload hx hb dX9_comes_202 (lv_at hl 3 rfl) ?_
  refine lv_isub hx hb dX9_comes_204 ?_
  obtain ⟨b1, hf⟩ := ck_e hf
  refine lM_numberOf X hP b1 dX9_comes_205 ?_
  refine lv_topi (fun y2 ey2 => ?_)
  have hf := bd_x ey2 hf
  refine lv_ineg hx hb dX9_comes_206 ?_
  obtain ⟨b3, hf⟩ := ck_e hf
  refine sM_tell X hP hD hS b3 dX9_comes_207 (fun H locs hP hD hS => ?_)
  obtain ⟨s4, es4, hf⟩ := bd_e hf
  rw [← es4] at hP hD
  refine lv_goto (tgt := 263) hx hb dX9_comes_208 (by decide) ?_
  exact t_X9_comes_263 X K115 hf hP hD hS (lv_sub hl [0, 1, 2] rfl)
set_option maxHeartbeats 4000000 in
set_option maxRecDepth 100000 in
theorem t_X9_comes_115  (X : Fx p s m meth c D cA A RX9 cX9_comes 7 none)  : ∀ (n : Nat) (x2 x3 : Int32) (σ : St) (H : Heap) (locs : List Loc) (ls : Array Slot), F_X9_comes_115 n x2 x3 σ = some (r, σ') → va_P D vwCl (wM cA ad ta σ) H → va_D A (wM cA ad ta σ) → va_S A s.heap H locs → lv_has ls 7 [(0, .ref (ad 0)), (2, .int x2), (3, .int x3)] → W p l e (rm_X9_comes) s m args below meth c H locs 0 0 (MQ below (QV D cA A (wM cA ad) σ' ta) args s 0 0 A) (F0 m 115 ls []) := by
  obtain ⟨hx, hb, hr, hml, hown, hlk, hE, hK, hA⟩ := id X
  intro n
  induction n with
  | zero =>
    intro x2 x3 σ H locs ls hf
    cases (show (none : Rs) = some _ from hf)
  | succ n ih =>
    intro x2 x3 σ H locs ls hf hP hD hS hl
    rw [F_X9_comes_115] at hf
    refine lv_iload_n hx hb dX9_comes_115 rfl (lv_at hl 2 rfl) ?_
    refine lv_if_le (tgt := 276) hx hb dX9_comes_116 (by decide) (fun c1 => ?_) (fun c1 => ?_)
    · have hf := it_t c1 hf
      obtain ⟨rfl, rfl⟩ := Prod.mk.inj (Option.some.inj hf)
      exact ret_v X hP hD hS dX9_comes_276
    · have hf := it_f c1 hf
      refine lv_aload_n hx hb dX9_comes_119 rfl (lv_at hl 0 rfl) ?_
      refine gM_Mod_told X hP kw733 dX9_comes_120 ?_
      refine lv_sipush (v := 400) hx hb dX9_comes_123 (by decide) ?_
      refine lv_icmp_ne (tgt := 135) hx hb dX9_comes_126 (by decide) (fun c2 => ?_) (fun c2 => ?_)
      · have hf := it_f c2 hf
        refine lv_iinc (v := (x3 + (-1))) (lv' := [(3, .int (x3 + (-1))), (0, .ref (ad 0)), (2, .int x2)]) hx hb dX9_comes_135 hl (k := 2) rfl rfl (by decide) rfl (fun ls hl => ?_)
        refine lv_aload_n hx hb dX9_comes_138 rfl (lv_at hl 1 rfl) ?_
        refine lv_aload_n hx hb dX9_comes_139 rfl (lv_at hl 1 rfl) ?_
        refine gM_Mod_toTell X hP kw737 dX9_comes_140 ?_
        refine lv_iload_n hx hb dX9_comes_143 rfl (lv_at hl 0 rfl) ?_
        obtain ⟨b3, hf⟩ := ck_e hf
        refine lM_toTell X hP b3 dX9_comes_144 ?_
        refine lv_topi (fun y4 ey4 => ?_)
        have hf := bd_x ey4 hf
        obtain ⟨r5, s6, h7, hf⟩ := bo_e hf
        refine callV_i X cv_X9_here kw959 (c_X9_here l D cA A ad ta σ y4 r5 s6 h7) ⟨by decide, by decide⟩ ⟨rfl, rfl⟩ hP hD hS (q0 := 0) (ci := 9) rfl rfl rfl rfl hl rfl (Nat.le_of_ble_eq_true rfl) dX9_comes_145 ⟨by decide, by decide⟩ (fun H locs hP hD hS => ?_)
        refine lv_istore (lv' := [(4, .int r5), (3, .int (x3 + (-1))), (0, .ref (ad 0)), (2, .int x2)]) hx hb dX9_comes_148 hl (by decide) rfl (fun ls hl => ?_)
        refine lv_aload_n hx hb dX9_comes_150 rfl (lv_at hl 2 rfl) ?_
        refine gM_Mod_cell X hP kw719 dX9_comes_151 ?_
        refine lv_iload hx hb dX9_comes_154 (lv_at hl 0 rfl) ?_
        obtain ⟨b8, hf⟩ := ck_e hf
        refine lM_cell X hP b8 dX9_comes_156 ?_
        refine lv_topi (fun y9 ey9 => ?_)
        have hf := bd_x ey9 hf
        refine lv_istore (lv' := [(5, .int y9), (4, .int r5), (3, .int (x3 + (-1))), (0, .ref (ad 0)), (2, .int x2)]) hx hb dX9_comes_157 hl (by decide) rfl (fun ls hl => ?_)
        refine lv_iload hx hb dX9_comes_159 (lv_at hl 0 rfl) ?_
        refine lv_if_ge (tgt := 211) hx hb dX9_comes_161 (by decide) (fun c10 => ?_) (fun c10 => ?_)
        · have hf := it_t c10 hf
          refine lv_aload_n hx hb dX9_comes_211 rfl (lv_at hl 3 rfl) ?_
          refine gM_Mod_tell X hP kw734 dX9_comes_212 ?_
          refine lv_aload_n hx hb dX9_comes_215 rfl (lv_at hl 3 rfl) ?_
          refine gM_Mod_told X hP kw733 dX9_comes_216 ?_
          refine lv_iload hx hb dX9_comes_219 (lv_at hl 0 rfl) ?_
          obtain ⟨b11, hf⟩ := ck_e hf
          refine sM_tell X hP hD hS b11 dX9_comes_221 (fun H locs hP hD hS => ?_)
          obtain ⟨s12, es12, hf⟩ := bd_e hf
          rw [← es12] at hP hD
          refine lv_aload_n hx hb dX9_comes_222 rfl (lv_at hl 3 rfl) ?_
          refine gM_Mod_arity X hP kw682 dX9_comes_223 ?_
          refine lv_iload hx hb dX9_comes_226 (lv_at hl 0 rfl) ?_
          obtain ⟨b13, hf⟩ := ck_e hf
          refine lM_arity X hP b13 dX9_comes_228 ?_
          refine lv_topi (fun y14 ey14 => ?_)
          have hf := bd_x ey14 hf
          refine lv_iconst (v := 1) hx hb dX9_comes_229 (by decide) ?_
          refine lv_isub hx hb dX9_comes_230 ?_
          refine lv_topi (fun y15 ey15 => ?_)
          have hf := bd_x ey15 hf
          refine lv_istore (lv' := [(6, .int y15), (5, .int y9), (4, .int r5), (3, .int (x3 + (-1))), (0, .ref (ad 0)), (2, .int x2)]) hx hb dX9_comes_231 hl (by decide) rfl (fun ls hl => ?_)
          exact t_X9_comes_233 X ih 5000 x2 (x3 + (-1)) r5 y15 s12 _ _ _ hf hP hD hS (lv_sub hl [4, 5, 3, 2, 0] rfl)
        · have hf := it_f c10 hf
          refine lv_aload_n hx hb dX9_comes_164 rfl (lv_at hl 3 rfl) ?_
          refine gM_Mod_numberOf X hP kw736 dX9_comes_165 ?_
          refine lv_iconst (v := -1) hx hb dX9_comes_168 (by decide) ?_
          refine lv_iload hx hb dX9_comes_169 (lv_at hl 0 rfl) ?_
          refine lv_isub hx hb dX9_comes_171 ?_
          obtain ⟨b16, hf⟩ := ck_e hf
          refine lM_numberOf X hP b16 dX9_comes_172 ?_
          refine lv_topi (fun y17 ey17 => ?_)
          have hf := bd_x ey17 hf
          refine lv_if_ne (tgt := 189) hx hb dX9_comes_173 (by decide) (fun c18 => ?_) (fun c18 => ?_)
          · have hf := it_f c18 hf
            exact t_X9_comes_189 X ih hf hP hD hS (lv_sub hl [3, 4, 2, 0] rfl)
          · have hf := it_t c18 hf
            refine lv_iinc (v := (x2 + 1)) (lv' := [(2, .int (x2 + 1)), (5, .int y9), (4, .int r5), (3, .int (x3 + (-1))), (0, .ref (ad 0))]) hx hb dX9_comes_176 hl (k := 4) rfl rfl (by decide) rfl (fun ls hl => ?_)
            refine lv_aload_n hx hb dX9_comes_179 rfl (lv_at hl 4 rfl) ?_
            refine gM_Mod_numberOf X hP kw736 dX9_comes_180 ?_
            refine lv_iconst (v := -1) hx hb dX9_comes_183 (by decide) ?_
            refine lv_iload hx hb dX9_comes_184 (lv_at hl 1 rfl) ?_
            refine lv_isub hx hb dX9_comes_186 ?_
            refine lv_iload_n hx hb dX9_comes_187 rfl (lv_at hl 0 rfl) ?_
            obtain ⟨b19, hf⟩ := ck_e hf
            refine sM_numberOf X hP hD hS b19 dX9_comes_188 (fun H locs hP hD hS => ?_)
            obtain ⟨s20, es20, hf⟩ := bd_e hf
            rw [← es20] at hP hD
            exact t_X9_comes_189 X ih hf hP hD hS (lv_sub hl [4, 0, 3, 1] rfl)
      · have hf := it_t c2 hf
        exact t_X9_comes_129 X  hf hP hD hS (lv_sub hl [0] rfl)
set_option maxHeartbeats 4000000 in
set_option maxRecDepth 100000 in
theorem t_X9_comes_93  (X : Fx p s m meth c D cA A RX9 cX9_comes 7 none)  : ∀ (n : Nat) (x2 x3 x4 : Int32) (σ : St) (H : Heap) (locs : List Loc) (ls : Array Slot), F_X9_comes_93 n x2 x3 x4 σ = some (r, σ') → va_P D vwCl (wM cA ad ta σ) H → va_D A (wM cA ad ta σ) → va_S A s.heap H locs → lv_has ls 7 [(0, .ref (ad 0)), (2, .int x2), (3, .int x3), (4, .int x4)] → W p l e (rm_X9_comes) s m args below meth c H locs 0 0 (MQ below (QV D cA A (wM cA ad) σ' ta) args s 0 0 A) (F0 m 93 ls []) := by
  obtain ⟨hx, hb, hr, hml, hown, hlk, hE, hK, hA⟩ := id X
  intro n
  induction n with
  | zero =>
    intro x2 x3 x4 σ H locs ls hf
    cases (show (none : Rs) = some _ from hf)
  | succ n ih =>
    intro x2 x3 x4 σ H locs ls hf hP hD hS hl
    rw [F_X9_comes_93] at hf
    refine lv_iload hx hb dX9_comes_93 (lv_at hl 3 rfl) ?_
    refine lv_if_lt (tgt := 115) hx hb dX9_comes_95 (by decide) (fun c1 => ?_) (fun c1 => ?_)
    · have hf := it_t c1 hf
      exact t_X9_comes_115 X  5000 x2 x3 σ _ _ _ hf hP hD hS (lv_sub hl [0, 1, 2] rfl)
    · have hf := it_f c1 hf
      refine lv_aload_n hx hb dX9_comes_98 rfl (lv_at hl 0 rfl) ?_
      refine gM_Mod_toTell X hP kw737 dX9_comes_99 ?_
      refine lv_iload_n hx hb dX9_comes_102 rfl (lv_at hl 2 rfl) ?_
      refine lv_iload hx hb dX9_comes_103 (lv_at hl 3 rfl) ?_
      obtain ⟨b2, hf⟩ := ck_e hf
      refine sM_toTell X hP hD hS b2 dX9_comes_105 (fun H locs hP hD hS => ?_)
      obtain ⟨s3, es3, hf⟩ := bd_e hf
      rw [← es3] at hP hD
      refine lv_iinc (v := (x3 + 1)) (lv' := [(3, .int (x3 + 1)), (0, .ref (ad 0)), (2, .int x2), (4, .int x4)]) hx hb dX9_comes_106 hl (k := 2) rfl rfl (by decide) rfl (fun ls hl => ?_)
      refine lv_iinc (v := (x4 + (-1))) (lv' := [(4, .int (x4 + (-1))), (3, .int (x3 + 1)), (0, .ref (ad 0)), (2, .int x2)]) hx hb dX9_comes_109 hl (k := 3) rfl rfl (by decide) rfl (fun ls hl => ?_)
      refine lv_goto (tgt := 93) hx hb dX9_comes_112 (by decide) ?_
      exact ih x2 (x3 + 1) (x4 + (-1)) s3 _ _ _ hf hP hD hS (lv_sub hl [2, 3, 1, 0] rfl)
set_option maxHeartbeats 4000000 in
set_option maxRecDepth 100000 in
theorem t_X9_comes_81  (X : Fx p s m meth c D cA A RX9 cX9_comes 7 none)  { σ : St} {H : Heap} {locs : List Loc} {ls : Array Slot} (hf : F_X9_comes_81 σ = some (r, σ')) (hP : va_P D vwCl (wM cA ad ta σ) H) (hD : va_D A (wM cA ad ta σ)) (hS : va_S A s.heap H locs) (hl : lv_has ls 7 [(0, .ref (ad 0))]) : W p l e (rm_X9_comes) s m args below meth c H locs 0 0 (MQ below (QV D cA A (wM cA ad) σ' ta) args s 0 0 A) (F0 m 81 ls []) := by
  obtain ⟨hx, hb, hr, hml, hown, hlk, hE, hK, hA⟩ := id X
  rw [F_X9_comes_81] at hf
  refine lv_iconst (v := 0) hx hb dX9_comes_81 (by decide) ?_
  refine lv_istore_n (lv' := [(2, .int 0), (0, .ref (ad 0))]) hx hb dX9_comes_82 rfl hl (by decide) rfl (fun ls hl => ?_)
  refine lv_iconst (v := 0) hx hb dX9_comes_83 (by decide) ?_
  refine lv_istore_n (lv' := [(3, .int 0), (2, .int 0), (0, .ref (ad 0))]) hx hb dX9_comes_84 rfl hl (by decide) rfl (fun ls hl => ?_)
  refine lv_aload_n hx hb dX9_comes_85 rfl (lv_at hl 2 rfl) ?_
  refine gM_Mod_args X hP kw684 dX9_comes_86 ?_
  refine lv_iconst (v := 1) hx hb dX9_comes_89 (by decide) ?_
  refine lv_isub hx hb dX9_comes_90 ?_
  refine lv_topi (fun y1 ey1 => ?_)
  have hf := bd_x ey1 hf
  refine lv_istore (lv' := [(4, .int y1), (3, .int 0), (2, .int 0), (0, .ref (ad 0))]) hx hb dX9_comes_91 hl (by decide) rfl (fun ls hl => ?_)
  exact t_X9_comes_93 X  5000 0 0 y1 σ _ _ _ hf hP hD hS (lv_sub hl [3, 2, 1, 0] rfl)
set_option maxHeartbeats 4000000 in
set_option maxRecDepth 100000 in
theorem t_X9_comes_60  (X : Fx p s m meth c D cA A RX9 cX9_comes 7 none)  : ∀ (n : Nat) (x2 : Int32) (σ : St) (H : Heap) (locs : List Loc) (ls : Array Slot), F_X9_comes_60 n x2 σ = some (r, σ') → va_P D vwCl (wM cA ad ta σ) H → va_D A (wM cA ad ta σ) → va_S A s.heap H locs → lv_has ls 7 [(0, .ref (ad 0)), (2, .int x2)] → W p l e (rm_X9_comes) s m args below meth c H locs 0 0 (MQ below (QV D cA A (wM cA ad) σ' ta) args s 0 0 A) (F0 m 60 ls []) := by
  obtain ⟨hx, hb, hr, hml, hown, hlk, hE, hK, hA⟩ := id X
  intro n
  induction n with
  | zero =>
    intro x2 σ H locs ls hf
    cases (show (none : Rs) = some _ from hf)
  | succ n ih =>
    intro x2 σ H locs ls hf hP hD hS hl
    rw [F_X9_comes_60] at hf
    refine lv_iload_n hx hb dX9_comes_60 rfl (lv_at hl 1 rfl) ?_
    refine lv_aload_n hx hb dX9_comes_61 rfl (lv_at hl 0 rfl) ?_
    refine gM_Mod_names X hP kw723 dX9_comes_62 ?_
    refine lv_icmp_ge (tgt := 81) hx hb dX9_comes_65 (by decide) (fun c1 => ?_) (fun c1 => ?_)
    · have hf := it_t c1 hf
      exact t_X9_comes_81 X  hf hP hD hS (lv_sub hl [0] rfl)
    · have hf := it_f c1 hf
      refine lv_aload_n hx hb dX9_comes_68 rfl (lv_at hl 0 rfl) ?_
      refine gM_Mod_numberOf X hP kw736 dX9_comes_69 ?_
      refine lv_iload_n hx hb dX9_comes_72 rfl (lv_at hl 1 rfl) ?_
      refine lv_iconst (v := 0) hx hb dX9_comes_73 (by decide) ?_
      obtain ⟨b2, hf⟩ := ck_e hf
      refine sM_numberOf X hP hD hS b2 dX9_comes_74 (fun H locs hP hD hS => ?_)
      obtain ⟨s3, es3, hf⟩ := bd_e hf
      rw [← es3] at hP hD
      refine lv_iinc (v := (x2 + 1)) (lv' := [(2, .int (x2 + 1)), (0, .ref (ad 0))]) hx hb dX9_comes_75 hl (k := 1) rfl rfl (by decide) rfl (fun ls hl => ?_)
      refine lv_goto (tgt := 60) hx hb dX9_comes_78 (by decide) ?_
      exact ih (x2 + 1) s3 _ _ _ hf hP hD hS (lv_sub hl [1, 0] rfl)
set_option maxHeartbeats 4000000 in
set_option maxRecDepth 100000 in
theorem t_X9_comes_32  (X : Fx p s m meth c D cA A RX9 cX9_comes 7 none)  {x1 : Int32} { σ : St} {H : Heap} {locs : List Loc} {ls : Array Slot} (hf : F_X9_comes_32 x1 σ = some (r, σ')) (hP : va_P D vwCl (wM cA ad ta σ) H) (hD : va_D A (wM cA ad ta σ)) (hS : va_S A s.heap H locs) (hl : lv_has ls 7 [(0, .ref (ad 0)), (1, .int x1)]) : W p l e (rm_X9_comes) s m args below meth c H locs 0 0 (MQ below (QV D cA A (wM cA ad) σ' ta) args s 0 0 A) (F0 m 32 ls []) := by
  obtain ⟨hx, hb, hr, hml, hown, hlk, hE, hK, hA⟩ := id X
  rw [F_X9_comes_32] at hf
  refine lv_aload_n hx hb dX9_comes_32 rfl (lv_at hl 0 rfl) ?_
  refine lv_iload_n hx hb dX9_comes_33 rfl (lv_at hl 1 rfl) ?_
  refine pM_Mod_foundRule X hP hD hS kw730 dX9_comes_34 (fun H locs hP hD hS => ?_)
  obtain ⟨s1, es1, hf⟩ := bd_e hf
  rw [← es1] at hP hD
  refine lv_aload_n hx hb dX9_comes_37 rfl (lv_at hl 0 rfl) ?_
  refine lv_aload_n hx hb dX9_comes_38 rfl (lv_at hl 0 rfl) ?_
  refine gM_Mod_asked X hP kw725 dX9_comes_39 ?_
  refine pM_Mod_foundAsked X hP hD hS kw731 dX9_comes_42 (fun H locs hP hD hS => ?_)
  obtain ⟨s2, es2, hf⟩ := bd_e hf
  rw [← es2] at hP hD
  refine lv_aload_n hx hb dX9_comes_45 rfl (lv_at hl 0 rfl) ?_
  refine lv_aload_n hx hb dX9_comes_46 rfl (lv_at hl 0 rfl) ?_
  refine gM_Mod_askedFree X hP kw726 dX9_comes_47 ?_
  refine pM_Mod_foundFree X hP hD hS kw732 dX9_comes_50 (fun H locs hP hD hS => ?_)
  obtain ⟨s3, es3, hf⟩ := bd_e hf
  rw [← es3] at hP hD
  refine lv_aload_n hx hb dX9_comes_53 rfl (lv_at hl 0 rfl) ?_
  refine lv_iconst (v := 0) hx hb dX9_comes_54 (by decide) ?_
  refine pM_Mod_told X hP hD hS kw733 dX9_comes_55 (fun H locs hP hD hS => ?_)
  obtain ⟨s4, es4, hf⟩ := bd_e hf
  rw [← es4] at hP hD
  refine lv_iconst (v := 0) hx hb dX9_comes_58 (by decide) ?_
  refine lv_istore_n (lv' := [(2, .int 0), (0, .ref (ad 0)), (1, .int x1)]) hx hb dX9_comes_59 rfl hl (by decide) rfl (fun ls hl => ?_)
  exact t_X9_comes_60 X  5000 0 s4 _ _ _ hf hP hD hS (lv_sub hl [1, 0] rfl)
set_option maxHeartbeats 4000000 in
set_option maxRecDepth 100000 in
theorem t_X9_comes_0  (X : Fx p s m meth c D cA A RX9 cX9_comes 7 none)  {x1 : Int32} { σ : St} {H : Heap} {locs : List Loc} {ls : Array Slot} (hf : F_X9_comes x1 σ = some (r, σ')) (hP : va_P D vwCl (wM cA ad ta σ) H) (hD : va_D A (wM cA ad ta σ)) (hS : va_S A s.heap H locs) (hl : lv_has ls 7 [(0, .ref (ad 0)), (1, .int x1)]) : W p l e (rm_X9_comes) s m args below meth c H locs 0 0 (MQ below (QV D cA A (wM cA ad) σ' ta) args s 0 0 A) (F0 m 0 ls []) := by
  obtain ⟨hx, hb, hr, hml, hown, hlk, hE, hK, hA⟩ := id X
  rw [F_X9_comes] at hf
  refine lv_aload_n hx hb dX9_comes_0 rfl (lv_at hl 0 rfl) ?_
  refine lv_dup hx hb dX9_comes_1 rfl ?_
  refine gM_Mod_came X hP kw728 dX9_comes_2 ?_
  refine lv_iconst (v := 1) hx hb dX9_comes_5 (by decide) ?_
  refine lv_iadd hx hb dX9_comes_6 ?_
  refine pM_Mod_came X hP hD hS kw728 dX9_comes_7 (fun H locs hP hD hS => ?_)
  obtain ⟨s1, es1, hf⟩ := bd_e hf
  rw [← es1] at hP hD
  refine lv_aload_n hx hb dX9_comes_10 rfl (lv_at hl 0 rfl) ?_
  refine gM_Mod_sought X hP kw729 dX9_comes_11 ?_
  refine lv_iconst (v := -1) hx hb dX9_comes_14 (by decide) ?_
  refine lv_icmp_eq (tgt := 32) hx hb dX9_comes_15 (by decide) (fun c2 => ?_) (fun c2 => ?_)
  · have hf := it_t c2 hf
    exact t_X9_comes_32 X  hf hP hD hS (lv_sub hl [0, 1] rfl)
  · have hf := it_f c2 hf
    refine lv_aload_n hx hb dX9_comes_18 rfl (lv_at hl 0 rfl) ?_
    refine gM_Mod_came X hP kw728 dX9_comes_19 ?_
    refine lv_iconst (v := 1) hx hb dX9_comes_22 (by decide) ?_
    refine lv_isub hx hb dX9_comes_23 ?_
    refine lv_aload_n hx hb dX9_comes_24 rfl (lv_at hl 0 rfl) ?_
    refine gM_Mod_sought X hP kw729 dX9_comes_25 ?_
    refine lv_icmp_eq (tgt := 32) hx hb dX9_comes_28 (by decide) (fun c3 => ?_) (fun c3 => ?_)
    · have hf := it_t c3 hf
      exact t_X9_comes_32 X  hf hP hD hS (lv_sub hl [0, 1] rfl)
    · have hf := it_f c3 hf
      obtain ⟨rfl, rfl⟩ := Prod.mk.inj (Option.some.inj hf)
      exact ret_v X hP hD hS dX9_comes_31
end S_X9_comes
theorem c_X9_comes (l : Launch) (D : va_G) (cA : ClassId) (A : Nat → Prop) (ad : Nat → Nat) (ta : Nat) (σ : St) (x1 : Int32) (r : Int32) (σ' : St) (hf : F_X9_comes x1 σ = some (r, σ')) : MV l D cA A (wM cA ad) yX9_comes cX9_comes 7 none rm_X9_comes [.ref (ad 0), .int x1] ta σ σ' 0 0 := by
  refine enter (by decide) (Nat.le_of_ble_eq_true rfl) ?_
  intro p e s m below meth c ls X hnm hP hD hS hl
  exact t_X9_comes_0 X hf hP hD hS hl
abbrev rm_X9_places : Room := { frames := 0, cells := 0, slots := 0, locals := 0 }
def F_X9_places_5  : Nat → Int32 → Int32 → Int32 → St → Rs
  | 0, _, _, _, _ => none
  | n + 1, x1, x3, x4, σ => if x4 < 0 then (some (x3, σ)) else (ck (inb ((160 * x1) + x4) 3840) (bd (gA σ 6 ((160 * x1) + x4).toNatClampNeg) (fun y3 => F_X9_places_5 n x1 (x3 + 1) y3 σ)))
def F_X9_places (x1 : Int32) (x2 : Int32) (σ : St) : Rs :=
  F_X9_places_5 5000 x1 0 x2 σ
section S_X9_places
variable {p : Program} {l : Launch} {e : Env} {s : State} {m : MethodId} {args : Array Value} {below : List Frame} {meth : Method} {c : Code}
variable {D : va_G} {cA : ClassId} {A : Nat → Prop} {ad : Nat → Nat} {r : Int32} {σ' : St} {ta : Nat}
set_option maxHeartbeats 4000000 in
set_option maxRecDepth 100000 in
theorem t_X9_places_5  (X : Fx p s m meth c D cA A RX9 cX9_places 5 (some .int))  : ∀ (n : Nat) (x1 x3 x4 : Int32) (σ : St) (H : Heap) (locs : List Loc) (ls : Array Slot), F_X9_places_5 n x1 x3 x4 σ = some (r, σ') → va_P D vwCl (wM cA ad ta σ) H → va_D A (wM cA ad ta σ) → va_S A s.heap H locs → lv_has ls 5 [(0, .ref (ad 0)), (1, .int x1), (3, .int x3), (4, .int x4)] → W p l e (rm_X9_places) s m args below meth c H locs 0 0 (MQ below (QI D cA A (wM cA ad) r σ' ta) args s 0 0 A) (F0 m 5 ls []) := by
  obtain ⟨hx, hb, hr, hml, hown, hlk, hE, hK, hA⟩ := id X
  intro n
  induction n with
  | zero =>
    intro x1 x3 x4 σ H locs ls hf
    cases (show (none : Rs) = some _ from hf)
  | succ n ih =>
    intro x1 x3 x4 σ H locs ls hf hP hD hS hl
    rw [F_X9_places_5] at hf
    refine lv_iload hx hb dX9_places_5 (lv_at hl 3 rfl) ?_
    refine lv_if_lt (tgt := 31) hx hb dX9_places_7 (by decide) (fun c1 => ?_) (fun c1 => ?_)
    · have hf := it_t c1 hf
      refine lv_iload_n hx hb dX9_places_31 rfl (lv_at hl 2 rfl) ?_
      obtain ⟨rfl, rfl⟩ := Prod.mk.inj (Option.some.inj hf)
      exact ret_i X hP hD hS dX9_places_32
    · have hf := it_f c1 hf
      refine lv_iinc (v := (x3 + 1)) (lv' := [(3, .int (x3 + 1)), (0, .ref (ad 0)), (1, .int x1), (4, .int x4)]) hx hb dX9_places_10 hl (k := 2) rfl rfl (by decide) rfl (fun ls hl => ?_)
      refine lv_aload_n hx hb dX9_places_13 rfl (lv_at hl 1 rfl) ?_
      refine gM_Mod_up X hP kw690 dX9_places_14 ?_
      refine lv_sipush (v := 160) hx hb dX9_places_17 (by decide) ?_
      refine lv_iload_n hx hb dX9_places_20 rfl (lv_at hl 2 rfl) ?_
      refine lv_imul hx hb dX9_places_21 ?_
      refine lv_iload hx hb dX9_places_22 (lv_at hl 3 rfl) ?_
      refine lv_iadd hx hb dX9_places_24 ?_
      obtain ⟨b2, hf⟩ := ck_e hf
      refine lM_up X hP b2 dX9_places_25 ?_
      refine lv_topi (fun y3 ey3 => ?_)
      have hf := bd_x ey3 hf
      refine lv_istore (lv' := [(4, .int y3), (3, .int (x3 + 1)), (0, .ref (ad 0)), (1, .int x1)]) hx hb dX9_places_26 hl (by decide) rfl (fun ls hl => ?_)
      refine lv_goto (tgt := 5) hx hb dX9_places_28 (by decide) ?_
      exact ih x1 (x3 + 1) y3 σ _ _ _ hf hP hD hS (lv_sub hl [2, 3, 1, 0] rfl)
set_option maxHeartbeats 4000000 in
set_option maxRecDepth 100000 in
theorem t_X9_places_0  (X : Fx p s m meth c D cA A RX9 cX9_places 5 (some .int))  {x1 x2 : Int32} { σ : St} {H : Heap} {locs : List Loc} {ls : Array Slot} (hf : F_X9_places x1 x2 σ = some (r, σ')) (hP : va_P D vwCl (wM cA ad ta σ) H) (hD : va_D A (wM cA ad ta σ)) (hS : va_S A s.heap H locs) (hl : lv_has ls 5 [(0, .ref (ad 0)), (1, .int x1), (2, .int x2)]) : W p l e (rm_X9_places) s m args below meth c H locs 0 0 (MQ below (QI D cA A (wM cA ad) r σ' ta) args s 0 0 A) (F0 m 0 ls []) := by
  obtain ⟨hx, hb, hr, hml, hown, hlk, hE, hK, hA⟩ := id X
  rw [F_X9_places] at hf
  refine lv_iconst (v := 0) hx hb dX9_places_0 (by decide) ?_
  refine lv_istore_n (lv' := [(3, .int 0), (0, .ref (ad 0)), (1, .int x1), (2, .int x2)]) hx hb dX9_places_1 rfl hl (by decide) rfl (fun ls hl => ?_)
  refine lv_iload_n hx hb dX9_places_2 rfl (lv_at hl 3 rfl) ?_
  refine lv_istore (lv' := [(4, .int x2), (3, .int 0), (0, .ref (ad 0)), (1, .int x1), (2, .int x2)]) hx hb dX9_places_3 hl (by decide) rfl (fun ls hl => ?_)
  exact t_X9_places_5 X  5000 x1 0 x2 σ _ _ _ hf hP hD hS (lv_sub hl [2, 3, 1, 0] rfl)
end S_X9_places
theorem c_X9_places (l : Launch) (D : va_G) (cA : ClassId) (A : Nat → Prop) (ad : Nat → Nat) (ta : Nat) (σ : St) (x1 x2 : Int32) (r : Int32) (σ' : St) (hf : F_X9_places x1 x2 σ = some (r, σ')) : MI l D cA A (wM cA ad) yX9_places cX9_places 5 (some .int) rm_X9_places [.ref (ad 0), .int x1, .int x2] ta σ r σ' 0 0 := by
  refine enter (by decide) (Nat.le_of_ble_eq_true rfl) ?_
  intro p e s m below meth c ls X hnm hP hD hS hl
  exact t_X9_places_0 X hf hP hD hS hl
abbrev rm_X9_size : Room := { frames := 0, cells := 0, slots := 0, locals := 0 }
def F_X9_size  (σ : St) : Rs :=
  some ((gF σ 10), σ)
section S_X9_size
variable {p : Program} {l : Launch} {e : Env} {s : State} {m : MethodId} {args : Array Value} {below : List Frame} {meth : Method} {c : Code}
variable {D : va_G} {cA : ClassId} {A : Nat → Prop} {ad : Nat → Nat} {r : Int32} {σ' : St} {ta : Nat}
set_option maxHeartbeats 4000000 in
set_option maxRecDepth 100000 in
theorem t_X9_size_0  (X : Fx p s m meth c D cA A RX9 cX9_size 1 (some .int))  { σ : St} {H : Heap} {locs : List Loc} {ls : Array Slot} (hf : F_X9_size σ = some (r, σ')) (hP : va_P D vwCl (wM cA ad ta σ) H) (hD : va_D A (wM cA ad ta σ)) (hS : va_S A s.heap H locs) (hl : lv_has ls 1 [(0, .ref (ad 0))]) : W p l e (rm_X9_size) s m args below meth c H locs 0 0 (MQ below (QI D cA A (wM cA ad) r σ' ta) args s 0 0 A) (F0 m 0 ls []) := by
  obtain ⟨hx, hb, hr, hml, hown, hlk, hE, hK, hA⟩ := id X
  rw [F_X9_size] at hf
  refine lv_aload_n hx hb dX9_size_0 rfl (lv_at hl 0 rfl) ?_
  refine gM_Mod_nodes X hP kw707 dX9_size_1 ?_
  obtain ⟨rfl, rfl⟩ := Prod.mk.inj (Option.some.inj hf)
  exact ret_i X hP hD hS dX9_size_4
end S_X9_size
theorem c_X9_size (l : Launch) (D : va_G) (cA : ClassId) (A : Nat → Prop) (ad : Nat → Nat) (ta : Nat) (σ : St) (r : Int32) (σ' : St) (hf : F_X9_size σ = some (r, σ')) : MI l D cA A (wM cA ad) yX9_size cX9_size 1 (some .int) rm_X9_size [.ref (ad 0)] ta σ r σ' 0 0 := by
  refine enter (by decide) (Nat.le_of_ble_eq_true rfl) ?_
  intro p e s m below meth c ls X hnm hP hD hS hl
  exact t_X9_size_0 X hf hP hD hS hl
abbrev rm_X9_node_ : Room := { frames := 1, cells := 0, slots := 0, locals := 24 }
def F_X9_node__190 (x1 : Int32) (x4 : Int32) (σ : St) : Rs :=
  ck (inb x1 4000) (bd (gA σ 21 x1.toNatClampNeg) (fun y2 => ck (inb ((160 * y2) + x4) 3840) (bd (gA σ 7 ((160 * y2) + x4).toNatClampNeg) (fun y4 => some (y4, σ)))))
def F_X9_node__156  : Nat → Int32 → Int32 → Int32 → Int32 → St → Rs
  | 0, _, _, _, _, _ => none
  | n + 1, x1, x2, x4, x5, σ => if x5 ≤ (x2 - 5) then (F_X9_node__190 x1 x4 σ) else (ck (inb x1 4000) (bd (gA σ 21 x1.toNatClampNeg) (fun y3 => ck (inb ((160 * y3) + x4) 3840) (bd (gA σ 6 ((160 * y3) + x4).toNatClampNeg) (fun y5 => F_X9_node__156 n x1 x2 y5 (x5 + (-1)) σ)))))
def F_X9_node__49 (x1 : Int32) (x2 : Int32) (z0 : Int32) (σ : St) : Rs :=
  if x2 = 0 then (ck (inb x1 4000) (bd (gA σ 19 x1.toNatClampNeg) (fun y3 => some (y3, σ)))) else (if x2 = 1 then (ck (inb x1 4000) (bd (gA σ 19 x1.toNatClampNeg) (fun y6 => if y6 = 1 then (some (z0, σ)) else (ck (inb x1 4000) (bd (gA σ 20 x1.toNatClampNeg) (fun y9 => some (y9, σ))))))) else (if x2 = 2 then (ck (inb x1 4000) (bd (gA σ 23 x1.toNatClampNeg) (fun y12 => some (y12, σ)))) else (if x2 = 3 then (ck (inb x1 4000) (bd (gA σ 24 x1.toNatClampNeg) (fun y15 => some (y15, σ)))) else (if x2 = 4 then (ck (inb x1 4000) (bd (gA σ 25 x1.toNatClampNeg) (fun y18 => some (y18, σ)))) else (if (x2 - 5) < z0 then (ck (inb x1 4000) (bd (gA σ 22 x1.toNatClampNeg) (fun y21 => bd (z0 - 1) (fun y22 => F_X9_node__156 5000 x1 x2 y21 y22 σ)))) else (some ((-9), σ)))))))
def F_X9_node_ (x1 : Int32) (x2 : Int32) (σ : St) : Rs :=
  if x1 < 0 then (some ((-9), σ)) else (if (gF σ 10) ≤ x1 then (some ((-9), σ)) else (if 0 ≤ x2 then (ck (inb x1 4000) (bd (gA σ 19 x1.toNatClampNeg) (fun y5 => if y5 = 1 then (ck (inb x1 4000) (bd (gA σ 21 x1.toNatClampNeg) (fun y8 => ck (inb x1 4000) (bd (gA σ 22 x1.toNatClampNeg) (fun y10 => bo (F_X9_places y8 y10 σ) (fun r11 s12 => F_X9_node__49 x1 x2 r11 s12)))))) else (F_X9_node__49 x1 x2 0 σ)))) else (some ((-9), σ))))
section S_X9_node_
variable {p : Program} {l : Launch} {e : Env} {s : State} {m : MethodId} {args : Array Value} {below : List Frame} {meth : Method} {c : Code}
variable {D : va_G} {cA : ClassId} {A : Nat → Prop} {ad : Nat → Nat} {r : Int32} {σ' : St} {ta : Nat}
set_option maxHeartbeats 4000000 in
set_option maxRecDepth 100000 in
theorem t_X9_node__190  (X : Fx p s m meth c D cA A RX9 cX9_node_ 6 (some .int))  {x1 x4 : Int32} { σ : St} {H : Heap} {locs : List Loc} {ls : Array Slot} (hf : F_X9_node__190 x1 x4 σ = some (r, σ')) (hP : va_P D vwCl (wM cA ad ta σ) H) (hD : va_D A (wM cA ad ta σ)) (hS : va_S A s.heap H locs) (hl : lv_has ls 6 [(0, .ref (ad 0)), (1, .int x1), (4, .int x4)]) : W p l e (rm_X9_node_) s m args below meth c H locs 0 0 (MQ below (QI D cA A (wM cA ad) r σ' ta) args s 0 0 A) (F0 m 190 ls []) := by
  obtain ⟨hx, hb, hr, hml, hown, hlk, hE, hK, hA⟩ := id X
  rw [F_X9_node__190] at hf
  refine lv_aload_n hx hb dX9_node__190 rfl (lv_at hl 0 rfl) ?_
  refine gM_Mod_at X hP kw691 dX9_node__191 ?_
  refine lv_sipush (v := 160) hx hb dX9_node__194 (by decide) ?_
  refine lv_aload_n hx hb dX9_node__197 rfl (lv_at hl 0 rfl) ?_
  refine gM_Mod_of X hP kw714 dX9_node__198 ?_
  refine lv_iload_n hx hb dX9_node__201 rfl (lv_at hl 1 rfl) ?_
  obtain ⟨b1, hf⟩ := ck_e hf
  refine lM_of X hP b1 dX9_node__202 ?_
  refine lv_topi (fun y2 ey2 => ?_)
  have hf := bd_x ey2 hf
  refine lv_imul hx hb dX9_node__203 ?_
  refine lv_iload hx hb dX9_node__204 (lv_at hl 2 rfl) ?_
  refine lv_iadd hx hb dX9_node__206 ?_
  obtain ⟨b3, hf⟩ := ck_e hf
  refine lM_at X hP b3 dX9_node__207 ?_
  refine lv_topi (fun y4 ey4 => ?_)
  have hf := bd_x ey4 hf
  obtain ⟨rfl, rfl⟩ := Prod.mk.inj (Option.some.inj hf)
  exact ret_i X hP hD hS dX9_node__208
set_option maxHeartbeats 4000000 in
set_option maxRecDepth 100000 in
theorem t_X9_node__156  (X : Fx p s m meth c D cA A RX9 cX9_node_ 6 (some .int))  : ∀ (n : Nat) (x1 x2 x4 x5 : Int32) (σ : St) (H : Heap) (locs : List Loc) (ls : Array Slot), F_X9_node__156 n x1 x2 x4 x5 σ = some (r, σ') → va_P D vwCl (wM cA ad ta σ) H → va_D A (wM cA ad ta σ) → va_S A s.heap H locs → lv_has ls 6 [(0, .ref (ad 0)), (1, .int x1), (2, .int x2), (4, .int x4), (5, .int x5)] → W p l e (rm_X9_node_) s m args below meth c H locs 0 0 (MQ below (QI D cA A (wM cA ad) r σ' ta) args s 0 0 A) (F0 m 156 ls []) := by
  obtain ⟨hx, hb, hr, hml, hown, hlk, hE, hK, hA⟩ := id X
  intro n
  induction n with
  | zero =>
    intro x1 x2 x4 x5 σ H locs ls hf
    cases (show (none : Rs) = some _ from hf)
  | succ n ih =>
    intro x1 x2 x4 x5 σ H locs ls hf hP hD hS hl
    rw [F_X9_node__156] at hf
    refine lv_iload hx hb dX9_node__156 (lv_at hl 4 rfl) ?_
    refine lv_iload_n hx hb dX9_node__158 rfl (lv_at hl 2 rfl) ?_
    refine lv_iconst (v := 5) hx hb dX9_node__159 (by decide) ?_
    refine lv_isub hx hb dX9_node__160 ?_
    refine lv_icmp_le (tgt := 190) hx hb dX9_node__161 (by decide) (fun c1 => ?_) (fun c1 => ?_)
    · have hf := it_t c1 hf
      exact t_X9_node__190 X  hf hP hD hS (lv_sub hl [0, 1, 3] rfl)
    · have hf := it_f c1 hf
      refine lv_aload_n hx hb dX9_node__164 rfl (lv_at hl 0 rfl) ?_
      refine gM_Mod_up X hP kw690 dX9_node__165 ?_
      refine lv_sipush (v := 160) hx hb dX9_node__168 (by decide) ?_
      refine lv_aload_n hx hb dX9_node__171 rfl (lv_at hl 0 rfl) ?_
      refine gM_Mod_of X hP kw714 dX9_node__172 ?_
      refine lv_iload_n hx hb dX9_node__175 rfl (lv_at hl 1 rfl) ?_
      obtain ⟨b2, hf⟩ := ck_e hf
      refine lM_of X hP b2 dX9_node__176 ?_
      refine lv_topi (fun y3 ey3 => ?_)
      have hf := bd_x ey3 hf
      refine lv_imul hx hb dX9_node__177 ?_
      refine lv_iload hx hb dX9_node__178 (lv_at hl 3 rfl) ?_
      refine lv_iadd hx hb dX9_node__180 ?_
      obtain ⟨b4, hf⟩ := ck_e hf
      refine lM_up X hP b4 dX9_node__181 ?_
      refine lv_topi (fun y5 ey5 => ?_)
      have hf := bd_x ey5 hf
      refine lv_istore (lv' := [(4, .int y5), (0, .ref (ad 0)), (1, .int x1), (2, .int x2), (5, .int x5)]) hx hb dX9_node__182 hl (by decide) rfl (fun ls hl => ?_)
      refine lv_iinc (v := (x5 + (-1))) (lv' := [(5, .int (x5 + (-1))), (4, .int y5), (0, .ref (ad 0)), (1, .int x1), (2, .int x2)]) hx hb dX9_node__184 hl (k := 4) rfl rfl (by decide) rfl (fun ls hl => ?_)
      refine lv_goto (tgt := 156) hx hb dX9_node__187 (by decide) ?_
      exact ih x1 x2 y5 (x5 + (-1)) σ _ _ _ hf hP hD hS (lv_sub hl [2, 3, 4, 1, 0] rfl)
set_option maxHeartbeats 4000000 in
set_option maxRecDepth 100000 in
theorem t_X9_node__49  (X : Fx p s m meth c D cA A RX9 cX9_node_ 6 (some .int))  {x1 x2 z0 : Int32} { σ : St} {H : Heap} {locs : List Loc} {ls : Array Slot} (hf : F_X9_node__49 x1 x2 z0 σ = some (r, σ')) (hP : va_P D vwCl (wM cA ad ta σ) H) (hD : va_D A (wM cA ad ta σ)) (hS : va_S A s.heap H locs) (hl : lv_has ls 6 [(0, .ref (ad 0)), (1, .int x1), (2, .int x2)]) : W p l e (rm_X9_node_) s m args below meth c H locs 0 0 (MQ below (QI D cA A (wM cA ad) r σ' ta) args s 0 0 A) (F0 m 49 ls [.int z0]) := by
  obtain ⟨hx, hb, hr, hml, hown, hlk, hE, hK, hA⟩ := id X
  rw [F_X9_node__49] at hf
  refine lv_istore_n (lv' := [(3, .int z0), (0, .ref (ad 0)), (1, .int x1), (2, .int x2)]) hx hb dX9_node__49 rfl hl (by decide) rfl (fun ls hl => ?_)
  refine lv_iload_n hx hb dX9_node__50 rfl (lv_at hl 3 rfl) ?_
  by_cases c1 : x2 = 0
  · have hf := it_t c1 hf
    refine lv_tableIn (off := 33) (tgt := 84) hx hb dX9_node__51 (by rw [c1]; decide) (by rw [c1]; decide) (by rw [c1]; decide) (by decide) ?_
    refine lv_aload_n hx hb dX9_node__84 rfl (lv_at hl 1 rfl) ?_
    refine gM_Mod_sort X hP kw712 dX9_node__85 ?_
    refine lv_iload_n hx hb dX9_node__88 rfl (lv_at hl 2 rfl) ?_
    obtain ⟨b2, hf⟩ := ck_e hf
    refine lM_sort X hP b2 dX9_node__89 ?_
    refine lv_topi (fun y3 ey3 => ?_)
    have hf := bd_x ey3 hf
    obtain ⟨rfl, rfl⟩ := Prod.mk.inj (Option.some.inj hf)
    exact ret_i X hP hD hS dX9_node__90
  have hf := it_f c1 hf
  by_cases c4 : x2 = 1
  · have hf := it_t c4 hf
    refine lv_tableIn (off := 40) (tgt := 91) hx hb dX9_node__51 (by rw [c4]; decide) (by rw [c4]; decide) (by rw [c4]; decide) (by decide) ?_
    refine lv_aload_n hx hb dX9_node__91 rfl (lv_at hl 1 rfl) ?_
    refine gM_Mod_sort X hP kw712 dX9_node__92 ?_
    refine lv_iload_n hx hb dX9_node__95 rfl (lv_at hl 2 rfl) ?_
    obtain ⟨b5, hf⟩ := ck_e hf
    refine lM_sort X hP b5 dX9_node__96 ?_
    refine lv_topi (fun y6 ey6 => ?_)
    have hf := bd_x ey6 hf
    refine lv_iconst (v := 1) hx hb dX9_node__97 (by decide) ?_
    refine lv_icmp_ne (tgt := 105) hx hb dX9_node__98 (by decide) (fun c7 => ?_) (fun c7 => ?_)
    · have hf := it_f c7 hf
      refine lv_aload_n hx hb dX9_node__105 rfl (lv_at hl 1 rfl) ?_
      refine gM_Mod_leaf X hP kw713 dX9_node__106 ?_
      refine lv_iload_n hx hb dX9_node__109 rfl (lv_at hl 2 rfl) ?_
      obtain ⟨b8, hf⟩ := ck_e hf
      refine lM_leaf X hP b8 dX9_node__110 ?_
      refine lv_topi (fun y9 ey9 => ?_)
      have hf := bd_x ey9 hf
      obtain ⟨rfl, rfl⟩ := Prod.mk.inj (Option.some.inj hf)
      exact ret_i X hP hD hS dX9_node__111
    · have hf := it_t c7 hf
      refine lv_iload_n hx hb dX9_node__101 rfl (lv_at hl 0 rfl) ?_
      refine lv_goto (tgt := 111) hx hb dX9_node__102 (by decide) ?_
      obtain ⟨rfl, rfl⟩ := Prod.mk.inj (Option.some.inj hf)
      exact ret_i X hP hD hS dX9_node__111
  have hf := it_f c4 hf
  by_cases c10 : x2 = 2
  · have hf := it_t c10 hf
    refine lv_tableIn (off := 61) (tgt := 112) hx hb dX9_node__51 (by rw [c10]; decide) (by rw [c10]; decide) (by rw [c10]; decide) (by decide) ?_
    refine lv_aload_n hx hb dX9_node__112 rfl (lv_at hl 1 rfl) ?_
    refine gM_Mod_many0 X hP kw716 dX9_node__113 ?_
    refine lv_iload_n hx hb dX9_node__116 rfl (lv_at hl 2 rfl) ?_
    obtain ⟨b11, hf⟩ := ck_e hf
    refine lM_many0 X hP b11 dX9_node__117 ?_
    refine lv_topi (fun y12 ey12 => ?_)
    have hf := bd_x ey12 hf
    obtain ⟨rfl, rfl⟩ := Prod.mk.inj (Option.some.inj hf)
    exact ret_i X hP hD hS dX9_node__118
  have hf := it_f c10 hf
  by_cases c13 : x2 = 3
  · have hf := it_t c13 hf
    refine lv_tableIn (off := 68) (tgt := 119) hx hb dX9_node__51 (by rw [c13]; decide) (by rw [c13]; decide) (by rw [c13]; decide) (by decide) ?_
    refine lv_aload_n hx hb dX9_node__119 rfl (lv_at hl 1 rfl) ?_
    refine gM_Mod_by X hP kw717 dX9_node__120 ?_
    refine lv_iload_n hx hb dX9_node__123 rfl (lv_at hl 2 rfl) ?_
    obtain ⟨b14, hf⟩ := ck_e hf
    refine lM_by X hP b14 dX9_node__124 ?_
    refine lv_topi (fun y15 ey15 => ?_)
    have hf := bd_x ey15 hf
    obtain ⟨rfl, rfl⟩ := Prod.mk.inj (Option.some.inj hf)
    exact ret_i X hP hD hS dX9_node__125
  have hf := it_f c13 hf
  by_cases c16 : x2 = 4
  · have hf := it_t c16 hf
    refine lv_tableIn (off := 75) (tgt := 126) hx hb dX9_node__51 (by rw [c16]; decide) (by rw [c16]; decide) (by rw [c16]; decide) (by decide) ?_
    refine lv_aload_n hx hb dX9_node__126 rfl (lv_at hl 1 rfl) ?_
    refine gM_Mod_deep X hP kw718 dX9_node__127 ?_
    refine lv_iload_n hx hb dX9_node__130 rfl (lv_at hl 2 rfl) ?_
    obtain ⟨b17, hf⟩ := ck_e hf
    refine lM_deep X hP b17 dX9_node__131 ?_
    refine lv_topi (fun y18 ey18 => ?_)
    have hf := bd_x ey18 hf
    obtain ⟨rfl, rfl⟩ := Prod.mk.inj (Option.some.inj hf)
    exact ret_i X hP hD hS dX9_node__132
  have hf := it_f c16 hf
  refine lv_tableOut (tgt := 133) hx hb dX9_node__51 (by have qc1 := lv_neT c1 (a := 0) rfl; have qc4 := lv_neT c4 (a := 1) rfl; have qc10 := lv_neT c10 (a := 2) rfl; have qc13 := lv_neT c13 (a := 3) rfl; have qc16 := lv_neT c16 (a := 4) rfl; omega) (by decide) ?_
  refine lv_iload_n hx hb dX9_node__133 rfl (lv_at hl 3 rfl) ?_
  refine lv_iconst (v := 5) hx hb dX9_node__134 (by decide) ?_
  refine lv_isub hx hb dX9_node__135 ?_
  refine lv_iload_n hx hb dX9_node__136 rfl (lv_at hl 0 rfl) ?_
  refine lv_icmp_lt (tgt := 143) hx hb dX9_node__137 (by decide) (fun c19 => ?_) (fun c19 => ?_)
  · have hf := it_t c19 hf
    refine lv_aload_n hx hb dX9_node__143 rfl (lv_at hl 1 rfl) ?_
    refine gM_Mod_spot X hP kw715 dX9_node__144 ?_
    refine lv_iload_n hx hb dX9_node__147 rfl (lv_at hl 2 rfl) ?_
    obtain ⟨b20, hf⟩ := ck_e hf
    refine lM_spot X hP b20 dX9_node__148 ?_
    refine lv_topi (fun y21 ey21 => ?_)
    have hf := bd_x ey21 hf
    refine lv_istore (lv' := [(4, .int y21), (3, .int z0), (0, .ref (ad 0)), (1, .int x1), (2, .int x2)]) hx hb dX9_node__149 hl (by decide) rfl (fun ls hl => ?_)
    refine lv_iload_n hx hb dX9_node__151 rfl (lv_at hl 1 rfl) ?_
    refine lv_iconst (v := 1) hx hb dX9_node__152 (by decide) ?_
    refine lv_isub hx hb dX9_node__153 ?_
    refine lv_topi (fun y22 ey22 => ?_)
    have hf := bd_x ey22 hf
    refine lv_istore (lv' := [(5, .int y22), (4, .int y21), (3, .int z0), (0, .ref (ad 0)), (1, .int x1), (2, .int x2)]) hx hb dX9_node__154 hl (by decide) rfl (fun ls hl => ?_)
    exact t_X9_node__156 X  5000 x1 x2 y21 y22 σ _ _ _ hf hP hD hS (lv_sub hl [3, 4, 5, 1, 0] rfl)
  · have hf := it_f c19 hf
    refine lv_bipush (v := -9) hx hb dX9_node__140 (by decide) ?_
    obtain ⟨rfl, rfl⟩ := Prod.mk.inj (Option.some.inj hf)
    exact ret_i X hP hD hS dX9_node__142
set_option maxHeartbeats 4000000 in
set_option maxRecDepth 100000 in
theorem t_X9_node__0  (X : Fx p s m meth c D cA A RX9 cX9_node_ 6 (some .int))  {x1 x2 : Int32} { σ : St} {H : Heap} {locs : List Loc} {ls : Array Slot} (hf : F_X9_node_ x1 x2 σ = some (r, σ')) (hP : va_P D vwCl (wM cA ad ta σ) H) (hD : va_D A (wM cA ad ta σ)) (hS : va_S A s.heap H locs) (hl : lv_has ls 6 [(0, .ref (ad 0)), (1, .int x1), (2, .int x2)]) : W p l e (rm_X9_node_) s m args below meth c H locs 0 0 (MQ below (QI D cA A (wM cA ad) r σ' ta) args s 0 0 A) (F0 m 0 ls []) := by
  obtain ⟨hx, hb, hr, hml, hown, hlk, hE, hK, hA⟩ := id X
  rw [F_X9_node_] at hf
  refine lv_iload_n hx hb dX9_node__0 rfl (lv_at hl 1 rfl) ?_
  refine lv_if_lt (tgt := 16) hx hb dX9_node__1 (by decide) (fun c1 => ?_) (fun c1 => ?_)
  · have hf := it_t c1 hf
    refine lv_bipush (v := -9) hx hb dX9_node__16 (by decide) ?_
    obtain ⟨rfl, rfl⟩ := Prod.mk.inj (Option.some.inj hf)
    exact ret_i X hP hD hS dX9_node__18
  · have hf := it_f c1 hf
    refine lv_iload_n hx hb dX9_node__4 rfl (lv_at hl 1 rfl) ?_
    refine lv_aload_n hx hb dX9_node__5 rfl (lv_at hl 0 rfl) ?_
    refine gM_Mod_nodes X hP kw707 dX9_node__6 ?_
    refine lv_icmp_ge (tgt := 16) hx hb dX9_node__9 (by decide) (fun c2 => ?_) (fun c2 => ?_)
    · have hf := it_t c2 hf
      refine lv_bipush (v := -9) hx hb dX9_node__16 (by decide) ?_
      obtain ⟨rfl, rfl⟩ := Prod.mk.inj (Option.some.inj hf)
      exact ret_i X hP hD hS dX9_node__18
    · have hf := it_f c2 hf
      refine lv_iload_n hx hb dX9_node__12 rfl (lv_at hl 2 rfl) ?_
      refine lv_if_ge (tgt := 19) hx hb dX9_node__13 (by decide) (fun c3 => ?_) (fun c3 => ?_)
      · have hf := it_t c3 hf
        refine lv_aload_n hx hb dX9_node__19 rfl (lv_at hl 0 rfl) ?_
        refine gM_Mod_sort X hP kw712 dX9_node__20 ?_
        refine lv_iload_n hx hb dX9_node__23 rfl (lv_at hl 1 rfl) ?_
        obtain ⟨b4, hf⟩ := ck_e hf
        refine lM_sort X hP b4 dX9_node__24 ?_
        refine lv_topi (fun y5 ey5 => ?_)
        have hf := bd_x ey5 hf
        refine lv_iconst (v := 1) hx hb dX9_node__25 (by decide) ?_
        refine lv_icmp_ne (tgt := 48) hx hb dX9_node__26 (by decide) (fun c6 => ?_) (fun c6 => ?_)
        · have hf := it_f c6 hf
          refine lv_iconst (v := 0) hx hb dX9_node__48 (by decide) ?_
          exact t_X9_node__49 X  hf hP hD hS (lv_sub hl [0, 1, 2] rfl)
        · have hf := it_t c6 hf
          refine lv_aload_n hx hb dX9_node__29 rfl (lv_at hl 0 rfl) ?_
          refine lv_aload_n hx hb dX9_node__30 rfl (lv_at hl 0 rfl) ?_
          refine gM_Mod_of X hP kw714 dX9_node__31 ?_
          refine lv_iload_n hx hb dX9_node__34 rfl (lv_at hl 1 rfl) ?_
          obtain ⟨b7, hf⟩ := ck_e hf
          refine lM_of X hP b7 dX9_node__35 ?_
          refine lv_topi (fun y8 ey8 => ?_)
          have hf := bd_x ey8 hf
          refine lv_aload_n hx hb dX9_node__36 rfl (lv_at hl 0 rfl) ?_
          refine gM_Mod_spot X hP kw715 dX9_node__37 ?_
          refine lv_iload_n hx hb dX9_node__40 rfl (lv_at hl 1 rfl) ?_
          obtain ⟨b9, hf⟩ := ck_e hf
          refine lM_spot X hP b9 dX9_node__41 ?_
          refine lv_topi (fun y10 ey10 => ?_)
          have hf := bd_x ey10 hf
          obtain ⟨r11, s12, h13, hf⟩ := bo_e hf
          refine callV_i X cv_X9_places kw987 (c_X9_places l D cA A ad ta σ y8 y10 r11 s12 h13) ⟨by decide, by decide⟩ ⟨rfl, rfl⟩ hP hD hS (q0 := 0) (ci := 9) rfl rfl rfl rfl hl rfl (Nat.le_of_ble_eq_true rfl) dX9_node__42 ⟨by decide, by decide⟩ (fun H locs hP hD hS => ?_)
          refine lv_goto (tgt := 49) hx hb dX9_node__45 (by decide) ?_
          exact t_X9_node__49 X  hf hP hD hS (lv_sub hl [0, 1, 2] rfl)
      · have hf := it_f c3 hf
        refine lv_bipush (v := -9) hx hb dX9_node__16 (by decide) ?_
        obtain ⟨rfl, rfl⟩ := Prod.mk.inj (Option.some.inj hf)
        exact ret_i X hP hD hS dX9_node__18
end S_X9_node_
theorem c_X9_node_ (l : Launch) (D : va_G) (cA : ClassId) (A : Nat → Prop) (ad : Nat → Nat) (ta : Nat) (σ : St) (x1 x2 : Int32) (r : Int32) (σ' : St) (hf : F_X9_node_ x1 x2 σ = some (r, σ')) : MI l D cA A (wM cA ad) yX9_node_ cX9_node_ 6 (some .int) rm_X9_node_ [.ref (ad 0), .int x1, .int x2] ta σ r σ' 0 0 := by
  refine enter (by decide) (Nat.le_of_ble_eq_true rfl) ?_
  intro p e s m below meth c ls X hnm hP hD hS hl
  exact t_X9_node__0 X hf hP hD hS hl
abbrev rm_X9_clash : Room := { frames := 0, cells := 0, slots := 0, locals := 0 }
def F_X9_clash_155 (k31 : Int32 → Int32 → Int32 → Int32 → St → Rs) (x1 : Int32) (x2 : Int32) (x3 : Int32) (z0 : Int32) (σ : St) : Rs :=
  k31 x1 x2 x3 z0 σ
def F_X9_clash_129 (k31 : Int32 → Int32 → Int32 → Int32 → St → Rs) (x1 : Int32) (x2 : Int32) (x4 : Int32) (x7 : Int32) (z0 : Int32) (σ : St) : Rs :=
  if x7 = 0 then (ck (inb ((160 * x2) + x4) 3840) (bd (gA σ 8 ((160 * x2) + x4).toNatClampNeg) (fun y3 => F_X9_clash_155 k31 x1 x2 z0 y3 σ))) else (F_X9_clash_155 k31 x1 x2 z0 (x4 + 1) σ)
def F_X9_clash_104 (k31 : Int32 → Int32 → Int32 → Int32 → St → Rs) (x1 : Int32) (x2 : Int32) (x3 : Int32) (x4 : Int32) (z0 : Int32) (σ : St) : Rs :=
  if z0 = 0 then (ck (inb ((160 * x1) + x3) 3840) (bd (gA σ 8 ((160 * x1) + x3).toNatClampNeg) (fun y3 => F_X9_clash_129 k31 x1 x2 x4 z0 y3 σ))) else (F_X9_clash_129 k31 x1 x2 x4 z0 (x3 + 1) σ)
def F_X9_clash_103 (k31 : Int32 → Int32 → Int32 → Int32 → St → Rs) (x1 : Int32) (x2 : Int32) (x3 : Int32) (x4 : Int32) (σ : St) : Rs :=
  F_X9_clash_104 k31 x1 x2 x3 x4 0 σ
def F_X9_clash_89 (k31 : Int32 → Int32 → Int32 → Int32 → St → Rs) (x1 : Int32) (x2 : Int32) (x3 : Int32) (x4 : Int32) (x5 : Int32) (x6 : Int32) (σ : St) : Rs :=
  if x5 < 0 then (F_X9_clash_103 k31 x1 x2 x3 x4 σ) else (if x6 < 0 then (F_X9_clash_103 k31 x1 x2 x3 x4 σ) else (F_X9_clash_104 k31 x1 x2 x3 x4 1 σ))
def F_X9_clash_31  : Nat → Int32 → Int32 → Int32 → Int32 → St → Rs
  | 0, _, _, _, _, _ => none
  | n + 1, x1, x2, x3, x4, σ => ck (inb x1 24) (bd (gA σ 9 x1.toNatClampNeg) (fun y2 => if y2 ≤ x3 then (ck (isB 1) (some (1, σ))) else (ck (inb ((160 * x1) + x3) 3840) (bd (gA σ 5 ((160 * x1) + x3).toNatClampNeg) (fun y6 => ck (inb ((160 * x2) + x4) 3840) (bd (gA σ 5 ((160 * x2) + x4).toNatClampNeg) (fun y8 => if y6 < 0 then (F_X9_clash_89 (F_X9_clash_31 n) x1 x2 x3 x4 y6 y8 σ) else (if y8 < 0 then (F_X9_clash_89 (F_X9_clash_31 n) x1 x2 x3 x4 y6 y8 σ) else (if y6 = y8 then (F_X9_clash_89 (F_X9_clash_31 n) x1 x2 x3 x4 y6 y8 σ) else (ck (isB 0) (some (0, σ))))))))))))
def F_X9_clash (x1 : Int32) (x2 : Int32) (σ : St) : Rs :=
  if x1 < 0 then (ck (isB 0) (some (0, σ))) else (if x2 < 0 then (ck (isB 0) (some (0, σ))) else (if (gF σ 4) ≤ x1 then (ck (isB 0) (some (0, σ))) else (if x2 < (gF σ 4) then (F_X9_clash_31 5000 x1 x2 0 0 σ) else (ck (isB 0) (some (0, σ))))))
section S_X9_clash
variable {p : Program} {l : Launch} {e : Env} {s : State} {m : MethodId} {args : Array Value} {below : List Frame} {meth : Method} {c : Code}
variable {D : va_G} {cA : ClassId} {A : Nat → Prop} {ad : Nat → Nat} {r : Int32} {σ' : St} {ta : Nat}
set_option maxHeartbeats 4000000 in
set_option maxRecDepth 100000 in
theorem t_X9_clash_155 {k31 : Int32 → Int32 → Int32 → Int32 → St → Rs} (X : Fx p s m meth c D cA A RX9 cX9_clash 8 (some .boolean)) (K31 : ∀ (x1 x2 x3 x4 : Int32) (σ : St) (H : Heap) (locs : List Loc) (ls : Array Slot), k31 x1 x2 x3 x4 σ = some (r, σ') → va_P D vwCl (wM cA ad ta σ) H → va_D A (wM cA ad ta σ) → va_S A s.heap H locs → lv_has ls 8 [(0, .ref (ad 0)), (1, .int x1), (2, .int x2), (3, .int x3), (4, .int x4)] → W p l e (rm_X9_clash) s m args below meth c H locs 0 0 (MQ below (QI D cA A (wM cA ad) r σ' ta) args s 0 0 A) (F0 m 31 ls [])) {x1 x2 x3 z0 : Int32} { σ : St} {H : Heap} {locs : List Loc} {ls : Array Slot} (hf : F_X9_clash_155 k31 x1 x2 x3 z0 σ = some (r, σ')) (hP : va_P D vwCl (wM cA ad ta σ) H) (hD : va_D A (wM cA ad ta σ)) (hS : va_S A s.heap H locs) (hl : lv_has ls 8 [(0, .ref (ad 0)), (1, .int x1), (2, .int x2), (3, .int x3)]) : W p l e (rm_X9_clash) s m args below meth c H locs 0 0 (MQ below (QI D cA A (wM cA ad) r σ' ta) args s 0 0 A) (F0 m 155 ls [.int z0]) := by
  obtain ⟨hx, hb, hr, hml, hown, hlk, hE, hK, hA⟩ := id X
  rw [F_X9_clash_155] at hf
  refine lv_istore (lv' := [(4, .int z0), (0, .ref (ad 0)), (1, .int x1), (2, .int x2), (3, .int x3)]) hx hb dX9_clash_155 hl (by decide) rfl (fun ls hl => ?_)
  refine lv_goto (tgt := 31) hx hb dX9_clash_157 (by decide) ?_
  exact K31 x1 x2 x3 z0 σ _ _ _ hf hP hD hS (lv_sub hl [1, 2, 3, 4, 0] rfl)
set_option maxHeartbeats 4000000 in
set_option maxRecDepth 100000 in
theorem t_X9_clash_129 {k31 : Int32 → Int32 → Int32 → Int32 → St → Rs} (X : Fx p s m meth c D cA A RX9 cX9_clash 8 (some .boolean)) (K31 : ∀ (x1 x2 x3 x4 : Int32) (σ : St) (H : Heap) (locs : List Loc) (ls : Array Slot), k31 x1 x2 x3 x4 σ = some (r, σ') → va_P D vwCl (wM cA ad ta σ) H → va_D A (wM cA ad ta σ) → va_S A s.heap H locs → lv_has ls 8 [(0, .ref (ad 0)), (1, .int x1), (2, .int x2), (3, .int x3), (4, .int x4)] → W p l e (rm_X9_clash) s m args below meth c H locs 0 0 (MQ below (QI D cA A (wM cA ad) r σ' ta) args s 0 0 A) (F0 m 31 ls [])) {x1 x2 x4 x7 z0 : Int32} { σ : St} {H : Heap} {locs : List Loc} {ls : Array Slot} (hf : F_X9_clash_129 k31 x1 x2 x4 x7 z0 σ = some (r, σ')) (hP : va_P D vwCl (wM cA ad ta σ) H) (hD : va_D A (wM cA ad ta σ)) (hS : va_S A s.heap H locs) (hl : lv_has ls 8 [(0, .ref (ad 0)), (1, .int x1), (2, .int x2), (4, .int x4), (7, .int x7)]) : W p l e (rm_X9_clash) s m args below meth c H locs 0 0 (MQ below (QI D cA A (wM cA ad) r σ' ta) args s 0 0 A) (F0 m 129 ls [.int z0]) := by
  obtain ⟨hx, hb, hr, hml, hown, hlk, hE, hK, hA⟩ := id X
  rw [F_X9_clash_129] at hf
  refine lv_istore_n (lv' := [(3, .int z0), (0, .ref (ad 0)), (1, .int x1), (2, .int x2), (4, .int x4), (7, .int x7)]) hx hb dX9_clash_129 rfl hl (by decide) rfl (fun ls hl => ?_)
  refine lv_iload hx hb dX9_clash_130 (lv_at hl 5 rfl) ?_
  refine lv_if_eq (tgt := 142) hx hb dX9_clash_132 (by decide) (fun c1 => ?_) (fun c1 => ?_)
  · have hf := it_t c1 hf
    refine lv_aload_n hx hb dX9_clash_142 rfl (lv_at hl 1 rfl) ?_
    refine gM_Mod_end X hP kw692 dX9_clash_143 ?_
    refine lv_sipush (v := 160) hx hb dX9_clash_146 (by decide) ?_
    refine lv_iload_n hx hb dX9_clash_149 rfl (lv_at hl 3 rfl) ?_
    refine lv_imul hx hb dX9_clash_150 ?_
    refine lv_iload hx hb dX9_clash_151 (lv_at hl 4 rfl) ?_
    refine lv_iadd hx hb dX9_clash_153 ?_
    obtain ⟨b2, hf⟩ := ck_e hf
    refine lM_end X hP b2 dX9_clash_154 ?_
    refine lv_topi (fun y3 ey3 => ?_)
    have hf := bd_x ey3 hf
    exact t_X9_clash_155 X K31 hf hP hD hS (lv_sub hl [1, 2, 3, 0] rfl)
  · have hf := it_f c1 hf
    refine lv_iload hx hb dX9_clash_135 (lv_at hl 4 rfl) ?_
    refine lv_iconst (v := 1) hx hb dX9_clash_137 (by decide) ?_
    refine lv_iadd hx hb dX9_clash_138 ?_
    refine lv_goto (tgt := 155) hx hb dX9_clash_139 (by decide) ?_
    exact t_X9_clash_155 X K31 hf hP hD hS (lv_sub hl [1, 2, 3, 0] rfl)
set_option maxHeartbeats 4000000 in
set_option maxRecDepth 100000 in
theorem t_X9_clash_104 {k31 : Int32 → Int32 → Int32 → Int32 → St → Rs} (X : Fx p s m meth c D cA A RX9 cX9_clash 8 (some .boolean)) (K31 : ∀ (x1 x2 x3 x4 : Int32) (σ : St) (H : Heap) (locs : List Loc) (ls : Array Slot), k31 x1 x2 x3 x4 σ = some (r, σ') → va_P D vwCl (wM cA ad ta σ) H → va_D A (wM cA ad ta σ) → va_S A s.heap H locs → lv_has ls 8 [(0, .ref (ad 0)), (1, .int x1), (2, .int x2), (3, .int x3), (4, .int x4)] → W p l e (rm_X9_clash) s m args below meth c H locs 0 0 (MQ below (QI D cA A (wM cA ad) r σ' ta) args s 0 0 A) (F0 m 31 ls [])) {x1 x2 x3 x4 z0 : Int32} { σ : St} {H : Heap} {locs : List Loc} {ls : Array Slot} (hf : F_X9_clash_104 k31 x1 x2 x3 x4 z0 σ = some (r, σ')) (hP : va_P D vwCl (wM cA ad ta σ) H) (hD : va_D A (wM cA ad ta σ)) (hS : va_S A s.heap H locs) (hl : lv_has ls 8 [(0, .ref (ad 0)), (1, .int x1), (2, .int x2), (3, .int x3), (4, .int x4)]) : W p l e (rm_X9_clash) s m args below meth c H locs 0 0 (MQ below (QI D cA A (wM cA ad) r σ' ta) args s 0 0 A) (F0 m 104 ls [.int z0]) := by
  obtain ⟨hx, hb, hr, hml, hown, hlk, hE, hK, hA⟩ := id X
  rw [F_X9_clash_104] at hf
  refine lv_istore (lv' := [(7, .int z0), (0, .ref (ad 0)), (1, .int x1), (2, .int x2), (3, .int x3), (4, .int x4)]) hx hb dX9_clash_104 hl (by decide) rfl (fun ls hl => ?_)
  refine lv_iload hx hb dX9_clash_106 (lv_at hl 0 rfl) ?_
  refine lv_if_eq (tgt := 117) hx hb dX9_clash_108 (by decide) (fun c1 => ?_) (fun c1 => ?_)
  · have hf := it_t c1 hf
    refine lv_aload_n hx hb dX9_clash_117 rfl (lv_at hl 1 rfl) ?_
    refine gM_Mod_end X hP kw692 dX9_clash_118 ?_
    refine lv_sipush (v := 160) hx hb dX9_clash_121 (by decide) ?_
    refine lv_iload_n hx hb dX9_clash_124 rfl (lv_at hl 2 rfl) ?_
    refine lv_imul hx hb dX9_clash_125 ?_
    refine lv_iload_n hx hb dX9_clash_126 rfl (lv_at hl 4 rfl) ?_
    refine lv_iadd hx hb dX9_clash_127 ?_
    obtain ⟨b2, hf⟩ := ck_e hf
    refine lM_end X hP b2 dX9_clash_128 ?_
    refine lv_topi (fun y3 ey3 => ?_)
    have hf := bd_x ey3 hf
    exact t_X9_clash_129 X K31 hf hP hD hS (lv_sub hl [1, 2, 3, 5, 0] rfl)
  · have hf := it_f c1 hf
    refine lv_iload_n hx hb dX9_clash_111 rfl (lv_at hl 4 rfl) ?_
    refine lv_iconst (v := 1) hx hb dX9_clash_112 (by decide) ?_
    refine lv_iadd hx hb dX9_clash_113 ?_
    refine lv_goto (tgt := 129) hx hb dX9_clash_114 (by decide) ?_
    exact t_X9_clash_129 X K31 hf hP hD hS (lv_sub hl [1, 2, 3, 5, 0] rfl)
set_option maxHeartbeats 4000000 in
set_option maxRecDepth 100000 in
theorem t_X9_clash_103 {k31 : Int32 → Int32 → Int32 → Int32 → St → Rs} (X : Fx p s m meth c D cA A RX9 cX9_clash 8 (some .boolean)) (K31 : ∀ (x1 x2 x3 x4 : Int32) (σ : St) (H : Heap) (locs : List Loc) (ls : Array Slot), k31 x1 x2 x3 x4 σ = some (r, σ') → va_P D vwCl (wM cA ad ta σ) H → va_D A (wM cA ad ta σ) → va_S A s.heap H locs → lv_has ls 8 [(0, .ref (ad 0)), (1, .int x1), (2, .int x2), (3, .int x3), (4, .int x4)] → W p l e (rm_X9_clash) s m args below meth c H locs 0 0 (MQ below (QI D cA A (wM cA ad) r σ' ta) args s 0 0 A) (F0 m 31 ls [])) {x1 x2 x3 x4 : Int32} { σ : St} {H : Heap} {locs : List Loc} {ls : Array Slot} (hf : F_X9_clash_103 k31 x1 x2 x3 x4 σ = some (r, σ')) (hP : va_P D vwCl (wM cA ad ta σ) H) (hD : va_D A (wM cA ad ta σ)) (hS : va_S A s.heap H locs) (hl : lv_has ls 8 [(0, .ref (ad 0)), (1, .int x1), (2, .int x2), (3, .int x3), (4, .int x4)]) : W p l e (rm_X9_clash) s m args below meth c H locs 0 0 (MQ below (QI D cA A (wM cA ad) r σ' ta) args s 0 0 A) (F0 m 103 ls []) := by
  obtain ⟨hx, hb, hr, hml, hown, hlk, hE, hK, hA⟩ := id X
  rw [F_X9_clash_103] at hf
  refine lv_iconst (v := 0) hx hb dX9_clash_103 (by decide) ?_
  exact t_X9_clash_104 X K31 hf hP hD hS (lv_sub hl [0, 1, 2, 3, 4] rfl)
set_option maxHeartbeats 4000000 in
set_option maxRecDepth 100000 in
theorem t_X9_clash_89 {k31 : Int32 → Int32 → Int32 → Int32 → St → Rs} (X : Fx p s m meth c D cA A RX9 cX9_clash 8 (some .boolean)) (K31 : ∀ (x1 x2 x3 x4 : Int32) (σ : St) (H : Heap) (locs : List Loc) (ls : Array Slot), k31 x1 x2 x3 x4 σ = some (r, σ') → va_P D vwCl (wM cA ad ta σ) H → va_D A (wM cA ad ta σ) → va_S A s.heap H locs → lv_has ls 8 [(0, .ref (ad 0)), (1, .int x1), (2, .int x2), (3, .int x3), (4, .int x4)] → W p l e (rm_X9_clash) s m args below meth c H locs 0 0 (MQ below (QI D cA A (wM cA ad) r σ' ta) args s 0 0 A) (F0 m 31 ls [])) {x1 x2 x3 x4 x5 x6 : Int32} { σ : St} {H : Heap} {locs : List Loc} {ls : Array Slot} (hf : F_X9_clash_89 k31 x1 x2 x3 x4 x5 x6 σ = some (r, σ')) (hP : va_P D vwCl (wM cA ad ta σ) H) (hD : va_D A (wM cA ad ta σ)) (hS : va_S A s.heap H locs) (hl : lv_has ls 8 [(0, .ref (ad 0)), (1, .int x1), (2, .int x2), (3, .int x3), (4, .int x4), (5, .int x5), (6, .int x6)]) : W p l e (rm_X9_clash) s m args below meth c H locs 0 0 (MQ below (QI D cA A (wM cA ad) r σ' ta) args s 0 0 A) (F0 m 89 ls []) := by
  obtain ⟨hx, hb, hr, hml, hown, hlk, hE, hK, hA⟩ := id X
  rw [F_X9_clash_89] at hf
  refine lv_iload hx hb dX9_clash_89 (lv_at hl 5 rfl) ?_
  refine lv_if_lt (tgt := 103) hx hb dX9_clash_91 (by decide) (fun c1 => ?_) (fun c1 => ?_)
  · have hf := it_t c1 hf
    exact t_X9_clash_103 X K31 hf hP hD hS (lv_sub hl [0, 1, 2, 3, 4] rfl)
  · have hf := it_f c1 hf
    refine lv_iload hx hb dX9_clash_94 (lv_at hl 6 rfl) ?_
    refine lv_if_lt (tgt := 103) hx hb dX9_clash_96 (by decide) (fun c2 => ?_) (fun c2 => ?_)
    · have hf := it_t c2 hf
      exact t_X9_clash_103 X K31 hf hP hD hS (lv_sub hl [0, 1, 2, 3, 4] rfl)
    · have hf := it_f c2 hf
      refine lv_iconst (v := 1) hx hb dX9_clash_99 (by decide) ?_
      refine lv_goto (tgt := 104) hx hb dX9_clash_100 (by decide) ?_
      exact t_X9_clash_104 X K31 hf hP hD hS (lv_sub hl [0, 1, 2, 3, 4] rfl)
set_option maxHeartbeats 4000000 in
set_option maxRecDepth 100000 in
theorem t_X9_clash_31  (X : Fx p s m meth c D cA A RX9 cX9_clash 8 (some .boolean))  : ∀ (n : Nat) (x1 x2 x3 x4 : Int32) (σ : St) (H : Heap) (locs : List Loc) (ls : Array Slot), F_X9_clash_31 n x1 x2 x3 x4 σ = some (r, σ') → va_P D vwCl (wM cA ad ta σ) H → va_D A (wM cA ad ta σ) → va_S A s.heap H locs → lv_has ls 8 [(0, .ref (ad 0)), (1, .int x1), (2, .int x2), (3, .int x3), (4, .int x4)] → W p l e (rm_X9_clash) s m args below meth c H locs 0 0 (MQ below (QI D cA A (wM cA ad) r σ' ta) args s 0 0 A) (F0 m 31 ls []) := by
  obtain ⟨hx, hb, hr, hml, hown, hlk, hE, hK, hA⟩ := id X
  intro n
  induction n with
  | zero =>
    intro x1 x2 x3 x4 σ H locs ls hf
    cases (show (none : Rs) = some _ from hf)
  | succ n ih =>
    intro x1 x2 x3 x4 σ H locs ls hf hP hD hS hl
    rw [F_X9_clash_31] at hf
    refine lv_iload_n hx hb dX9_clash_31 rfl (lv_at hl 3 rfl) ?_
    refine lv_aload_n hx hb dX9_clash_32 rfl (lv_at hl 0 rfl) ?_
    refine gM_Mod_long0 X hP kw693 dX9_clash_33 ?_
    refine lv_iload_n hx hb dX9_clash_36 rfl (lv_at hl 1 rfl) ?_
    obtain ⟨b1, hf⟩ := ck_e hf
    refine lM_long0 X hP b1 dX9_clash_37 ?_
    refine lv_topi (fun y2 ey2 => ?_)
    have hf := bd_x ey2 hf
    refine lv_icmp_ge (tgt := 160) hx hb dX9_clash_38 (by decide) (fun c3 => ?_) (fun c3 => ?_)
    · have hf := it_t c3 hf
      refine lv_iconst (v := 1) hx hb dX9_clash_160 (by decide) ?_
      obtain ⟨b4, hf⟩ := ck_e hf
      obtain ⟨rfl, rfl⟩ := Prod.mk.inj (Option.some.inj hf)
      exact ret_z X b4 hP hD hS dX9_clash_161
    · have hf := it_f c3 hf
      refine lv_aload_n hx hb dX9_clash_41 rfl (lv_at hl 0 rfl) ?_
      refine gM_Mod_rule X hP kw689 dX9_clash_42 ?_
      refine lv_sipush (v := 160) hx hb dX9_clash_45 (by decide) ?_
      refine lv_iload_n hx hb dX9_clash_48 rfl (lv_at hl 1 rfl) ?_
      refine lv_imul hx hb dX9_clash_49 ?_
      refine lv_iload_n hx hb dX9_clash_50 rfl (lv_at hl 3 rfl) ?_
      refine lv_iadd hx hb dX9_clash_51 ?_
      obtain ⟨b5, hf⟩ := ck_e hf
      refine lM_rule X hP b5 dX9_clash_52 ?_
      refine lv_topi (fun y6 ey6 => ?_)
      have hf := bd_x ey6 hf
      refine lv_istore (lv' := [(5, .int y6), (0, .ref (ad 0)), (1, .int x1), (2, .int x2), (3, .int x3), (4, .int x4)]) hx hb dX9_clash_53 hl (by decide) rfl (fun ls hl => ?_)
      refine lv_aload_n hx hb dX9_clash_55 rfl (lv_at hl 1 rfl) ?_
      refine gM_Mod_rule X hP kw689 dX9_clash_56 ?_
      refine lv_sipush (v := 160) hx hb dX9_clash_59 (by decide) ?_
      refine lv_iload_n hx hb dX9_clash_62 rfl (lv_at hl 3 rfl) ?_
      refine lv_imul hx hb dX9_clash_63 ?_
      refine lv_iload hx hb dX9_clash_64 (lv_at hl 5 rfl) ?_
      refine lv_iadd hx hb dX9_clash_66 ?_
      obtain ⟨b7, hf⟩ := ck_e hf
      refine lM_rule X hP b7 dX9_clash_67 ?_
      refine lv_topi (fun y8 ey8 => ?_)
      have hf := bd_x ey8 hf
      refine lv_istore (lv' := [(6, .int y8), (5, .int y6), (0, .ref (ad 0)), (1, .int x1), (2, .int x2), (3, .int x3), (4, .int x4)]) hx hb dX9_clash_68 hl (by decide) rfl (fun ls hl => ?_)
      refine lv_iload hx hb dX9_clash_70 (lv_at hl 1 rfl) ?_
      refine lv_if_lt (tgt := 89) hx hb dX9_clash_72 (by decide) (fun c9 => ?_) (fun c9 => ?_)
      · have hf := it_t c9 hf
        exact t_X9_clash_89 X ih hf hP hD hS (lv_sub hl [2, 3, 4, 5, 6, 1, 0] rfl)
      · have hf := it_f c9 hf
        refine lv_iload hx hb dX9_clash_75 (lv_at hl 0 rfl) ?_
        refine lv_if_lt (tgt := 89) hx hb dX9_clash_77 (by decide) (fun c10 => ?_) (fun c10 => ?_)
        · have hf := it_t c10 hf
          exact t_X9_clash_89 X ih hf hP hD hS (lv_sub hl [2, 3, 4, 5, 6, 1, 0] rfl)
        · have hf := it_f c10 hf
          refine lv_iload hx hb dX9_clash_80 (lv_at hl 1 rfl) ?_
          refine lv_iload hx hb dX9_clash_82 (lv_at hl 0 rfl) ?_
          refine lv_icmp_eq (tgt := 89) hx hb dX9_clash_84 (by decide) (fun c11 => ?_) (fun c11 => ?_)
          · have hf := it_t c11 hf
            exact t_X9_clash_89 X ih hf hP hD hS (lv_sub hl [2, 3, 4, 5, 6, 1, 0] rfl)
          · have hf := it_f c11 hf
            refine lv_iconst (v := 0) hx hb dX9_clash_87 (by decide) ?_
            obtain ⟨b12, hf⟩ := ck_e hf
            obtain ⟨rfl, rfl⟩ := Prod.mk.inj (Option.some.inj hf)
            exact ret_z X b12 hP hD hS dX9_clash_88
set_option maxHeartbeats 4000000 in
set_option maxRecDepth 100000 in
theorem t_X9_clash_0  (X : Fx p s m meth c D cA A RX9 cX9_clash 8 (some .boolean))  {x1 x2 : Int32} { σ : St} {H : Heap} {locs : List Loc} {ls : Array Slot} (hf : F_X9_clash x1 x2 σ = some (r, σ')) (hP : va_P D vwCl (wM cA ad ta σ) H) (hD : va_D A (wM cA ad ta σ)) (hS : va_S A s.heap H locs) (hl : lv_has ls 8 [(0, .ref (ad 0)), (1, .int x1), (2, .int x2)]) : W p l e (rm_X9_clash) s m args below meth c H locs 0 0 (MQ below (QI D cA A (wM cA ad) r σ' ta) args s 0 0 A) (F0 m 0 ls []) := by
  obtain ⟨hx, hb, hr, hml, hown, hlk, hE, hK, hA⟩ := id X
  rw [F_X9_clash] at hf
  refine lv_iload_n hx hb dX9_clash_0 rfl (lv_at hl 1 rfl) ?_
  refine lv_if_lt (tgt := 24) hx hb dX9_clash_1 (by decide) (fun c1 => ?_) (fun c1 => ?_)
  · have hf := it_t c1 hf
    refine lv_iconst (v := 0) hx hb dX9_clash_24 (by decide) ?_
    obtain ⟨b2, hf⟩ := ck_e hf
    obtain ⟨rfl, rfl⟩ := Prod.mk.inj (Option.some.inj hf)
    exact ret_z X b2 hP hD hS dX9_clash_25
  · have hf := it_f c1 hf
    refine lv_iload_n hx hb dX9_clash_4 rfl (lv_at hl 2 rfl) ?_
    refine lv_if_lt (tgt := 24) hx hb dX9_clash_5 (by decide) (fun c3 => ?_) (fun c3 => ?_)
    · have hf := it_t c3 hf
      refine lv_iconst (v := 0) hx hb dX9_clash_24 (by decide) ?_
      obtain ⟨b4, hf⟩ := ck_e hf
      obtain ⟨rfl, rfl⟩ := Prod.mk.inj (Option.some.inj hf)
      exact ret_z X b4 hP hD hS dX9_clash_25
    · have hf := it_f c3 hf
      refine lv_iload_n hx hb dX9_clash_8 rfl (lv_at hl 1 rfl) ?_
      refine lv_aload_n hx hb dX9_clash_9 rfl (lv_at hl 0 rfl) ?_
      refine gM_Mod_rules X hP kw686 dX9_clash_10 ?_
      refine lv_icmp_ge (tgt := 24) hx hb dX9_clash_13 (by decide) (fun c5 => ?_) (fun c5 => ?_)
      · have hf := it_t c5 hf
        refine lv_iconst (v := 0) hx hb dX9_clash_24 (by decide) ?_
        obtain ⟨b6, hf⟩ := ck_e hf
        obtain ⟨rfl, rfl⟩ := Prod.mk.inj (Option.some.inj hf)
        exact ret_z X b6 hP hD hS dX9_clash_25
      · have hf := it_f c5 hf
        refine lv_iload_n hx hb dX9_clash_16 rfl (lv_at hl 2 rfl) ?_
        refine lv_aload_n hx hb dX9_clash_17 rfl (lv_at hl 0 rfl) ?_
        refine gM_Mod_rules X hP kw686 dX9_clash_18 ?_
        refine lv_icmp_lt (tgt := 26) hx hb dX9_clash_21 (by decide) (fun c7 => ?_) (fun c7 => ?_)
        · have hf := it_t c7 hf
          refine lv_iconst (v := 0) hx hb dX9_clash_26 (by decide) ?_
          refine lv_istore_n (lv' := [(3, .int 0), (0, .ref (ad 0)), (1, .int x1), (2, .int x2)]) hx hb dX9_clash_27 rfl hl (by decide) rfl (fun ls hl => ?_)
          refine lv_iconst (v := 0) hx hb dX9_clash_28 (by decide) ?_
          refine lv_istore (lv' := [(4, .int 0), (3, .int 0), (0, .ref (ad 0)), (1, .int x1), (2, .int x2)]) hx hb dX9_clash_29 hl (by decide) rfl (fun ls hl => ?_)
          exact t_X9_clash_31 X  5000 x1 x2 0 0 σ _ _ _ hf hP hD hS (lv_sub hl [2, 3, 4, 1, 0] rfl)
        · have hf := it_f c7 hf
          refine lv_iconst (v := 0) hx hb dX9_clash_24 (by decide) ?_
          obtain ⟨b8, hf⟩ := ck_e hf
          obtain ⟨rfl, rfl⟩ := Prod.mk.inj (Option.some.inj hf)
          exact ret_z X b8 hP hD hS dX9_clash_25
end S_X9_clash
theorem c_X9_clash (l : Launch) (D : va_G) (cA : ClassId) (A : Nat → Prop) (ad : Nat → Nat) (ta : Nat) (σ : St) (x1 x2 : Int32) (r : Int32) (σ' : St) (hf : F_X9_clash x1 x2 σ = some (r, σ')) : MI l D cA A (wM cA ad) yX9_clash cX9_clash 8 (some .boolean) rm_X9_clash [.ref (ad 0), .int x1, .int x2] ta σ r σ' 0 0 := by
  refine enter (by decide) (Nat.le_of_ble_eq_true rfl) ?_
  intro p e s m below meth c ls X hnm hP hD hS hl
  exact t_X9_clash_0 X hf hP hD hS hl
abbrev rm_X9_count : Room := { frames := 0, cells := 0, slots := 0, locals := 0 }
def F_X9_count (x1 : Int32) (σ : St) : Rs :=
  if x1 = 0 then (some ((gF σ 0), σ)) else (if x1 = 1 then (some ((gF σ 1), σ)) else (if x1 = 2 then (some ((gF σ 4), σ)) else (if x1 = 3 then (some ((gF σ 2), σ)) else (if x1 = 4 then (some ((gF σ 5), σ)) else (if x1 = 5 then (some ((gF σ 19), σ)) else (if x1 = 6 then (some ((gF σ 11), σ)) else (if x1 = 7 then (some ((gF σ 12), σ)) else (if x1 = 8 then (some ((gF σ 13), σ)) else (some ((-9), σ))))))))))
section S_X9_count
variable {p : Program} {l : Launch} {e : Env} {s : State} {m : MethodId} {args : Array Value} {below : List Frame} {meth : Method} {c : Code}
variable {D : va_G} {cA : ClassId} {A : Nat → Prop} {ad : Nat → Nat} {r : Int32} {σ' : St} {ta : Nat}
set_option maxHeartbeats 4000000 in
set_option maxRecDepth 100000 in
theorem t_X9_count_0  (X : Fx p s m meth c D cA A RX9 cX9_count 2 (some .int))  {x1 : Int32} { σ : St} {H : Heap} {locs : List Loc} {ls : Array Slot} (hf : F_X9_count x1 σ = some (r, σ')) (hP : va_P D vwCl (wM cA ad ta σ) H) (hD : va_D A (wM cA ad ta σ)) (hS : va_S A s.heap H locs) (hl : lv_has ls 2 [(0, .ref (ad 0)), (1, .int x1)]) : W p l e (rm_X9_count) s m args below meth c H locs 0 0 (MQ below (QI D cA A (wM cA ad) r σ' ta) args s 0 0 A) (F0 m 0 ls []) := by
  obtain ⟨hx, hb, hr, hml, hown, hlk, hE, hK, hA⟩ := id X
  rw [F_X9_count] at hf
  refine lv_iload_n hx hb dX9_count_0 rfl (lv_at hl 1 rfl) ?_
  by_cases c1 : x1 = 0
  · have hf := it_t c1 hf
    refine lv_tableIn (off := 51) (tgt := 52) hx hb dX9_count_1 (by rw [c1]; decide) (by rw [c1]; decide) (by rw [c1]; decide) (by decide) ?_
    refine lv_aload_n hx hb dX9_count_52 rfl (lv_at hl 0 rfl) ?_
    refine gM_Mod_types X hP kw679 dX9_count_53 ?_
    obtain ⟨rfl, rfl⟩ := Prod.mk.inj (Option.some.inj hf)
    exact ret_i X hP hD hS dX9_count_56
  have hf := it_f c1 hf
  by_cases c2 : x1 = 1
  · have hf := it_t c2 hf
    refine lv_tableIn (off := 56) (tgt := 57) hx hb dX9_count_1 (by rw [c2]; decide) (by rw [c2]; decide) (by rw [c2]; decide) (by decide) ?_
    refine lv_aload_n hx hb dX9_count_57 rfl (lv_at hl 0 rfl) ?_
    refine gM_Mod_cons X hP kw680 dX9_count_58 ?_
    obtain ⟨rfl, rfl⟩ := Prod.mk.inj (Option.some.inj hf)
    exact ret_i X hP hD hS dX9_count_61
  have hf := it_f c2 hf
  by_cases c3 : x1 = 2
  · have hf := it_t c3 hf
    refine lv_tableIn (off := 61) (tgt := 62) hx hb dX9_count_1 (by rw [c3]; decide) (by rw [c3]; decide) (by rw [c3]; decide) (by decide) ?_
    refine lv_aload_n hx hb dX9_count_62 rfl (lv_at hl 0 rfl) ?_
    refine gM_Mod_rules X hP kw686 dX9_count_63 ?_
    obtain ⟨rfl, rfl⟩ := Prod.mk.inj (Option.some.inj hf)
    exact ret_i X hP hD hS dX9_count_66
  have hf := it_f c3 hf
  by_cases c4 : x1 = 3
  · have hf := it_t c4 hf
    refine lv_tableIn (off := 66) (tgt := 67) hx hb dX9_count_1 (by rw [c4]; decide) (by rw [c4]; decide) (by rw [c4]; decide) (by decide) ?_
    refine lv_aload_n hx hb dX9_count_67 rfl (lv_at hl 0 rfl) ?_
    refine gM_Mod_args X hP kw684 dX9_count_68 ?_
    obtain ⟨rfl, rfl⟩ := Prod.mk.inj (Option.some.inj hf)
    exact ret_i X hP hD hS dX9_count_71
  have hf := it_f c4 hf
  by_cases c5 : x1 = 4
  · have hf := it_t c5 hf
    refine lv_tableIn (off := 71) (tgt := 72) hx hb dX9_count_1 (by rw [c5]; decide) (by rw [c5]; decide) (by rw [c5]; decide) (by decide) ?_
    refine lv_aload_n hx hb dX9_count_72 rfl (lv_at hl 0 rfl) ?_
    refine gM_Mod_size X hP kw688 dX9_count_73 ?_
    obtain ⟨rfl, rfl⟩ := Prod.mk.inj (Option.some.inj hf)
    exact ret_i X hP hD hS dX9_count_76
  have hf := it_f c5 hf
  by_cases c6 : x1 = 5
  · have hf := it_t c6 hf
    refine lv_tableIn (off := 76) (tgt := 77) hx hb dX9_count_1 (by rw [c6]; decide) (by rw [c6]; decide) (by rw [c6]; decide) (by decide) ?_
    refine lv_aload_n hx hb dX9_count_77 rfl (lv_at hl 0 rfl) ?_
    refine gM_Mod_outcomes X hP kw727 dX9_count_78 ?_
    obtain ⟨rfl, rfl⟩ := Prod.mk.inj (Option.some.inj hf)
    exact ret_i X hP hD hS dX9_count_81
  have hf := it_f c6 hf
  by_cases c7 : x1 = 6
  · have hf := it_t c7 hf
    refine lv_tableIn (off := 81) (tgt := 82) hx hb dX9_count_1 (by rw [c7]; decide) (by rw [c7]; decide) (by rw [c7]; decide) (by decide) ?_
    refine lv_aload_n hx hb dX9_count_82 rfl (lv_at hl 0 rfl) ?_
    refine gM_Mod_ors X hP kw708 dX9_count_83 ?_
    obtain ⟨rfl, rfl⟩ := Prod.mk.inj (Option.some.inj hf)
    exact ret_i X hP hD hS dX9_count_86
  have hf := it_f c7 hf
  by_cases c8 : x1 = 7
  · have hf := it_t c8 hf
    refine lv_tableIn (off := 86) (tgt := 87) hx hb dX9_count_1 (by rw [c8]; decide) (by rw [c8]; decide) (by rw [c8]; decide) (by decide) ?_
    refine lv_aload_n hx hb dX9_count_87 rfl (lv_at hl 0 rfl) ?_
    refine gM_Mod_branches X hP kw709 dX9_count_88 ?_
    obtain ⟨rfl, rfl⟩ := Prod.mk.inj (Option.some.inj hf)
    exact ret_i X hP hD hS dX9_count_91
  have hf := it_f c8 hf
  by_cases c9 : x1 = 8
  · have hf := it_t c9 hf
    refine lv_tableIn (off := 91) (tgt := 92) hx hb dX9_count_1 (by rw [c9]; decide) (by rw [c9]; decide) (by rw [c9]; decide) (by decide) ?_
    refine lv_aload_n hx hb dX9_count_92 rfl (lv_at hl 0 rfl) ?_
    refine gM_Mod_deepest X hP kw710 dX9_count_93 ?_
    obtain ⟨rfl, rfl⟩ := Prod.mk.inj (Option.some.inj hf)
    exact ret_i X hP hD hS dX9_count_96
  have hf := it_f c9 hf
  refine lv_tableOut (tgt := 97) hx hb dX9_count_1 (by have qc1 := lv_neT c1 (a := 0) rfl; have qc2 := lv_neT c2 (a := 1) rfl; have qc3 := lv_neT c3 (a := 2) rfl; have qc4 := lv_neT c4 (a := 3) rfl; have qc5 := lv_neT c5 (a := 4) rfl; have qc6 := lv_neT c6 (a := 5) rfl; have qc7 := lv_neT c7 (a := 6) rfl; have qc8 := lv_neT c8 (a := 7) rfl; have qc9 := lv_neT c9 (a := 8) rfl; omega) (by decide) ?_
  refine lv_bipush (v := -9) hx hb dX9_count_97 (by decide) ?_
  obtain ⟨rfl, rfl⟩ := Prod.mk.inj (Option.some.inj hf)
  exact ret_i X hP hD hS dX9_count_99
end S_X9_count
theorem c_X9_count (l : Launch) (D : va_G) (cA : ClassId) (A : Nat → Prop) (ad : Nat → Nat) (ta : Nat) (σ : St) (x1 : Int32) (r : Int32) (σ' : St) (hf : F_X9_count x1 σ = some (r, σ')) : MI l D cA A (wM cA ad) yX9_count cX9_count 2 (some .int) rm_X9_count [.ref (ad 0), .int x1] ta σ r σ' 0 0 := by
  refine enter (by decide) (Nat.le_of_ble_eq_true rfl) ?_
  intro p e s m below meth c ls X hnm hP hD hS hl
  exact t_X9_count_0 X hf hP hD hS hl
