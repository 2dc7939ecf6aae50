abbrev rm_X9_typeOf : Room := { frames := 0, cells := 0, slots := 0, locals := 0 }
def F_X9_typeOf (x0 : Int32) (x1 : Int32) (σ : St) : Rs :=
  some (((x0 >>> ((4 * x1) &&& 31)) &&& 15), σ)
section S_X9_typeOf
variable {p : Program} {l : Launch} {e : Env} {s : State} {m : MethodId} {args : Array Value} {below : List Frame} {meth : Method} {c : Code}
variable {D : va_G} {cA : ClassId} {A : Nat → Prop} {ad : Nat → Nat} {r : Int32} {σ' : St} {ta : Nat}
set_option maxHeartbeats 4000000 in
set_option maxRecDepth 100000 in
theorem t_X9_typeOf_0  (X : Fx p s m meth c D cA A RX9 cX9_typeOf 2 (some .int))  {x0 x1 : Int32} { σ : St} {H : Heap} {locs : List Loc} {ls : Array Slot} (hf : F_X9_typeOf x0 x1 σ = some (r, σ')) (hP : va_P D vwCl (wM cA ad ta σ) H) (hD : va_D A (wM cA ad ta σ)) (hS : va_S A s.heap H locs) (hl : lv_has ls 2 [(0, .int x0), (1, .int x1)]) : W p l e (rm_X9_typeOf) s m args below meth c H locs 0 0 (MQ below (QI D cA A (wM cA ad) r σ' ta) args s 0 0 A) (F0 m 0 ls []) := by
  obtain ⟨hx, hb, hr, hml, hown, hlk, hE, hK, hA⟩ := id X
  rw [F_X9_typeOf] at hf
  refine lv_iload_n hx hb dX9_typeOf_0 rfl (lv_at hl 0 rfl) ?_
  refine lv_iconst (v := 4) hx hb dX9_typeOf_1 (by decide) ?_
  refine lv_iload_n hx hb dX9_typeOf_2 rfl (lv_at hl 1 rfl) ?_
  refine lv_imul hx hb dX9_typeOf_3 ?_
  refine lv_ishr hx hb dX9_typeOf_4 ?_
  refine lv_bipush (v := 15) hx hb dX9_typeOf_5 (by decide) ?_
  refine lv_iand hx hb dX9_typeOf_7 ?_
  obtain ⟨rfl, rfl⟩ := Prod.mk.inj (Option.some.inj hf)
  exact ret_i X hP hD hS dX9_typeOf_8
end S_X9_typeOf
theorem c_X9_typeOf (l : Launch) (D : va_G) (cA : ClassId) (A : Nat → Prop) (ad : Nat → Nat) (ta : Nat) (σ : St) (x0 x1 : Int32) (r : Int32) (σ' : St) (hf : F_X9_typeOf x0 x1 σ = some (r, σ')) : MI l D cA A (wM cA ad) yX9_typeOf cX9_typeOf 2 (some .int) rm_X9_typeOf [.int x0, .int x1] ta σ r σ' 0 0 := by
  refine enter (by decide) (Nat.le_of_ble_eq_true rfl) ?_
  intro p e s m below meth c ls X hnm hP hD hS hl
  exact t_X9_typeOf_0 X hf hP hD hS hl
abbrev rm_X9_areTypes : Room := { frames := 1, cells := 0, slots := 0, locals := 21 }
def F_X9_areTypes_2  : Nat → Int32 → Int32 → Int32 → St → Rs
  | 0, _, _, _, _ => none
  | n + 1, x1, x2, x3, σ => if x1 ≤ x3 then (ck (isB 1) (some (1, σ))) else (bo (F_X9_typeOf x2 x3 σ) (fun r3 s4 => if r3 < (gF s4 0) then (F_X9_areTypes_2 n x1 x2 (x3 + 1) s4) else (ck (isB 0) (some (0, s4)))))
def F_X9_areTypes (x1 : Int32) (x2 : Int32) (σ : St) : Rs :=
  F_X9_areTypes_2 5000 x1 x2 0 σ
section S_X9_areTypes
variable {p : Program} {l : Launch} {e : Env} {s : State} {m : MethodId} {args : Array Value} {below : List Frame} {meth : Method} {c : Code}
variable {D : va_G} {cA : ClassId} {A : Nat → Prop} {ad : Nat → Nat} {r : Int32} {σ' : St} {ta : Nat}
set_option maxHeartbeats 4000000 in
set_option maxRecDepth 100000 in
theorem t_X9_areTypes_2  (X : Fx p s m meth c D cA A RX9 cX9_areTypes 4 (some .boolean))  : ∀ (n : Nat) (x1 x2 x3 : Int32) (σ : St) (H : Heap) (locs : List Loc) (ls : Array Slot), F_X9_areTypes_2 n x1 x2 x3 σ = some (r, σ') → va_P D vwCl (wM cA ad ta σ) H → va_D A (wM cA ad ta σ) → va_S A s.heap H locs → lv_has ls 4 [(0, .ref (ad 0)), (1, .int x1), (2, .int x2), (3, .int x3)] → W p l e (rm_X9_areTypes) s m args below meth c H locs 0 0 (MQ below (QI D cA A (wM cA ad) r σ' ta) args s 0 0 A) (F0 m 2 ls []) := by
  obtain ⟨hx, hb, hr, hml, hown, hlk, hE, hK, hA⟩ := id X
  intro n
  induction n with
  | zero =>
    intro x1 x2 x3 σ H locs ls hf
    cases (show (none : Rs) = some _ from hf)
  | succ n ih =>
    intro x1 x2 x3 σ H locs ls hf hP hD hS hl
    rw [F_X9_areTypes_2] at hf
    refine lv_iload_n hx hb dX9_areTypes_2 rfl (lv_at hl 3 rfl) ?_
    refine lv_iload_n hx hb dX9_areTypes_3 rfl (lv_at hl 1 rfl) ?_
    refine lv_icmp_ge (tgt := 27) hx hb dX9_areTypes_4 (by decide) (fun c1 => ?_) (fun c1 => ?_)
    · have hf := it_t c1 hf
      refine lv_iconst (v := 1) hx hb dX9_areTypes_27 (by decide) ?_
      obtain ⟨b2, hf⟩ := ck_e hf
      obtain ⟨rfl, rfl⟩ := Prod.mk.inj (Option.some.inj hf)
      exact ret_z X b2 hP hD hS dX9_areTypes_28
    · have hf := it_f c1 hf
      refine lv_iload_n hx hb dX9_areTypes_7 rfl (lv_at hl 2 rfl) ?_
      refine lv_iload_n hx hb dX9_areTypes_8 rfl (lv_at hl 3 rfl) ?_
      obtain ⟨r3, s4, h5, hf⟩ := bo_e hf
      refine callS_i X cs_X9_typeOf kw869 (c_X9_typeOf l D cA A ad ta σ x2 x3 r3 s4 h5) ⟨by decide, by decide⟩ ⟨rfl, rfl⟩ hP hD hS rfl hl rfl (Nat.le_of_ble_eq_true rfl) dX9_areTypes_9 ⟨by decide, by decide⟩ (fun H locs hP hD hS => ?_)
      refine lv_aload_n hx hb dX9_areTypes_12 rfl (lv_at hl 0 rfl) ?_
      refine gM_Mod_types X hP kw679 dX9_areTypes_13 ?_
      refine lv_icmp_lt (tgt := 21) hx hb dX9_areTypes_16 (by decide) (fun c6 => ?_) (fun c6 => ?_)
      · have hf := it_t c6 hf
        refine lv_iinc (v := (x3 + 1)) (lv' := [(3, .int (x3 + 1)), (0, .ref (ad 0)), (1, .int x1), (2, .int x2)]) hx hb dX9_areTypes_21 hl (k := 3) rfl rfl (by decide) rfl (fun ls hl => ?_)
        refine lv_goto (tgt := 2) hx hb dX9_areTypes_24 (by decide) ?_
        exact ih x1 x2 (x3 + 1) s4 _ _ _ hf hP hD hS (lv_sub hl [1, 2, 3, 0] rfl)
      · have hf := it_f c6 hf
        refine lv_iconst (v := 0) hx hb dX9_areTypes_19 (by decide) ?_
        obtain ⟨b7, hf⟩ := ck_e hf
        obtain ⟨rfl, rfl⟩ := Prod.mk.inj (Option.some.inj hf)
        exact ret_z X b7 hP hD hS dX9_areTypes_20
set_option maxHeartbeats 4000000 in
set_option maxRecDepth 100000 in
theorem t_X9_areTypes_0  (X : Fx p s m meth c D cA A RX9 cX9_areTypes 4 (some .boolean))  {x1 x2 : Int32} { σ : St} {H : Heap} {locs : List Loc} {ls : Array Slot} (hf : F_X9_areTypes x1 x2 σ = some (r, σ')) (hP : va_P D vwCl (wM cA ad ta σ) H) (hD : va_D A (wM cA ad ta σ)) (hS : va_S A s.heap H locs) (hl : lv_has ls 4 [(0, .ref (ad 0)), (1, .int x1), (2, .int x2)]) : W p l e (rm_X9_areTypes) s m args below meth c H locs 0 0 (MQ below (QI D cA A (wM cA ad) r σ' ta) args s 0 0 A) (F0 m 0 ls []) := by
  obtain ⟨hx, hb, hr, hml, hown, hlk, hE, hK, hA⟩ := id X
  rw [F_X9_areTypes] at hf
  refine lv_iconst (v := 0) hx hb dX9_areTypes_0 (by decide) ?_
  refine lv_istore_n (lv' := [(3, .int 0), (0, .ref (ad 0)), (1, .int x1), (2, .int x2)]) hx hb dX9_areTypes_1 rfl hl (by decide) rfl (fun ls hl => ?_)
  exact t_X9_areTypes_2 X  5000 x1 x2 0 σ _ _ _ hf hP hD hS (lv_sub hl [1, 2, 3, 0] rfl)
end S_X9_areTypes
theorem c_X9_areTypes (l : Launch) (D : va_G) (cA : ClassId) (A : Nat → Prop) (ad : Nat → Nat) (ta : Nat) (σ : St) (x1 x2 : Int32) (r : Int32) (σ' : St) (hf : F_X9_areTypes x1 x2 σ = some (r, σ')) : MI l D cA A (wM cA ad) yX9_areTypes cX9_areTypes 4 (some .boolean) rm_X9_areTypes [.ref (ad 0), .int x1, .int x2] ta σ r σ' 0 0 := by
  refine enter (by decide) (Nat.le_of_ble_eq_true rfl) ?_
  intro p e s m below meth c ls X hnm hP hD hS hl
  exact t_X9_areTypes_0 X hf hP hD hS hl
abbrev rm_X9_type : Room := { frames := 0, cells := 0, slots := 0, locals := 0 }
def F_X9_type  (σ : St) : Rs :=
  if (gF σ 0) = 12 then (some ((-1), σ)) else (bd (sF σ 0 ((gF σ 0) + 1)) (fun s2 => some (((gF s2 0) - 1), s2)))
section S_X9_type
variable {p : Program} {l : Launch} {e : Env} {s : State} {m : MethodId} {args : Array Value} {below : List Frame} {meth : Method} {c : Code}
variable {D : va_G} {cA : ClassId} {A : Nat → Prop} {ad : Nat → Nat} {r : Int32} {σ' : St} {ta : Nat}
set_option maxHeartbeats 4000000 in
set_option maxRecDepth 100000 in
theorem t_X9_type_0  (X : Fx p s m meth c D cA A RX9 cX9_type 1 (some .int))  { σ : St} {H : Heap} {locs : List Loc} {ls : Array Slot} (hf : F_X9_type σ = some (r, σ')) (hP : va_P D vwCl (wM cA ad ta σ) H) (hD : va_D A (wM cA ad ta σ)) (hS : va_S A s.heap H locs) (hl : lv_has ls 1 [(0, .ref (ad 0))]) : W p l e (rm_X9_type) s m args below meth c H locs 0 0 (MQ below (QI D cA A (wM cA ad) r σ' ta) args s 0 0 A) (F0 m 0 ls []) := by
  obtain ⟨hx, hb, hr, hml, hown, hlk, hE, hK, hA⟩ := id X
  rw [F_X9_type] at hf
  refine lv_aload_n hx hb dX9_type_0 rfl (lv_at hl 0 rfl) ?_
  refine gM_Mod_types X hP kw679 dX9_type_1 ?_
  refine lv_bipush (v := 12) hx hb dX9_type_4 (by decide) ?_
  refine lv_icmp_ne (tgt := 11) hx hb dX9_type_6 (by decide) (fun c1 => ?_) (fun c1 => ?_)
  · have hf := it_f c1 hf
    refine lv_aload_n hx hb dX9_type_11 rfl (lv_at hl 0 rfl) ?_
    refine lv_dup hx hb dX9_type_12 rfl ?_
    refine gM_Mod_types X hP kw679 dX9_type_13 ?_
    refine lv_iconst (v := 1) hx hb dX9_type_16 (by decide) ?_
    refine lv_iadd hx hb dX9_type_17 ?_
    refine pM_Mod_types X hP hD hS kw679 dX9_type_18 (fun H locs hP hD hS => ?_)
    obtain ⟨s2, es2, hf⟩ := bd_e hf
    rw [← es2] at hP hD
    refine lv_aload_n hx hb dX9_type_21 rfl (lv_at hl 0 rfl) ?_
    refine gM_Mod_types X hP kw679 dX9_type_22 ?_
    refine lv_iconst (v := 1) hx hb dX9_type_25 (by decide) ?_
    refine lv_isub hx hb dX9_type_26 ?_
    obtain ⟨rfl, rfl⟩ := Prod.mk.inj (Option.some.inj hf)
    exact ret_i X hP hD hS dX9_type_27
  · have hf := it_t c1 hf
    refine lv_iconst (v := -1) hx hb dX9_type_9 (by decide) ?_
    obtain ⟨rfl, rfl⟩ := Prod.mk.inj (Option.some.inj hf)
    exact ret_i X hP hD hS dX9_type_10
end S_X9_type
theorem c_X9_type (l : Launch) (D : va_G) (cA : ClassId) (A : Nat → Prop) (ad : Nat → Nat) (ta : Nat) (σ : St) (r : Int32) (σ' : St) (hf : F_X9_type σ = some (r, σ')) : MI l D cA A (wM cA ad) yX9_type cX9_type 1 (some .int) rm_X9_type [.ref (ad 0)] ta σ r σ' 0 0 := by
  refine enter (by decide) (Nat.le_of_ble_eq_true rfl) ?_
  intro p e s m below meth c ls X hnm hP hD hS hl
  exact t_X9_type_0 X hf hP hD hS hl
abbrev rm_X9_constructor : Room := { frames := 2, cells := 0, slots := 0, locals := 44 }
def F_X9_constructor (x1 : Int32) (x2 : Int32) (x3 : Int32) (σ : St) : Rs :=
  if x1 < 0 then (some ((-1), σ)) else (if (gF σ 0) ≤ x1 then (some ((-1), σ)) else (if x2 < 0 then (some ((-1), σ)) else (if 4 < x2 then (some ((-1), σ)) else (bo (F_X9_areTypes x2 x3 σ) (fun r5 s6 => if r5 = 0 then (some ((-1), s6)) else (if (gF s6 1) = 60 then (some ((-1), s6)) else (ck (inb (gF s6 1) 60) (bd (sA s6 1 (upd (gA s6 1) (gF s6 1).toNatClampNeg x1)) (fun s11 => ck (inb (gF s11 1) 60) (bd (sA s11 2 (upd (gA s11 2) (gF s11 1).toNatClampNeg x2)) (fun s13 => ck (inb (gF s13 1) 60) (bd (sA s13 3 (upd (gA s13 3) (gF s13 1).toNatClampNeg x3)) (fun s15 => bd (sF s15 1 ((gF s15 1) + 1)) (fun s16 => bd (sF s16 19 0) (fun s17 => some (((gF s17 1) - 1), s17))))))))))))))))
section S_X9_constructor
variable {p : Program} {l : Launch} {e : Env} {s : State} {m : MethodId} {args : Array Value} {below : List Frame} {meth : Method} {c : Code}
variable {D : va_G} {cA : ClassId} {A : Nat → Prop} {ad : Nat → Nat} {r : Int32} {σ' : St} {ta : Nat}
set_option maxHeartbeats 4000000 in
set_option maxRecDepth 100000 in
theorem t_X9_constructor_0  (X : Fx p s m meth c D cA A RX9 cX9_constructor 4 (some .int))  {x1 x2 x3 : Int32} { σ : St} {H : Heap} {locs : List Loc} {ls : Array Slot} (hf : F_X9_constructor x1 x2 x3 σ = some (r, σ')) (hP : va_P D vwCl (wM cA ad ta σ) H) (hD : va_D A (wM cA ad ta σ)) (hS : va_S A s.heap H locs) (hl : lv_has ls 4 [(0, .ref (ad 0)), (1, .int x1), (2, .int x2), (3, .int x3)]) : W p l e (rm_X9_constructor) s m args below meth c H locs 0 0 (MQ below (QI D cA A (wM cA ad) r σ' ta) args s 0 0 A) (F0 m 0 ls []) := by
  obtain ⟨hx, hb, hr, hml, hown, hlk, hE, hK, hA⟩ := id X
  rw [F_X9_constructor] at hf
  refine lv_iload_n hx hb dX9_constructor_0 rfl (lv_at hl 1 rfl) ?_
  refine lv_if_lt (tgt := 39) hx hb dX9_constructor_1 (by decide) (fun c1 => ?_) (fun c1 => ?_)
  · have hf := it_t c1 hf
    refine lv_iconst (v := -1) hx hb dX9_constructor_39 (by decide) ?_
    obtain ⟨rfl, rfl⟩ := Prod.mk.inj (Option.some.inj hf)
    exact ret_i X hP hD hS dX9_constructor_40
  · have hf := it_f c1 hf
    refine lv_iload_n hx hb dX9_constructor_4 rfl (lv_at hl 1 rfl) ?_
    refine lv_aload_n hx hb dX9_constructor_5 rfl (lv_at hl 0 rfl) ?_
    refine gM_Mod_types X hP kw679 dX9_constructor_6 ?_
    refine lv_icmp_ge (tgt := 39) hx hb dX9_constructor_9 (by decide) (fun c2 => ?_) (fun c2 => ?_)
    · have hf := it_t c2 hf
      refine lv_iconst (v := -1) hx hb dX9_constructor_39 (by decide) ?_
      obtain ⟨rfl, rfl⟩ := Prod.mk.inj (Option.some.inj hf)
      exact ret_i X hP hD hS dX9_constructor_40
    · have hf := it_f c2 hf
      refine lv_iload_n hx hb dX9_constructor_12 rfl (lv_at hl 2 rfl) ?_
      refine lv_if_lt (tgt := 39) hx hb dX9_constructor_13 (by decide) (fun c3 => ?_) (fun c3 => ?_)
      · have hf := it_t c3 hf
        refine lv_iconst (v := -1) hx hb dX9_constructor_39 (by decide) ?_
        obtain ⟨rfl, rfl⟩ := Prod.mk.inj (Option.some.inj hf)
        exact ret_i X hP hD hS dX9_constructor_40
      · have hf := it_f c3 hf
        refine lv_iload_n hx hb dX9_constructor_16 rfl (lv_at hl 2 rfl) ?_
        refine lv_iconst (v := 4) hx hb dX9_constructor_17 (by decide) ?_
        refine lv_icmp_gt (tgt := 39) hx hb dX9_constructor_18 (by decide) (fun c4 => ?_) (fun c4 => ?_)
        · have hf := it_t c4 hf
          refine lv_iconst (v := -1) hx hb dX9_constructor_39 (by decide) ?_
          obtain ⟨rfl, rfl⟩ := Prod.mk.inj (Option.some.inj hf)
          exact ret_i X hP hD hS dX9_constructor_40
        · have hf := it_f c4 hf
          refine lv_aload_n hx hb dX9_constructor_21 rfl (lv_at hl 0 rfl) ?_
          refine lv_iload_n hx hb dX9_constructor_22 rfl (lv_at hl 2 rfl) ?_
          refine lv_iload_n hx hb dX9_constructor_23 rfl (lv_at hl 3 rfl) ?_
          obtain ⟨r5, s6, h7, hf⟩ := bo_e hf
          refine callV_i X cv_X9_areTypes kw865 (c_X9_areTypes l D cA A ad ta σ x2 x3 r5 s6 h7) ⟨by decide, by decide⟩ ⟨rfl, rfl⟩ hP hD hS (q0 := 0) (ci := 9) rfl rfl rfl rfl hl rfl (Nat.le_of_ble_eq_true rfl) dX9_constructor_24 ⟨by decide, by decide⟩ (fun H locs hP hD hS => ?_)
          refine lv_if_eq (tgt := 39) hx hb dX9_constructor_27 (by decide) (fun c8 => ?_) (fun c8 => ?_)
          · have hf := it_t c8 hf
            refine lv_iconst (v := -1) hx hb dX9_constructor_39 (by decide) ?_
            obtain ⟨rfl, rfl⟩ := Prod.mk.inj (Option.some.inj hf)
            exact ret_i X hP hD hS dX9_constructor_40
          · have hf := it_f c8 hf
            refine lv_aload_n hx hb dX9_constructor_30 rfl (lv_at hl 0 rfl) ?_
            refine gM_Mod_cons X hP kw680 dX9_constructor_31 ?_
            refine lv_bipush (v := 60) hx hb dX9_constructor_34 (by decide) ?_
            refine lv_icmp_ne (tgt := 41) hx hb dX9_constructor_36 (by decide) (fun c9 => ?_) (fun c9 => ?_)
            · have hf := it_f c9 hf
              refine lv_aload_n hx hb dX9_constructor_41 rfl (lv_at hl 0 rfl) ?_
              refine gM_Mod_conType X hP kw681 dX9_constructor_42 ?_
              refine lv_aload_n hx hb dX9_constructor_45 rfl (lv_at hl 0 rfl) ?_
              refine gM_Mod_cons X hP kw680 dX9_constructor_46 ?_
              refine lv_iload_n hx hb dX9_constructor_49 rfl (lv_at hl 1 rfl) ?_
              obtain ⟨b10, hf⟩ := ck_e hf
              refine sM_conType X hP hD hS b10 dX9_constructor_50 (fun H locs hP hD hS => ?_)
              obtain ⟨s11, es11, hf⟩ := bd_e hf
              rw [← es11] at hP hD
              refine lv_aload_n hx hb dX9_constructor_51 rfl (lv_at hl 0 rfl) ?_
              refine gM_Mod_arity X hP kw682 dX9_constructor_52 ?_
              refine lv_aload_n hx hb dX9_constructor_55 rfl (lv_at hl 0 rfl) ?_
              refine gM_Mod_cons X hP kw680 dX9_constructor_56 ?_
              refine lv_iload_n hx hb dX9_constructor_59 rfl (lv_at hl 2 rfl) ?_
              obtain ⟨b12, hf⟩ := ck_e hf
              refine sM_arity X hP hD hS b12 dX9_constructor_60 (fun H locs hP hD hS => ?_)
              obtain ⟨s13, es13, hf⟩ := bd_e hf
              rw [← es13] at hP hD
              refine lv_aload_n hx hb dX9_constructor_61 rfl (lv_at hl 0 rfl) ?_
              refine gM_Mod_conTypes X hP kw683 dX9_constructor_62 ?_
              refine lv_aload_n hx hb dX9_constructor_65 rfl (lv_at hl 0 rfl) ?_
              refine gM_Mod_cons X hP kw680 dX9_constructor_66 ?_
              refine lv_iload_n hx hb dX9_constructor_69 rfl (lv_at hl 3 rfl) ?_
              obtain ⟨b14, hf⟩ := ck_e hf
              refine sM_conTypes X hP hD hS b14 dX9_constructor_70 (fun H locs hP hD hS => ?_)
              obtain ⟨s15, es15, hf⟩ := bd_e hf
              rw [← es15] at hP hD
              refine lv_aload_n hx hb dX9_constructor_71 rfl (lv_at hl 0 rfl) ?_
              refine lv_dup hx hb dX9_constructor_72 rfl ?_
              refine gM_Mod_cons X hP kw680 dX9_constructor_73 ?_
              refine lv_iconst (v := 1) hx hb dX9_constructor_76 (by decide) ?_
              refine lv_iadd hx hb dX9_constructor_77 ?_
              refine pM_Mod_cons X hP hD hS kw680 dX9_constructor_78 (fun H locs hP hD hS => ?_)
              obtain ⟨s16, es16, hf⟩ := bd_e hf
              rw [← es16] at hP hD
              refine lv_aload_n hx hb dX9_constructor_81 rfl (lv_at hl 0 rfl) ?_
              refine lv_iconst (v := 0) hx hb dX9_constructor_82 (by decide) ?_
              refine pM_Mod_outcomes X hP hD hS kw727 dX9_constructor_83 (fun H locs hP hD hS => ?_)
              obtain ⟨s17, es17, hf⟩ := bd_e hf
              rw [← es17] at hP hD
              refine lv_aload_n hx hb dX9_constructor_86 rfl (lv_at hl 0 rfl) ?_
              refine gM_Mod_cons X hP kw680 dX9_constructor_87 ?_
              refine lv_iconst (v := 1) hx hb dX9_constructor_90 (by decide) ?_
              refine lv_isub hx hb dX9_constructor_91 ?_
              obtain ⟨rfl, rfl⟩ := Prod.mk.inj (Option.some.inj hf)
              exact ret_i X hP hD hS dX9_constructor_92
            · have hf := it_t c9 hf
              refine lv_iconst (v := -1) hx hb dX9_constructor_39 (by decide) ?_
              obtain ⟨rfl, rfl⟩ := Prod.mk.inj (Option.some.inj hf)
              exact ret_i X hP hD hS dX9_constructor_40
end S_X9_constructor
theorem c_X9_constructor (l : Launch) (D : va_G) (cA : ClassId) (A : Nat → Prop) (ad : Nat → Nat) (ta : Nat) (σ : St) (x1 x2 x3 : Int32) (r : Int32) (σ' : St) (hf : F_X9_constructor x1 x2 x3 σ = some (r, σ')) : MI l D cA A (wM cA ad) yX9_constructor cX9_constructor 4 (some .int) rm_X9_constructor [.ref (ad 0), .int x1, .int x2, .int x3] ta σ r σ' 0 0 := by
  refine enter (by decide) (Nat.le_of_ble_eq_true rfl) ?_
  intro p e s m below meth c ls X hnm hP hD hS hl
  exact t_X9_constructor_0 X hf hP hD hS hl
abbrev rm_X9_put : Room := { frames := 0, cells := 0, slots := 0, locals := 0 }
def F_X9_put (x1 : Int32) (σ : St) : Rs :=
  if (gF σ 5) = 160 then (some ((-1), σ)) else (ck (inb (gF σ 5) 160) (bd (sA σ 4 (upd (gA σ 4) (gF σ 5).toNatClampNeg x1)) (fun s3 => bd (sF s3 5 ((gF s3 5) + 1)) (fun s4 => some ((gF s4 5), s4)))))
section S_X9_put
variable {p : Program} {l : Launch} {e : Env} {s : State} {m : MethodId} {args : Array Value} {below : List Frame} {meth : Method} {c : Code}
variable {D : va_G} {cA : ClassId} {A : Nat → Prop} {ad : Nat → Nat} {r : Int32} {σ' : St} {ta : Nat}
set_option maxHeartbeats 4000000 in
set_option maxRecDepth 100000 in
theorem t_X9_put_0  (X : Fx p s m meth c D cA A RX9 cX9_put 2 (some .int))  {x1 : Int32} { σ : St} {H : Heap} {locs : List Loc} {ls : Array Slot} (hf : F_X9_put x1 σ = some (r, σ')) (hP : va_P D vwCl (wM cA ad ta σ) H) (hD : va_D A (wM cA ad ta σ)) (hS : va_S A s.heap H locs) (hl : lv_has ls 2 [(0, .ref (ad 0)), (1, .int x1)]) : W p l e (rm_X9_put) s m args below meth c H locs 0 0 (MQ below (QI D cA A (wM cA ad) r σ' ta) args s 0 0 A) (F0 m 0 ls []) := by
  obtain ⟨hx, hb, hr, hml, hown, hlk, hE, hK, hA⟩ := id X
  rw [F_X9_put] at hf
  refine lv_aload_n hx hb dX9_put_0 rfl (lv_at hl 0 rfl) ?_
  refine gM_Mod_size X hP kw688 dX9_put_1 ?_
  refine lv_sipush (v := 160) hx hb dX9_put_4 (by decide) ?_
  refine lv_icmp_ne (tgt := 12) hx hb dX9_put_7 (by decide) (fun c1 => ?_) (fun c1 => ?_)
  · have hf := it_f c1 hf
    refine lv_aload_n hx hb dX9_put_12 rfl (lv_at hl 0 rfl) ?_
    refine gM_Mod_row X hP kw687 dX9_put_13 ?_
    refine lv_aload_n hx hb dX9_put_16 rfl (lv_at hl 0 rfl) ?_
    refine gM_Mod_size X hP kw688 dX9_put_17 ?_
    refine lv_iload_n hx hb dX9_put_20 rfl (lv_at hl 1 rfl) ?_
    obtain ⟨b2, hf⟩ := ck_e hf
    refine sM_row X hP hD hS b2 dX9_put_21 (fun H locs hP hD hS => ?_)
    obtain ⟨s3, es3, hf⟩ := bd_e hf
    rw [← es3] at hP hD
    refine lv_aload_n hx hb dX9_put_22 rfl (lv_at hl 0 rfl) ?_
    refine lv_dup hx hb dX9_put_23 rfl ?_
    refine gM_Mod_size X hP kw688 dX9_put_24 ?_
    refine lv_iconst (v := 1) hx hb dX9_put_27 (by decide) ?_
    refine lv_iadd hx hb dX9_put_28 ?_
    refine pM_Mod_size X hP hD hS kw688 dX9_put_29 (fun H locs hP hD hS => ?_)
    obtain ⟨s4, es4, hf⟩ := bd_e hf
    rw [← es4] at hP hD
    refine lv_aload_n hx hb dX9_put_32 rfl (lv_at hl 0 rfl) ?_
    refine gM_Mod_size X hP kw688 dX9_put_33 ?_
    obtain ⟨rfl, rfl⟩ := Prod.mk.inj (Option.some.inj hf)
    exact ret_i X hP hD hS dX9_put_36
  · have hf := it_t c1 hf
    refine lv_iconst (v := -1) hx hb dX9_put_10 (by decide) ?_
    obtain ⟨rfl, rfl⟩ := Prod.mk.inj (Option.some.inj hf)
    exact ret_i X hP hD hS dX9_put_11
end S_X9_put
theorem c_X9_put (l : Launch) (D : va_G) (cA : ClassId) (A : Nat → Prop) (ad : Nat → Nat) (ta : Nat) (σ : St) (x1 : Int32) (r : Int32) (σ' : St) (hf : F_X9_put x1 σ = some (r, σ')) : MI l D cA A (wM cA ad) yX9_put cX9_put 2 (some .int) rm_X9_put [.ref (ad 0), .int x1] ta σ r σ' 0 0 := by
  refine enter (by decide) (Nat.le_of_ble_eq_true rfl) ?_
  intro p e s m below meth c ls X hnm hP hD hS hl
  exact t_X9_put_0 X hf hP hD hS hl
abbrev rm_X9_want : Room := { frames := 1, cells := 0, slots := 0, locals := 21 }
def F_X9_want_5  : Nat → Int32 → Int32 → Int32 → St → Rs
  | 0, _, _, _, _ => none
  | n + 1, x2, x3, x4, σ => if x4 < 0 then (some (0, σ)) else (bo (F_X9_typeOf x2 x4 σ) (fun r2 s3 => ck (inb (gF σ 6) 700) (bd (sA s3 10 (upd (gA s3 10) (gF σ 6).toNatClampNeg r2)) (fun s6 => ck (inb (gF s6 6) 700) (bd (sA s6 11 (upd (gA s6 11) (gF s6 6).toNatClampNeg x3)) (fun s8 => ck (inb (gF s8 6) 700) (bd (sA s8 12 (upd (gA s8 12) (gF s8 6).toNatClampNeg x4)) (fun s10 => bd (sF s10 6 ((gF s10 6) + 1)) (fun s11 => F_X9_want_5 n x2 x3 (x4 + (-1)) s11)))))))))
def F_X9_want (x1 : Int32) (x2 : Int32) (x3 : Int32) (σ : St) : Rs :=
  bd (x1 - 1) (fun y1 => F_X9_want_5 5000 x2 x3 y1 σ)
section S_X9_want
variable {p : Program} {l : Launch} {e : Env} {s : State} {m : MethodId} {args : Array Value} {below : List Frame} {meth : Method} {c : Code}
variable {D : va_G} {cA : ClassId} {A : Nat → Prop} {ad : Nat → Nat} {r : Int32} {σ' : St} {ta : Nat}
set_option maxHeartbeats 4000000 in
set_option maxRecDepth 100000 in
theorem t_X9_want_5  (X : Fx p s m meth c D cA A RX9 cX9_want 5 none)  : ∀ (n : Nat) (x2 x3 x4 : Int32) (σ : St) (H : Heap) (locs : List Loc) (ls : Array Slot), F_X9_want_5 n x2 x3 x4 σ = some (r, σ') → va_P D vwCl (wM cA ad ta σ) H → va_D A (wM cA ad ta σ) → va_S A s.heap H locs → lv_has ls 5 [(0, .ref (ad 0)), (2, .int x2), (3, .int x3), (4, .int x4)] → W p l e (rm_X9_want) s m args below meth c H locs 0 0 (MQ below (QV D cA A (wM cA ad) σ' ta) args s 0 0 A) (F0 m 5 ls []) := by
  obtain ⟨hx, hb, hr, hml, hown, hlk, hE, hK, hA⟩ := id X
  intro n
  induction n with
  | zero =>
    intro x2 x3 x4 σ H locs ls hf
    cases (show (none : Rs) = some _ from hf)
  | succ n ih =>
    intro x2 x3 x4 σ H locs ls hf hP hD hS hl
    rw [F_X9_want_5] at hf
    refine lv_iload hx hb dX9_want_5 (lv_at hl 3 rfl) ?_
    refine lv_if_lt (tgt := 62) hx hb dX9_want_7 (by decide) (fun c1 => ?_) (fun c1 => ?_)
    · have hf := it_t c1 hf
      obtain ⟨rfl, rfl⟩ := Prod.mk.inj (Option.some.inj hf)
      exact ret_v X hP hD hS dX9_want_62
    · have hf := it_f c1 hf
      refine lv_aload_n hx hb dX9_want_10 rfl (lv_at hl 0 rfl) ?_
      refine gM_Mod_wanted X hP kw694 dX9_want_11 ?_
      refine lv_aload_n hx hb dX9_want_14 rfl (lv_at hl 0 rfl) ?_
      refine gM_Mod_wants X hP kw697 dX9_want_15 ?_
      refine lv_iload_n hx hb dX9_want_18 rfl (lv_at hl 1 rfl) ?_
      refine lv_iload hx hb dX9_want_19 (lv_at hl 3 rfl) ?_
      obtain ⟨r2, s3, h4, hf⟩ := bo_e hf
      refine callS_i X cs_X9_typeOf kw869 (c_X9_typeOf l D cA A ad ta σ x2 x4 r2 s3 h4) ⟨by decide, by decide⟩ ⟨rfl, rfl⟩ hP hD hS rfl hl rfl (Nat.le_of_ble_eq_true rfl) dX9_want_21 ⟨by decide, by decide⟩ (fun H locs hP hD hS => ?_)
      obtain ⟨b5, hf⟩ := ck_e hf
      refine sM_wanted X hP hD hS b5 dX9_want_24 (fun H locs hP hD hS => ?_)
      obtain ⟨s6, es6, hf⟩ := bd_e hf
      rw [← es6] at hP hD
      refine lv_aload_n hx hb dX9_want_25 rfl (lv_at hl 0 rfl) ?_
      refine gM_Mod_wantedIn X hP kw695 dX9_want_26 ?_
      refine lv_aload_n hx hb dX9_want_29 rfl (lv_at hl 0 rfl) ?_
      refine gM_Mod_wants X hP kw697 dX9_want_30 ?_
      refine lv_iload_n hx hb dX9_want_33 rfl (lv_at hl 2 rfl) ?_
      obtain ⟨b7, hf⟩ := ck_e hf
      refine sM_wantedIn X hP hD hS b7 dX9_want_34 (fun H locs hP hD hS => ?_)
      obtain ⟨s8, es8, hf⟩ := bd_e hf
      rw [← es8] at hP hD
      refine lv_aload_n hx hb dX9_want_35 rfl (lv_at hl 0 rfl) ?_
      refine gM_Mod_wantedAt X hP kw696 dX9_want_36 ?_
      refine lv_aload_n hx hb dX9_want_39 rfl (lv_at hl 0 rfl) ?_
      refine gM_Mod_wants X hP kw697 dX9_want_40 ?_
      refine lv_iload hx hb dX9_want_43 (lv_at hl 3 rfl) ?_
      obtain ⟨b9, hf⟩ := ck_e hf
      refine sM_wantedAt X hP hD hS b9 dX9_want_45 (fun H locs hP hD hS => ?_)
      obtain ⟨s10, es10, hf⟩ := bd_e hf
      rw [← es10] at hP hD
      refine lv_aload_n hx hb dX9_want_46 rfl (lv_at hl 0 rfl) ?_
      refine lv_dup hx hb dX9_want_47 rfl ?_
      refine gM_Mod_wants X hP kw697 dX9_want_48 ?_
      refine lv_iconst (v := 1) hx hb dX9_want_51 (by decide) ?_
      refine lv_iadd hx hb dX9_want_52 ?_
      refine pM_Mod_wants X hP hD hS kw697 dX9_want_53 (fun H locs hP hD hS => ?_)
      obtain ⟨s11, es11, hf⟩ := bd_e hf
      rw [← es11] at hP hD
      refine lv_iinc (v := (x4 + (-1))) (lv' := [(4, .int (x4 + (-1))), (0, .ref (ad 0)), (2, .int x2), (3, .int x3)]) hx hb dX9_want_56 hl (k := 3) rfl rfl (by decide) rfl (fun ls hl => ?_)
      refine lv_goto (tgt := 5) hx hb dX9_want_59 (by decide) ?_
      exact ih x2 x3 (x4 + (-1)) s11 _ _ _ hf hP hD hS (lv_sub hl [1, 2, 3, 0] rfl)
set_option maxHeartbeats 4000000 in
set_option maxRecDepth 100000 in
theorem t_X9_want_0  (X : Fx p s m meth c D cA A RX9 cX9_want 5 none)  {x1 x2 x3 : Int32} { σ : St} {H : Heap} {locs : List Loc} {ls : Array Slot} (hf : F_X9_want x1 x2 x3 σ = some (r, σ')) (hP : va_P D vwCl (wM cA ad ta σ) H) (hD : va_D A (wM cA ad ta σ)) (hS : va_S A s.heap H locs) (hl : lv_has ls 5 [(0, .ref (ad 0)), (1, .int x1), (2, .int x2), (3, .int x3)]) : W p l e (rm_X9_want) s m args below meth c H locs 0 0 (MQ below (QV D cA A (wM cA ad) σ' ta) args s 0 0 A) (F0 m 0 ls []) := by
  obtain ⟨hx, hb, hr, hml, hown, hlk, hE, hK, hA⟩ := id X
  rw [F_X9_want] at hf
  refine lv_iload_n hx hb dX9_want_0 rfl (lv_at hl 1 rfl) ?_
  refine lv_iconst (v := 1) hx hb dX9_want_1 (by decide) ?_
  refine lv_isub hx hb dX9_want_2 ?_
  refine lv_topi (fun y1 ey1 => ?_)
  have hf := bd_x ey1 hf
  refine lv_istore (lv' := [(4, .int y1), (0, .ref (ad 0)), (1, .int x1), (2, .int x2), (3, .int x3)]) hx hb dX9_want_3 hl (by decide) rfl (fun ls hl => ?_)
  exact t_X9_want_5 X  5000 x2 x3 y1 σ _ _ _ hf hP hD hS (lv_sub hl [1, 3, 4, 0] rfl)
end S_X9_want
theorem c_X9_want (l : Launch) (D : va_G) (cA : ClassId) (A : Nat → Prop) (ad : Nat → Nat) (ta : Nat) (σ : St) (x1 x2 x3 : Int32) (r : Int32) (σ' : St) (hf : F_X9_want x1 x2 x3 σ = some (r, σ')) : MV l D cA A (wM cA ad) yX9_want cX9_want 5 none rm_X9_want [.ref (ad 0), .int x1, .int x2, .int x3] ta σ σ' 0 0 := by
  refine enter (by decide) (Nat.le_of_ble_eq_true rfl) ?_
  intro p e s m below meth c ls X hnm hP hD hS hl
  exact t_X9_want_0 X hf hP hD hS hl
abbrev rm_X9_fits : Room := { frames := 0, cells := 0, slots := 0, locals := 0 }
def F_X9_fits_89 (x2 : Int32) (x5 : Int32) (σ : St) : Rs :=
  ck (inb x5 8) (bd (gA σ 15 x5.toNatClampNeg) (fun y2 => if y2 = x2 then (ck (isB 1) (some (1, σ))) else (ck (isB 0) (some (0, σ)))))
def F_X9_fits (x1 : Int32) (x2 : Int32) (x3 : Int32) (σ : St) : Rs :=
  ck (inb x1 160) (bd (gA σ 4 x1.toNatClampNeg) (fun y2 => if y2 < 0 then (if x3 = 0 then (if y2 = (-1) then (ck (isB 1) (some (1, σ))) else (ck (isB 0) (some (0, σ)))) else (if (-8) ≤ y2 then (bd ((-1) - y2) (fun y6 => ck (inb y6 8) (bd (gA σ 15 y6.toNatClampNeg) (fun y8 => if y8 = (-1) then (ck (inb y6 8) (bd (sA σ 15 (upd (gA σ 15) y6.toNatClampNeg x2)) (fun s11 => F_X9_fits_89 x2 y6 s11))) else (F_X9_fits_89 x2 y6 σ))))) else (ck (isB 0) (some (0, σ))))) else (if (gF σ 1) ≤ y2 then (ck (isB 0) (some (0, σ))) else (ck (inb y2 60) (bd (gA σ 1 y2.toNatClampNeg) (fun y19 => if y19 = x2 then (ck (isB 1) (some (1, σ))) else (ck (isB 0) (some (0, σ)))))))))
section S_X9_fits
variable {p : Program} {l : Launch} {e : Env} {s : State} {m : MethodId} {args : Array Value} {below : List Frame} {meth : Method} {c : Code}
variable {D : va_G} {cA : ClassId} {A : Nat → Prop} {ad : Nat → Nat} {r : Int32} {σ' : St} {ta : Nat}
set_option maxHeartbeats 4000000 in
set_option maxRecDepth 100000 in
theorem t_X9_fits_89  (X : Fx p s m meth c D cA A RX9 cX9_fits 6 (some .boolean))  {x2 x5 : Int32} { σ : St} {H : Heap} {locs : List Loc} {ls : Array Slot} (hf : F_X9_fits_89 x2 x5 σ = some (r, σ')) (hP : va_P D vwCl (wM cA ad ta σ) H) (hD : va_D A (wM cA ad ta σ)) (hS : va_S A s.heap H locs) (hl : lv_has ls 6 [(0, .ref (ad 0)), (2, .int x2), (5, .int x5)]) : W p l e (rm_X9_fits) s m args below meth c H locs 0 0 (MQ below (QI D cA A (wM cA ad) r σ' ta) args s 0 0 A) (F0 m 89 ls []) := by
  obtain ⟨hx, hb, hr, hml, hown, hlk, hE, hK, hA⟩ := id X
  rw [F_X9_fits_89] at hf
  refine lv_aload_n hx hb dX9_fits_89 rfl (lv_at hl 0 rfl) ?_
  refine gM_Mod_nameType X hP kw700 dX9_fits_90 ?_
  refine lv_iload hx hb dX9_fits_93 (lv_at hl 2 rfl) ?_
  obtain ⟨b1, hf⟩ := ck_e hf
  refine lM_nameType X hP b1 dX9_fits_95 ?_
  refine lv_topi (fun y2 ey2 => ?_)
  have hf := bd_x ey2 hf
  refine lv_iload_n hx hb dX9_fits_96 rfl (lv_at hl 1 rfl) ?_
  refine lv_icmp_ne (tgt := 104) hx hb dX9_fits_97 (by decide) (fun c3 => ?_) (fun c3 => ?_)
  · have hf := it_f c3 hf
    refine lv_iconst (v := 0) hx hb dX9_fits_104 (by decide) ?_
    obtain ⟨b4, hf⟩ := ck_e hf
    obtain ⟨rfl, rfl⟩ := Prod.mk.inj (Option.some.inj hf)
    exact ret_z X b4 hP hD hS dX9_fits_105
  · have hf := it_t c3 hf
    refine lv_iconst (v := 1) hx hb dX9_fits_100 (by decide) ?_
    refine lv_goto (tgt := 105) hx hb dX9_fits_101 (by decide) ?_
    obtain ⟨b5, hf⟩ := ck_e hf
    obtain ⟨rfl, rfl⟩ := Prod.mk.inj (Option.some.inj hf)
    exact ret_z X b5 hP hD hS dX9_fits_105
set_option maxHeartbeats 4000000 in
set_option maxRecDepth 100000 in
theorem t_X9_fits_0  (X : Fx p s m meth c D cA A RX9 cX9_fits 6 (some .boolean))  {x1 x2 x3 : Int32} { σ : St} {H : Heap} {locs : List Loc} {ls : Array Slot} (hf : F_X9_fits x1 x2 x3 σ = some (r, σ')) (hP : va_P D vwCl (wM cA ad ta σ) H) (hD : va_D A (wM cA ad ta σ)) (hS : va_S A s.heap H locs) (hl : lv_has ls 6 [(0, .ref (ad 0)), (1, .int x1), (2, .int x2), (3, .int x3)]) : W p l e (rm_X9_fits) s m args below meth c H locs 0 0 (MQ below (QI D cA A (wM cA ad) r σ' ta) args s 0 0 A) (F0 m 0 ls []) := by
  obtain ⟨hx, hb, hr, hml, hown, hlk, hE, hK, hA⟩ := id X
  rw [F_X9_fits] at hf
  refine lv_aload_n hx hb dX9_fits_0 rfl (lv_at hl 0 rfl) ?_
  refine gM_Mod_row X hP kw687 dX9_fits_1 ?_
  refine lv_iload_n hx hb dX9_fits_4 rfl (lv_at hl 1 rfl) ?_
  obtain ⟨b1, hf⟩ := ck_e hf
  refine lM_row X hP b1 dX9_fits_5 ?_
  refine lv_topi (fun y2 ey2 => ?_)
  have hf := bd_x ey2 hf
  refine lv_istore (lv' := [(4, .int y2), (0, .ref (ad 0)), (1, .int x1), (2, .int x2), (3, .int x3)]) hx hb dX9_fits_6 hl (by decide) rfl (fun ls hl => ?_)
  refine lv_iload hx hb dX9_fits_8 (lv_at hl 0 rfl) ?_
  refine lv_if_lt (tgt := 39) hx hb dX9_fits_10 (by decide) (fun c3 => ?_) (fun c3 => ?_)
  · have hf := it_t c3 hf
    refine lv_iload_n hx hb dX9_fits_39 rfl (lv_at hl 4 rfl) ?_
    refine lv_if_ne (tgt := 55) hx hb dX9_fits_40 (by decide) (fun c4 => ?_) (fun c4 => ?_)
    · have hf := it_f c4 hf
      refine lv_iload hx hb dX9_fits_55 (lv_at hl 0 rfl) ?_
      refine lv_bipush (v := -8) hx hb dX9_fits_57 (by decide) ?_
      refine lv_icmp_ge (tgt := 64) hx hb dX9_fits_59 (by decide) (fun c5 => ?_) (fun c5 => ?_)
      · have hf := it_t c5 hf
        refine lv_iconst (v := -1) hx hb dX9_fits_64 (by decide) ?_
        refine lv_iload hx hb dX9_fits_65 (lv_at hl 0 rfl) ?_
        refine lv_isub hx hb dX9_fits_67 ?_
        refine lv_topi (fun y6 ey6 => ?_)
        have hf := bd_x ey6 hf
        refine lv_istore (lv' := [(5, .int y6), (4, .int y2), (0, .ref (ad 0)), (1, .int x1), (2, .int x2), (3, .int x3)]) hx hb dX9_fits_68 hl (by decide) rfl (fun ls hl => ?_)
        refine lv_aload_n hx hb dX9_fits_70 rfl (lv_at hl 2 rfl) ?_
        refine gM_Mod_nameType X hP kw700 dX9_fits_71 ?_
        refine lv_iload hx hb dX9_fits_74 (lv_at hl 0 rfl) ?_
        obtain ⟨b7, hf⟩ := ck_e hf
        refine lM_nameType X hP b7 dX9_fits_76 ?_
        refine lv_topi (fun y8 ey8 => ?_)
        have hf := bd_x ey8 hf
        refine lv_iconst (v := -1) hx hb dX9_fits_77 (by decide) ?_
        refine lv_icmp_ne (tgt := 89) hx hb dX9_fits_78 (by decide) (fun c9 => ?_) (fun c9 => ?_)
        · have hf := it_f c9 hf
          exact t_X9_fits_89 X  hf hP hD hS (lv_sub hl [2, 4, 0] rfl)
        · have hf := it_t c9 hf
          refine lv_aload_n hx hb dX9_fits_81 rfl (lv_at hl 2 rfl) ?_
          refine gM_Mod_nameType X hP kw700 dX9_fits_82 ?_
          refine lv_iload hx hb dX9_fits_85 (lv_at hl 0 rfl) ?_
          refine lv_iload_n hx hb dX9_fits_87 rfl (lv_at hl 4 rfl) ?_
          obtain ⟨b10, hf⟩ := ck_e hf
          refine sM_nameType X hP hD hS b10 dX9_fits_88 (fun H locs hP hD hS => ?_)
          obtain ⟨s11, es11, hf⟩ := bd_e hf
          rw [← es11] at hP hD
          exact t_X9_fits_89 X  hf hP hD hS (lv_sub hl [2, 4, 0] rfl)
      · have hf := it_f c5 hf
        refine lv_iconst (v := 0) hx hb dX9_fits_62 (by decide) ?_
        obtain ⟨b12, hf⟩ := ck_e hf
        obtain ⟨rfl, rfl⟩ := Prod.mk.inj (Option.some.inj hf)
        exact ret_z X b12 hP hD hS dX9_fits_63
    · have hf := it_t c4 hf
      refine lv_iload hx hb dX9_fits_43 (lv_at hl 0 rfl) ?_
      refine lv_iconst (v := -1) hx hb dX9_fits_45 (by decide) ?_
      refine lv_icmp_ne (tgt := 53) hx hb dX9_fits_46 (by decide) (fun c13 => ?_) (fun c13 => ?_)
      · have hf := it_f c13 hf
        refine lv_iconst (v := 0) hx hb dX9_fits_53 (by decide) ?_
        obtain ⟨b14, hf⟩ := ck_e hf
        obtain ⟨rfl, rfl⟩ := Prod.mk.inj (Option.some.inj hf)
        exact ret_z X b14 hP hD hS dX9_fits_54
      · have hf := it_t c13 hf
        refine lv_iconst (v := 1) hx hb dX9_fits_49 (by decide) ?_
        refine lv_goto (tgt := 54) hx hb dX9_fits_50 (by decide) ?_
        obtain ⟨b15, hf⟩ := ck_e hf
        obtain ⟨rfl, rfl⟩ := Prod.mk.inj (Option.some.inj hf)
        exact ret_z X b15 hP hD hS dX9_fits_54
  · have hf := it_f c3 hf
    refine lv_iload hx hb dX9_fits_13 (lv_at hl 0 rfl) ?_
    refine lv_aload_n hx hb dX9_fits_15 rfl (lv_at hl 1 rfl) ?_
    refine gM_Mod_cons X hP kw680 dX9_fits_16 ?_
    refine lv_icmp_ge (tgt := 37) hx hb dX9_fits_19 (by decide) (fun c16 => ?_) (fun c16 => ?_)
    · have hf := it_t c16 hf
      refine lv_iconst (v := 0) hx hb dX9_fits_37 (by decide) ?_
      obtain ⟨b17, hf⟩ := ck_e hf
      obtain ⟨rfl, rfl⟩ := Prod.mk.inj (Option.some.inj hf)
      exact ret_z X b17 hP hD hS dX9_fits_38
    · have hf := it_f c16 hf
      refine lv_aload_n hx hb dX9_fits_22 rfl (lv_at hl 1 rfl) ?_
      refine gM_Mod_conType X hP kw681 dX9_fits_23 ?_
      refine lv_iload hx hb dX9_fits_26 (lv_at hl 0 rfl) ?_
      obtain ⟨b18, hf⟩ := ck_e hf
      refine lM_conType X hP b18 dX9_fits_28 ?_
      refine lv_topi (fun y19 ey19 => ?_)
      have hf := bd_x ey19 hf
      refine lv_iload_n hx hb dX9_fits_29 rfl (lv_at hl 3 rfl) ?_
      refine lv_icmp_ne (tgt := 37) hx hb dX9_fits_30 (by decide) (fun c20 => ?_) (fun c20 => ?_)
      · have hf := it_f c20 hf
        refine lv_iconst (v := 0) hx hb dX9_fits_37 (by decide) ?_
        obtain ⟨b21, hf⟩ := ck_e hf
        obtain ⟨rfl, rfl⟩ := Prod.mk.inj (Option.some.inj hf)
        exact ret_z X b21 hP hD hS dX9_fits_38
      · have hf := it_t c20 hf
        refine lv_iconst (v := 1) hx hb dX9_fits_33 (by decide) ?_
        refine lv_goto (tgt := 38) hx hb dX9_fits_34 (by decide) ?_
        obtain ⟨b22, hf⟩ := ck_e hf
        obtain ⟨rfl, rfl⟩ := Prod.mk.inj (Option.some.inj hf)
        exact ret_z X b22 hP hD hS dX9_fits_38
end S_X9_fits
theorem c_X9_fits (l : Launch) (D : va_G) (cA : ClassId) (A : Nat → Prop) (ad : Nat → Nat) (ta : Nat) (σ : St) (x1 x2 x3 : Int32) (r : Int32) (σ' : St) (hf : F_X9_fits x1 x2 x3 σ = some (r, σ')) : MI l D cA A (wM cA ad) yX9_fits cX9_fits 6 (some .boolean) rm_X9_fits [.ref (ad 0), .int x1, .int x2, .int x3] ta σ r σ' 0 0 := by
  refine enter (by decide) (Nat.le_of_ble_eq_true rfl) ?_
  intro p e s m below meth c ls X hnm hP hD hS hl
  exact t_X9_fits_0 X hf hP hD hS hl
abbrev rm_X9_wrong : Room := { frames := 2, cells := 0, slots := 0, locals := 45 }
def F_X9_wrong_185  (σ : St) : Rs :=
  if (gF σ 5) ≤ 0 then (some ((-1), σ)) else (some (0, σ))
def F_X9_wrong_161 (x2 : Int32) (σ : St) : Rs :=
  if (gF σ 5) ≤ (x2 + 1) then (some ((-1), σ)) else (some ((x2 + 1), σ))
def F_X9_wrong_154 (k41 : Int32 → Int32 → St → Rs) (x1 : Int32) (x2 : Int32) (σ : St) : Rs :=
  if (gF σ 6) = 0 then (F_X9_wrong_161 x2 σ) else (k41 x1 (x2 + 1) σ)
def F_X9_wrong_41  : Nat → Int32 → Int32 → St → Rs
  | 0, _, _, _ => none
  | n + 1, x1, x2, σ => if (gF σ 6) ≤ 0 then (F_X9_wrong_185 σ) else (if x2 = (gF σ 5) then (some (x2, σ)) else (ck (inb ((gF σ 6) - 1) 700) (bd (gA σ 10 ((gF σ 6) - 1).toNatClampNeg) (fun y4 => bo (F_X9_fits x2 y4 x1 σ) (fun r5 s6 => if r5 = 0 then (some (x2, s6)) else (bd (sF s6 6 ((gF s6 6) - 1)) (fun s9 => ck (inb (gF s9 6) 700) (bd (gA s9 11 (gF s9 6).toNatClampNeg) (fun y11 => ck (inb x2 160) (bd (sA s9 13 (upd (gA s9 13) x2.toNatClampNeg y11)) (fun s13 => ck (inb (gF s13 6) 700) (bd (gA s13 12 (gF s13 6).toNatClampNeg) (fun y15 => ck (inb x2 160) (bd (sA s13 14 (upd (gA s13 14) x2.toNatClampNeg y15)) (fun s17 => ck (inb x2 160) (bd (gA s17 4 x2.toNatClampNeg) (fun y19 => if y19 < 0 then (F_X9_wrong_154 (F_X9_wrong_41 n) x1 x2 s17) else (ck (inb x2 160) (bd (gA s17 4 x2.toNatClampNeg) (fun y22 => ck (inb y22 60) (bd (gA s17 2 y22.toNatClampNeg) (fun y24 => ck (inb x2 160) (bd (gA s17 4 x2.toNatClampNeg) (fun y26 => ck (inb y26 60) (bd (gA s17 3 y26.toNatClampNeg) (fun y28 => bo (F_X9_want y24 y28 x2 s17) (fun r29 s30 => F_X9_wrong_154 (F_X9_wrong_41 n) x1 x2 s30)))))))))))))))))))))))))))
def F_X9_wrong_21 (x1 : Int32) (σ : St) : Rs :=
  bd (sF σ 6 0) (fun s1 => bo (F_X9_want (gF s1 2) (gF s1 3) (-1) s1) (fun r2 s3 => F_X9_wrong_41 5000 x1 0 s3))
def F_X9_wrong_2  : Nat → Int32 → Int32 → St → Rs
  | 0, _, _, _ => none
  | n + 1, x1, x2, σ => if 8 ≤ x2 then (F_X9_wrong_21 x1 σ) else (ck (inb x2 8) (bd (sA σ 15 (upd (gA σ 15) x2.toNatClampNeg (-1))) (fun s3 => F_X9_wrong_2 n x1 (x2 + 1) s3)))
def F_X9_wrong (x1 : Int32) (σ : St) : Rs :=
  F_X9_wrong_2 5000 x1 0 σ
section S_X9_wrong
variable {p : Program} {l : Launch} {e : Env} {s : State} {m : MethodId} {args : Array Value} {below : List Frame} {meth : Method} {c : Code}
variable {D : va_G} {cA : ClassId} {A : Nat → Prop} {ad : Nat → Nat} {r : Int32} {σ' : St} {ta : Nat}
set_option maxHeartbeats 4000000 in
set_option maxRecDepth 100000 in
theorem t_X9_wrong_185  (X : Fx p s m meth c D cA A RX9 cX9_wrong 3 (some .int))  { σ : St} {H : Heap} {locs : List Loc} {ls : Array Slot} (hf : F_X9_wrong_185 σ = some (r, σ')) (hP : va_P D vwCl (wM cA ad ta σ) H) (hD : va_D A (wM cA ad ta σ)) (hS : va_S A s.heap H locs) (hl : lv_has ls 3 [(0, .ref (ad 0))]) : W p l e (rm_X9_wrong) s m args below meth c H locs 0 0 (MQ below (QI D cA A (wM cA ad) r σ' ta) args s 0 0 A) (F0 m 185 ls []) := by
  obtain ⟨hx, hb, hr, hml, hown, hlk, hE, hK, hA⟩ := id X
  rw [F_X9_wrong_185] at hf
  refine lv_aload_n hx hb dX9_wrong_185 rfl (lv_at hl 0 rfl) ?_
  refine gM_Mod_size X hP kw688 dX9_wrong_186 ?_
  refine lv_if_le (tgt := 196) hx hb dX9_wrong_189 (by decide) (fun c1 => ?_) (fun c1 => ?_)
  · have hf := it_t c1 hf
    refine lv_iconst (v := -1) hx hb dX9_wrong_196 (by decide) ?_
    obtain ⟨rfl, rfl⟩ := Prod.mk.inj (Option.some.inj hf)
    exact ret_i X hP hD hS dX9_wrong_197
  · have hf := it_f c1 hf
    refine lv_iconst (v := 0) hx hb dX9_wrong_192 (by decide) ?_
    refine lv_goto (tgt := 197) hx hb dX9_wrong_193 (by decide) ?_
    obtain ⟨rfl, rfl⟩ := Prod.mk.inj (Option.some.inj hf)
    exact ret_i X hP hD hS dX9_wrong_197
set_option maxHeartbeats 4000000 in
set_option maxRecDepth 100000 in
theorem t_X9_wrong_161  (X : Fx p s m meth c D cA A RX9 cX9_wrong 3 (some .int))  {x2 : Int32} { σ : St} {H : Heap} {locs : List Loc} {ls : Array Slot} (hf : F_X9_wrong_161 x2 σ = some (r, σ')) (hP : va_P D vwCl (wM cA ad ta σ) H) (hD : va_D A (wM cA ad ta σ)) (hS : va_S A s.heap H locs) (hl : lv_has ls 3 [(0, .ref (ad 0)), (2, .int x2)]) : W p l e (rm_X9_wrong) s m args below meth c H locs 0 0 (MQ below (QI D cA A (wM cA ad) r σ' ta) args s 0 0 A) (F0 m 161 ls []) := by
  obtain ⟨hx, hb, hr, hml, hown, hlk, hE, hK, hA⟩ := id X
  rw [F_X9_wrong_161] at hf
  refine lv_iload_n hx hb dX9_wrong_161 rfl (lv_at hl 1 rfl) ?_
  refine lv_iconst (v := 1) hx hb dX9_wrong_162 (by decide) ?_
  refine lv_iadd hx hb dX9_wrong_163 ?_
  refine lv_aload_n hx hb dX9_wrong_164 rfl (lv_at hl 0 rfl) ?_
  refine gM_Mod_size X hP kw688 dX9_wrong_165 ?_
  refine lv_icmp_ge (tgt := 177) hx hb dX9_wrong_168 (by decide) (fun c1 => ?_) (fun c1 => ?_)
  · have hf := it_t c1 hf
    refine lv_iconst (v := -1) hx hb dX9_wrong_177 (by decide) ?_
    obtain ⟨rfl, rfl⟩ := Prod.mk.inj (Option.some.inj hf)
    exact ret_i X hP hD hS dX9_wrong_178
  · have hf := it_f c1 hf
    refine lv_iload_n hx hb dX9_wrong_171 rfl (lv_at hl 1 rfl) ?_
    refine lv_iconst (v := 1) hx hb dX9_wrong_172 (by decide) ?_
    refine lv_iadd hx hb dX9_wrong_173 ?_
    refine lv_goto (tgt := 178) hx hb dX9_wrong_174 (by decide) ?_
    obtain ⟨rfl, rfl⟩ := Prod.mk.inj (Option.some.inj hf)
    exact ret_i X hP hD hS dX9_wrong_178
set_option maxHeartbeats 4000000 in
set_option maxRecDepth 100000 in
theorem t_X9_wrong_154 {k41 : Int32 → Int32 → St → Rs} (X : Fx p s m meth c D cA A RX9 cX9_wrong 3 (some .int)) (K41 : ∀ (x1 x2 : Int32) (σ : St) (H : Heap) (locs : List Loc) (ls : Array Slot), k41 x1 x2 σ = some (r, σ') → va_P D vwCl (wM cA ad ta σ) H → va_D A (wM cA ad ta σ) → va_S A s.heap H locs → lv_has ls 3 [(0, .ref (ad 0)), (1, .int x1), (2, .int x2)] → W p l e (rm_X9_wrong) s m args below meth c H locs 0 0 (MQ below (QI D cA A (wM cA ad) r σ' ta) args s 0 0 A) (F0 m 41 ls [])) {x1 x2 : Int32} { σ : St} {H : Heap} {locs : List Loc} {ls : Array Slot} (hf : F_X9_wrong_154 k41 x1 x2 σ = some (r, σ')) (hP : va_P D vwCl (wM cA ad ta σ) H) (hD : va_D A (wM cA ad ta σ)) (hS : va_S A s.heap H locs) (hl : lv_has ls 3 [(0, .ref (ad 0)), (1, .int x1), (2, .int x2)]) : W p l e (rm_X9_wrong) s m args below meth c H locs 0 0 (MQ below (QI D cA A (wM cA ad) r σ' ta) args s 0 0 A) (F0 m 154 ls []) := by
  obtain ⟨hx, hb, hr, hml, hown, hlk, hE, hK, hA⟩ := id X
  rw [F_X9_wrong_154] at hf
  refine lv_aload_n hx hb dX9_wrong_154 rfl (lv_at hl 0 rfl) ?_
  refine gM_Mod_wants X hP kw697 dX9_wrong_155 ?_
  refine lv_if_ne (tgt := 179) hx hb dX9_wrong_158 (by decide) (fun c1 => ?_) (fun c1 => ?_)
  · have hf := it_f c1 hf
    refine lv_iinc (v := (x2 + 1)) (lv' := [(2, .int (x2 + 1)), (0, .ref (ad 0)), (1, .int x1)]) hx hb dX9_wrong_179 hl (k := 2) rfl rfl (by decide) rfl (fun ls hl => ?_)
    refine lv_goto (tgt := 41) hx hb dX9_wrong_182 (by decide) ?_
    exact K41 x1 (x2 + 1) σ _ _ _ hf hP hD hS (lv_sub hl [1, 2, 0] rfl)
  · have hf := it_t c1 hf
    exact t_X9_wrong_161 X  hf hP hD hS (lv_sub hl [0, 2] rfl)
set_option maxHeartbeats 4000000 in
set_option maxRecDepth 100000 in
theorem t_X9_wrong_41  (X : Fx p s m meth c D cA A RX9 cX9_wrong 3 (some .int))  : ∀ (n : Nat) (x1 x2 : Int32) (σ : St) (H : Heap) (locs : List Loc) (ls : Array Slot), F_X9_wrong_41 n x1 x2 σ = some (r, σ') → va_P D vwCl (wM cA ad ta σ) H → va_D A (wM cA ad ta σ) → va_S A s.heap H locs → lv_has ls 3 [(0, .ref (ad 0)), (1, .int x1), (2, .int x2)] → W p l e (rm_X9_wrong) s m args below meth c H locs 0 0 (MQ below (QI D cA A (wM cA ad) r σ' ta) args s 0 0 A) (F0 m 41 ls []) := by
  obtain ⟨hx, hb, hr, hml, hown, hlk, hE, hK, hA⟩ := id X
  intro n
  induction n with
  | zero =>
    intro x1 x2 σ H locs ls hf
    cases (show (none : Rs) = some _ from hf)
  | succ n ih =>
    intro x1 x2 σ H locs ls hf hP hD hS hl
    rw [F_X9_wrong_41] at hf
    refine lv_aload_n hx hb dX9_wrong_41 rfl (lv_at hl 0 rfl) ?_
    refine gM_Mod_wants X hP kw697 dX9_wrong_42 ?_
    refine lv_if_le (tgt := 185) hx hb dX9_wrong_45 (by decide) (fun c1 => ?_) (fun c1 => ?_)
    · have hf := it_t c1 hf
      exact t_X9_wrong_185 X  hf hP hD hS (lv_sub hl [0] rfl)
    · have hf := it_f c1 hf
      refine lv_iload_n hx hb dX9_wrong_48 rfl (lv_at hl 2 rfl) ?_
      refine lv_aload_n hx hb dX9_wrong_49 rfl (lv_at hl 0 rfl) ?_
      refine gM_Mod_size X hP kw688 dX9_wrong_50 ?_
      refine lv_icmp_eq (tgt := 76) hx hb dX9_wrong_53 (by decide) (fun c2 => ?_) (fun c2 => ?_)
      · have hf := it_t c2 hf
        refine lv_iload_n hx hb dX9_wrong_76 rfl (lv_at hl 2 rfl) ?_
        obtain ⟨rfl, rfl⟩ := Prod.mk.inj (Option.some.inj hf)
        exact ret_i X hP hD hS dX9_wrong_77
      · have hf := it_f c2 hf
        refine lv_aload_n hx hb dX9_wrong_56 rfl (lv_at hl 0 rfl) ?_
        refine lv_iload_n hx hb dX9_wrong_57 rfl (lv_at hl 2 rfl) ?_
        refine lv_aload_n hx hb dX9_wrong_58 rfl (lv_at hl 0 rfl) ?_
        refine gM_Mod_wanted X hP kw694 dX9_wrong_59 ?_
        refine lv_aload_n hx hb dX9_wrong_62 rfl (lv_at hl 0 rfl) ?_
        refine gM_Mod_wants X hP kw697 dX9_wrong_63 ?_
        refine lv_iconst (v := 1) hx hb dX9_wrong_66 (by decide) ?_
        refine lv_isub hx hb dX9_wrong_67 ?_
        obtain ⟨b3, hf⟩ := ck_e hf
        refine lM_wanted X hP b3 dX9_wrong_68 ?_
        refine lv_topi (fun y4 ey4 => ?_)
        have hf := bd_x ey4 hf
        refine lv_iload_n hx hb dX9_wrong_69 rfl (lv_at hl 1 rfl) ?_
        obtain ⟨r5, s6, h7, hf⟩ := bo_e hf
        refine callV_i X cv_X9_fits kw932 (c_X9_fits l D cA A ad ta σ x2 y4 x1 r5 s6 h7) ⟨by decide, by decide⟩ ⟨rfl, rfl⟩ hP hD hS (q0 := 0) (ci := 9) rfl rfl rfl rfl hl rfl (Nat.le_of_ble_eq_true rfl) dX9_wrong_70 ⟨by decide, by decide⟩ (fun H locs hP hD hS => ?_)
        refine lv_if_ne (tgt := 78) hx hb dX9_wrong_73 (by decide) (fun c8 => ?_) (fun c8 => ?_)
        · have hf := it_f c8 hf
          refine lv_aload_n hx hb dX9_wrong_78 rfl (lv_at hl 0 rfl) ?_
          refine lv_dup hx hb dX9_wrong_79 rfl ?_
          refine gM_Mod_wants X hP kw697 dX9_wrong_80 ?_
          refine lv_iconst (v := 1) hx hb dX9_wrong_83 (by decide) ?_
          refine lv_isub hx hb dX9_wrong_84 ?_
          refine pM_Mod_wants X hP hD hS kw697 dX9_wrong_85 (fun H locs hP hD hS => ?_)
          obtain ⟨s9, es9, hf⟩ := bd_e hf
          rw [← es9] at hP hD
          refine lv_aload_n hx hb dX9_wrong_88 rfl (lv_at hl 0 rfl) ?_
          refine gM_Mod_in X hP kw698 dX9_wrong_89 ?_
          refine lv_iload_n hx hb dX9_wrong_92 rfl (lv_at hl 2 rfl) ?_
          refine lv_aload_n hx hb dX9_wrong_93 rfl (lv_at hl 0 rfl) ?_
          refine gM_Mod_wantedIn X hP kw695 dX9_wrong_94 ?_
          refine lv_aload_n hx hb dX9_wrong_97 rfl (lv_at hl 0 rfl) ?_
          refine gM_Mod_wants X hP kw697 dX9_wrong_98 ?_
          obtain ⟨b10, hf⟩ := ck_e hf
          refine lM_wantedIn X hP b10 dX9_wrong_101 ?_
          refine lv_topi (fun y11 ey11 => ?_)
          have hf := bd_x ey11 hf
          obtain ⟨b12, hf⟩ := ck_e hf
          refine sM_in X hP hD hS b12 dX9_wrong_102 (fun H locs hP hD hS => ?_)
          obtain ⟨s13, es13, hf⟩ := bd_e hf
          rw [← es13] at hP hD
          refine lv_aload_n hx hb dX9_wrong_103 rfl (lv_at hl 0 rfl) ?_
          refine gM_Mod_as X hP kw699 dX9_wrong_104 ?_
          refine lv_iload_n hx hb dX9_wrong_107 rfl (lv_at hl 2 rfl) ?_
          refine lv_aload_n hx hb dX9_wrong_108 rfl (lv_at hl 0 rfl) ?_
          refine gM_Mod_wantedAt X hP kw696 dX9_wrong_109 ?_
          refine lv_aload_n hx hb dX9_wrong_112 rfl (lv_at hl 0 rfl) ?_
          refine gM_Mod_wants X hP kw697 dX9_wrong_113 ?_
          obtain ⟨b14, hf⟩ := ck_e hf
          refine lM_wantedAt X hP b14 dX9_wrong_116 ?_
          refine lv_topi (fun y15 ey15 => ?_)
          have hf := bd_x ey15 hf
          obtain ⟨b16, hf⟩ := ck_e hf
          refine sM_as X hP hD hS b16 dX9_wrong_117 (fun H locs hP hD hS => ?_)
          obtain ⟨s17, es17, hf⟩ := bd_e hf
          rw [← es17] at hP hD
          refine lv_aload_n hx hb dX9_wrong_118 rfl (lv_at hl 0 rfl) ?_
          refine gM_Mod_row X hP kw687 dX9_wrong_119 ?_
          refine lv_iload_n hx hb dX9_wrong_122 rfl (lv_at hl 2 rfl) ?_
          obtain ⟨b18, hf⟩ := ck_e hf
          refine lM_row X hP b18 dX9_wrong_123 ?_
          refine lv_topi (fun y19 ey19 => ?_)
          have hf := bd_x ey19 hf
          refine lv_if_lt (tgt := 154) hx hb dX9_wrong_124 (by decide) (fun c20 => ?_) (fun c20 => ?_)
          · have hf := it_t c20 hf
            exact t_X9_wrong_154 X ih hf hP hD hS (lv_sub hl [0, 1, 2] rfl)
          · have hf := it_f c20 hf
            refine lv_aload_n hx hb dX9_wrong_127 rfl (lv_at hl 0 rfl) ?_
            refine lv_aload_n hx hb dX9_wrong_128 rfl (lv_at hl 0 rfl) ?_
            refine gM_Mod_arity X hP kw682 dX9_wrong_129 ?_
            refine lv_aload_n hx hb dX9_wrong_132 rfl (lv_at hl 0 rfl) ?_
            refine gM_Mod_row X hP kw687 dX9_wrong_133 ?_
            refine lv_iload_n hx hb dX9_wrong_136 rfl (lv_at hl 2 rfl) ?_
            obtain ⟨b21, hf⟩ := ck_e hf
            refine lM_row X hP b21 dX9_wrong_137 ?_
            refine lv_topi (fun y22 ey22 => ?_)
            have hf := bd_x ey22 hf
            obtain ⟨b23, hf⟩ := ck_e hf
            refine lM_arity X hP b23 dX9_wrong_138 ?_
            refine lv_topi (fun y24 ey24 => ?_)
            have hf := bd_x ey24 hf
            refine lv_aload_n hx hb dX9_wrong_139 rfl (lv_at hl 0 rfl) ?_
            refine gM_Mod_conTypes X hP kw683 dX9_wrong_140 ?_
            refine lv_aload_n hx hb dX9_wrong_143 rfl (lv_at hl 0 rfl) ?_
            refine gM_Mod_row X hP kw687 dX9_wrong_144 ?_
            refine lv_iload_n hx hb dX9_wrong_147 rfl (lv_at hl 2 rfl) ?_
            obtain ⟨b25, hf⟩ := ck_e hf
            refine lM_row X hP b25 dX9_wrong_148 ?_
            refine lv_topi (fun y26 ey26 => ?_)
            have hf := bd_x ey26 hf
            obtain ⟨b27, hf⟩ := ck_e hf
            refine lM_conTypes X hP b27 dX9_wrong_149 ?_
            refine lv_topi (fun y28 ey28 => ?_)
            have hf := bd_x ey28 hf
            refine lv_iload_n hx hb dX9_wrong_150 rfl (lv_at hl 2 rfl) ?_
            obtain ⟨r29, s30, h31, hf⟩ := bo_e hf
            refine callV_v X cv_X9_want kw928 (c_X9_want l D cA A ad ta s17 y24 y28 x2 r29 s30 h31) ⟨by decide, by decide⟩ ⟨rfl, rfl⟩ hP hD hS (q0 := 0) (ci := 9) rfl rfl rfl rfl hl rfl (Nat.le_of_ble_eq_true rfl) dX9_wrong_151 ⟨by decide, by decide⟩ (fun H locs hP hD hS => ?_)
            exact t_X9_wrong_154 X ih hf hP hD hS (lv_sub hl [0, 1, 2] rfl)
        · have hf := it_t c8 hf
          refine lv_iload_n hx hb dX9_wrong_76 rfl (lv_at hl 2 rfl) ?_
          obtain ⟨rfl, rfl⟩ := Prod.mk.inj (Option.some.inj hf)
          exact ret_i X hP hD hS dX9_wrong_77
set_option maxHeartbeats 4000000 in
set_option maxRecDepth 100000 in
theorem t_X9_wrong_21  (X : Fx p s m meth c D cA A RX9 cX9_wrong 3 (some .int))  {x1 : Int32} { σ : St} {H : Heap} {locs : List Loc} {ls : Array Slot} (hf : F_X9_wrong_21 x1 σ = some (r, σ')) (hP : va_P D vwCl (wM cA ad ta σ) H) (hD : va_D A (wM cA ad ta σ)) (hS : va_S A s.heap H locs) (hl : lv_has ls 3 [(0, .ref (ad 0)), (1, .int x1)]) : W p l e (rm_X9_wrong) s m args below meth c H locs 0 0 (MQ below (QI D cA A (wM cA ad) r σ' ta) args s 0 0 A) (F0 m 21 ls []) := by
  obtain ⟨hx, hb, hr, hml, hown, hlk, hE, hK, hA⟩ := id X
  rw [F_X9_wrong_21] at hf
  refine lv_aload_n hx hb dX9_wrong_21 rfl (lv_at hl 0 rfl) ?_
  refine lv_iconst (v := 0) hx hb dX9_wrong_22 (by decide) ?_
  refine pM_Mod_wants X hP hD hS kw697 dX9_wrong_23 (fun H locs hP hD hS => ?_)
  obtain ⟨s1, es1, hf⟩ := bd_e hf
  rw [← es1] at hP hD
  refine lv_aload_n hx hb dX9_wrong_26 rfl (lv_at hl 0 rfl) ?_
  refine lv_aload_n hx hb dX9_wrong_27 rfl (lv_at hl 0 rfl) ?_
  refine gM_Mod_args X hP kw684 dX9_wrong_28 ?_
  refine lv_aload_n hx hb dX9_wrong_31 rfl (lv_at hl 0 rfl) ?_
  refine gM_Mod_argTypes X hP kw685 dX9_wrong_32 ?_
  refine lv_iconst (v := -1) hx hb dX9_wrong_35 (by decide) ?_
  obtain ⟨r2, s3, h4, hf⟩ := bo_e hf
  refine callV_v X cv_X9_want kw928 (c_X9_want l D cA A ad ta s1 (gF s1 2) (gF s1 3) (-1) r2 s3 h4) ⟨by decide, by decide⟩ ⟨rfl, rfl⟩ hP hD hS (q0 := 0) (ci := 9) rfl rfl rfl rfl hl rfl (Nat.le_of_ble_eq_true rfl) dX9_wrong_36 ⟨by decide, by decide⟩ (fun H locs hP hD hS => ?_)
  refine lv_iconst (v := 0) hx hb dX9_wrong_39 (by decide) ?_
  refine lv_istore_n (lv' := [(2, .int 0), (0, .ref (ad 0)), (1, .int x1)]) hx hb dX9_wrong_40 rfl hl (by decide) rfl (fun ls hl => ?_)
  exact t_X9_wrong_41 X  5000 x1 0 s3 _ _ _ hf hP hD hS (lv_sub hl [1, 2, 0] rfl)
set_option maxHeartbeats 4000000 in
set_option maxRecDepth 100000 in
theorem t_X9_wrong_2  (X : Fx p s m meth c D cA A RX9 cX9_wrong 3 (some .int))  : ∀ (n : Nat) (x1 x2 : Int32) (σ : St) (H : Heap) (locs : List Loc) (ls : Array Slot), F_X9_wrong_2 n x1 x2 σ = some (r, σ') → va_P D vwCl (wM cA ad ta σ) H → va_D A (wM cA ad ta σ) → va_S A s.heap H locs → lv_has ls 3 [(0, .ref (ad 0)), (1, .int x1), (2, .int x2)] → W p l e (rm_X9_wrong) s m args below meth c H locs 0 0 (MQ below (QI D cA A (wM cA ad) r σ' ta) args s 0 0 A) (F0 m 2 ls []) := by
  obtain ⟨hx, hb, hr, hml, hown, hlk, hE, hK, hA⟩ := id X
  intro n
  induction n with
  | zero =>
    intro x1 x2 σ H locs ls hf
    cases (show (none : Rs) = some _ from hf)
  | succ n ih =>
    intro x1 x2 σ H locs ls hf hP hD hS hl
    rw [F_X9_wrong_2] at hf
    refine lv_iload_n hx hb dX9_wrong_2 rfl (lv_at hl 2 rfl) ?_
    refine lv_bipush (v := 8) hx hb dX9_wrong_3 (by decide) ?_
    refine lv_icmp_ge (tgt := 21) hx hb dX9_wrong_5 (by decide) (fun c1 => ?_) (fun c1 => ?_)
    · have hf := it_t c1 hf
      exact t_X9_wrong_21 X  hf hP hD hS (lv_sub hl [0, 1] rfl)
    · have hf := it_f c1 hf
      refine lv_aload_n hx hb dX9_wrong_8 rfl (lv_at hl 0 rfl) ?_
      refine gM_Mod_nameType X hP kw700 dX9_wrong_9 ?_
      refine lv_iload_n hx hb dX9_wrong_12 rfl (lv_at hl 2 rfl) ?_
      refine lv_iconst (v := -1) hx hb dX9_wrong_13 (by decide) ?_
      obtain ⟨b2, hf⟩ := ck_e hf
      refine sM_nameType X hP hD hS b2 dX9_wrong_14 (fun H locs hP hD hS => ?_)
      obtain ⟨s3, es3, hf⟩ := bd_e hf
      rw [← es3] at hP hD
      refine lv_iinc (v := (x2 + 1)) (lv' := [(2, .int (x2 + 1)), (0, .ref (ad 0)), (1, .int x1)]) hx hb dX9_wrong_15 hl (k := 2) rfl rfl (by decide) rfl (fun ls hl => ?_)
      refine lv_goto (tgt := 2) hx hb dX9_wrong_18 (by decide) ?_
      exact ih x1 (x2 + 1) s3 _ _ _ hf hP hD hS (lv_sub hl [1, 2, 0] rfl)
set_option maxHeartbeats 4000000 in
set_option maxRecDepth 100000 in
theorem t_X9_wrong_0  (X : Fx p s m meth c D cA A RX9 cX9_wrong 3 (some .int))  {x1 : Int32} { σ : St} {H : Heap} {locs : List Loc} {ls : Array Slot} (hf : F_X9_wrong x1 σ = some (r, σ')) (hP : va_P D vwCl (wM cA ad ta σ) H) (hD : va_D A (wM cA ad ta σ)) (hS : va_S A s.heap H locs) (hl : lv_has ls 3 [(0, .ref (ad 0)), (1, .int x1)]) : W p l e (rm_X9_wrong) s m args below meth c H locs 0 0 (MQ below (QI D cA A (wM cA ad) r σ' ta) args s 0 0 A) (F0 m 0 ls []) := by
  obtain ⟨hx, hb, hr, hml, hown, hlk, hE, hK, hA⟩ := id X
  rw [F_X9_wrong] at hf
  refine lv_iconst (v := 0) hx hb dX9_wrong_0 (by decide) ?_
  refine lv_istore_n (lv' := [(2, .int 0), (0, .ref (ad 0)), (1, .int x1)]) hx hb dX9_wrong_1 rfl hl (by decide) rfl (fun ls hl => ?_)
  exact t_X9_wrong_2 X  5000 x1 0 σ _ _ _ hf hP hD hS (lv_sub hl [1, 2, 0] rfl)
end S_X9_wrong
theorem c_X9_wrong (l : Launch) (D : va_G) (cA : ClassId) (A : Nat → Prop) (ad : Nat → Nat) (ta : Nat) (σ : St) (x1 : Int32) (r : Int32) (σ' : St) (hf : F_X9_wrong x1 σ = some (r, σ')) : MI l D cA A (wM cA ad) yX9_wrong cX9_wrong 3 (some .int) rm_X9_wrong [.ref (ad 0), .int x1] ta σ r σ' 0 0 := by
  refine enter (by decide) (Nat.le_of_ble_eq_true rfl) ?_
  intro p e s m below meth c ls X hnm hP hD hS hl
  exact t_X9_wrong_0 X hf hP hD hS hl
abbrev rm_X9_openAll : Room := { frames := 0, cells := 0, slots := 0, locals := 0 }
def F_X9_openAll_72 (k20 : Int32 → St → Rs) (x1 : Int32) (σ : St) : Rs :=
  ck (inb (gF σ 8) 4800) (bd (sA σ 17 (upd (gA σ 17) (gF σ 8).toNatClampNeg x1)) (fun s2 => bd (sF s2 8 ((gF s2 8) + 1)) (fun s3 => k20 (x1 + 1) s3)))
def F_X9_openAll_32 (k20 : Int32 → St → Rs) : Nat → Int32 → Int32 → Int32 → St → Rs
  | 0, _, _, _, _ => none
  | n + 1, x1, x2, x3, σ => if (gF σ 2) ≤ x3 then (F_X9_openAll_72 k20 x1 σ) else (ck (inb ((170 * x1) + x3) 4080) (bd (sA σ 16 (upd (gA σ 16) ((170 * x1) + x3).toNatClampNeg x2)) (fun s3 => ck (inb ((160 * x1) + x2) 3840) (bd (gA s3 8 ((160 * x1) + x2).toNatClampNeg) (fun y5 => F_X9_openAll_32 k20 n x1 y5 (x3 + 1) s3)))))
def F_X9_openAll_20  : Nat → Int32 → St → Rs
  | 0, _, _ => none
  | n + 1, x1, σ => if (gF σ 4) ≤ x1 then (some (0, σ)) else (F_X9_openAll_32 (F_X9_openAll_20 n) 5000 x1 0 0 σ)
def F_X9_openAll  (σ : St) : Rs :=
  bd (sF σ 7 (gF σ 2)) (fun s1 => bd (sF s1 8 0) (fun s2 => bd (sF s2 9 0) (fun s3 => F_X9_openAll_20 5000 0 s3)))
section S_X9_openAll
variable {p : Program} {l : Launch} {e : Env} {s : State} {m : MethodId} {args : Array Value} {below : List Frame} {meth : Method} {c : Code}
variable {D : va_G} {cA : ClassId} {A : Nat → Prop} {ad : Nat → Nat} {r : Int32} {σ' : St} {ta : Nat}
set_option maxHeartbeats 4000000 in
set_option maxRecDepth 100000 in
theorem t_X9_openAll_72 {k20 : Int32 → St → Rs} (X : Fx p s m meth c D cA A RX9 cX9_openAll 4 none) (K20 : ∀ (x1 : Int32) (σ : St) (H : Heap) (locs : List Loc) (ls : Array Slot), k20 x1 σ = some (r, σ') → va_P D vwCl (wM cA ad ta σ) H → va_D A (wM cA ad ta σ) → va_S A s.heap H locs → lv_has ls 4 [(0, .ref (ad 0)), (1, .int x1)] → W p l e (rm_X9_openAll) s m args below meth c H locs 0 0 (MQ below (QV D cA A (wM cA ad) σ' ta) args s 0 0 A) (F0 m 20 ls [])) {x1 : Int32} { σ : St} {H : Heap} {locs : List Loc} {ls : Array Slot} (hf : F_X9_openAll_72 k20 x1 σ = some (r, σ')) (hP : va_P D vwCl (wM cA ad ta σ) H) (hD : va_D A (wM cA ad ta σ)) (hS : va_S A s.heap H locs) (hl : lv_has ls 4 [(0, .ref (ad 0)), (1, .int x1)]) : W p l e (rm_X9_openAll) s m args below meth c H locs 0 0 (MQ below (QV D cA A (wM cA ad) σ' ta) args s 0 0 A) (F0 m 72 ls []) := by
  obtain ⟨hx, hb, hr, hml, hown, hlk, hE, hK, hA⟩ := id X
  rw [F_X9_openAll_72] at hf
  refine lv_aload_n hx hb dX9_openAll_72 rfl (lv_at hl 0 rfl) ?_
  refine gM_Mod_set X hP kw703 dX9_openAll_73 ?_
  refine lv_aload_n hx hb dX9_openAll_76 rfl (lv_at hl 0 rfl) ?_
  refine gM_Mod_setEnd X hP kw705 dX9_openAll_77 ?_
  refine lv_iload_n hx hb dX9_openAll_80 rfl (lv_at hl 1 rfl) ?_
  obtain ⟨b1, hf⟩ := ck_e hf
  refine sM_set X hP hD hS b1 dX9_openAll_81 (fun H locs hP hD hS => ?_)
  obtain ⟨s2, es2, hf⟩ := bd_e hf
  rw [← es2] at hP hD
  refine lv_aload_n hx hb dX9_openAll_82 rfl (lv_at hl 0 rfl) ?_
  refine lv_dup hx hb dX9_openAll_83 rfl ?_
  refine gM_Mod_setEnd X hP kw705 dX9_openAll_84 ?_
  refine lv_iconst (v := 1) hx hb dX9_openAll_87 (by decide) ?_
  refine lv_iadd hx hb dX9_openAll_88 ?_
  refine pM_Mod_setEnd X hP hD hS kw705 dX9_openAll_89 (fun H locs hP hD hS => ?_)
  obtain ⟨s3, es3, hf⟩ := bd_e hf
  rw [← es3] at hP hD
  refine lv_iinc (v := (x1 + 1)) (lv' := [(1, .int (x1 + 1)), (0, .ref (ad 0))]) hx hb dX9_openAll_92 hl (k := 1) rfl rfl (by decide) rfl (fun ls hl => ?_)
  refine lv_goto (tgt := 20) hx hb dX9_openAll_95 (by decide) ?_
  exact K20 (x1 + 1) s3 _ _ _ hf hP hD hS (lv_sub hl [1, 0] rfl)
set_option maxHeartbeats 4000000 in
set_option maxRecDepth 100000 in
theorem t_X9_openAll_32 {k20 : Int32 → St → Rs} (X : Fx p s m meth c D cA A RX9 cX9_openAll 4 none) (K20 : ∀ (x1 : Int32) (σ : St) (H : Heap) (locs : List Loc) (ls : Array Slot), k20 x1 σ = some (r, σ') → va_P D vwCl (wM cA ad ta σ) H → va_D A (wM cA ad ta σ) → va_S A s.heap H locs → lv_has ls 4 [(0, .ref (ad 0)), (1, .int x1)] → W p l e (rm_X9_openAll) s m args below meth c H locs 0 0 (MQ below (QV D cA A (wM cA ad) σ' ta) args s 0 0 A) (F0 m 20 ls [])) : ∀ (n : Nat) (x1 x2 x3 : Int32) (σ : St) (H : Heap) (locs : List Loc) (ls : Array Slot), F_X9_openAll_32 k20 n x1 x2 x3 σ = some (r, σ') → va_P D vwCl (wM cA ad ta σ) H → va_D A (wM cA ad ta σ) → va_S A s.heap H locs → lv_has ls 4 [(0, .ref (ad 0)), (1, .int x1), (2, .int x2), (3, .int x3)] → W p l e (rm_X9_openAll) s m args below meth c H locs 0 0 (MQ below (QV D cA A (wM cA ad) σ' ta) args s 0 0 A) (F0 m 32 ls []) := by
  obtain ⟨hx, hb, hr, hml, hown, hlk, hE, hK, hA⟩ := id X
  intro n
  induction n with
  | zero =>
    intro x1 x2 x3 σ H locs ls hf
    cases (show (none : Rs) = some _ from hf)
  | succ n ih =>
    intro x1 x2 x3 σ H locs ls hf hP hD hS hl
    rw [F_X9_openAll_32] at hf
    refine lv_iload_n hx hb dX9_openAll_32 rfl (lv_at hl 3 rfl) ?_
    refine lv_aload_n hx hb dX9_openAll_33 rfl (lv_at hl 0 rfl) ?_
    refine gM_Mod_args X hP kw684 dX9_openAll_34 ?_
    refine lv_icmp_ge (tgt := 72) hx hb dX9_openAll_37 (by decide) (fun c1 => ?_) (fun c1 => ?_)
    · have hf := it_t c1 hf
      exact t_X9_openAll_72 X K20 hf hP hD hS (lv_sub hl [0, 1] rfl)
    · have hf := it_f c1 hf
      refine lv_aload_n hx hb dX9_openAll_40 rfl (lv_at hl 0 rfl) ?_
      refine gM_Mod_open X hP kw701 dX9_openAll_41 ?_
      refine lv_sipush (v := 170) hx hb dX9_openAll_44 (by decide) ?_
      refine lv_iload_n hx hb dX9_openAll_47 rfl (lv_at hl 1 rfl) ?_
      refine lv_imul hx hb dX9_openAll_48 ?_
      refine lv_iload_n hx hb dX9_openAll_49 rfl (lv_at hl 3 rfl) ?_
      refine lv_iadd hx hb dX9_openAll_50 ?_
      refine lv_iload_n hx hb dX9_openAll_51 rfl (lv_at hl 2 rfl) ?_
      obtain ⟨b2, hf⟩ := ck_e hf
      refine sM_open X hP hD hS b2 dX9_openAll_52 (fun H locs hP hD hS => ?_)
      obtain ⟨s3, es3, hf⟩ := bd_e hf
      rw [← es3] at hP hD
      refine lv_aload_n hx hb dX9_openAll_53 rfl (lv_at hl 0 rfl) ?_
      refine gM_Mod_end X hP kw692 dX9_openAll_54 ?_
      refine lv_sipush (v := 160) hx hb dX9_openAll_57 (by decide) ?_
      refine lv_iload_n hx hb dX9_openAll_60 rfl (lv_at hl 1 rfl) ?_
      refine lv_imul hx hb dX9_openAll_61 ?_
      refine lv_iload_n hx hb dX9_openAll_62 rfl (lv_at hl 2 rfl) ?_
      refine lv_iadd hx hb dX9_openAll_63 ?_
      obtain ⟨b4, hf⟩ := ck_e hf
      refine lM_end X hP b4 dX9_openAll_64 ?_
      refine lv_topi (fun y5 ey5 => ?_)
      have hf := bd_x ey5 hf
      refine lv_istore_n (lv' := [(2, .int y5), (0, .ref (ad 0)), (1, .int x1), (3, .int x3)]) hx hb dX9_openAll_65 rfl hl (by decide) rfl (fun ls hl => ?_)
      refine lv_iinc (v := (x3 + 1)) (lv' := [(3, .int (x3 + 1)), (2, .int y5), (0, .ref (ad 0)), (1, .int x1)]) hx hb dX9_openAll_66 hl (k := 3) rfl rfl (by decide) rfl (fun ls hl => ?_)
      refine lv_goto (tgt := 32) hx hb dX9_openAll_69 (by decide) ?_
      exact ih x1 y5 (x3 + 1) s3 _ _ _ hf hP hD hS (lv_sub hl [2, 3, 1, 0] rfl)
set_option maxHeartbeats 4000000 in
set_option maxRecDepth 100000 in
theorem t_X9_openAll_20  (X : Fx p s m meth c D cA A RX9 cX9_openAll 4 none)  : ∀ (n : Nat) (x1 : Int32) (σ : St) (H : Heap) (locs : List Loc) (ls : Array Slot), F_X9_openAll_20 n x1 σ = some (r, σ') → va_P D vwCl (wM cA ad ta σ) H → va_D A (wM cA ad ta σ) → va_S A s.heap H locs → lv_has ls 4 [(0, .ref (ad 0)), (1, .int x1)] → W p l e (rm_X9_openAll) s m args below meth c H locs 0 0 (MQ below (QV D cA A (wM cA ad) σ' ta) args s 0 0 A) (F0 m 20 ls []) := by
  obtain ⟨hx, hb, hr, hml, hown, hlk, hE, hK, hA⟩ := id X
  intro n
  induction n with
  | zero =>
    intro x1 σ H locs ls hf
    cases (show (none : Rs) = some _ from hf)
  | succ n ih =>
    intro x1 σ H locs ls hf hP hD hS hl
    rw [F_X9_openAll_20] at hf
    refine lv_iload_n hx hb dX9_openAll_20 rfl (lv_at hl 1 rfl) ?_
    refine lv_aload_n hx hb dX9_openAll_21 rfl (lv_at hl 0 rfl) ?_
    refine gM_Mod_rules X hP kw686 dX9_openAll_22 ?_
    refine lv_icmp_ge (tgt := 98) hx hb dX9_openAll_25 (by decide) (fun c1 => ?_) (fun c1 => ?_)
    · have hf := it_t c1 hf
      obtain ⟨rfl, rfl⟩ := Prod.mk.inj (Option.some.inj hf)
      exact ret_v X hP hD hS dX9_openAll_98
    · have hf := it_f c1 hf
      refine lv_iconst (v := 0) hx hb dX9_openAll_28 (by decide) ?_
      refine lv_istore_n (lv' := [(2, .int 0), (0, .ref (ad 0)), (1, .int x1)]) hx hb dX9_openAll_29 rfl hl (by decide) rfl (fun ls hl => ?_)
      refine lv_iconst (v := 0) hx hb dX9_openAll_30 (by decide) ?_
      refine lv_istore_n (lv' := [(3, .int 0), (2, .int 0), (0, .ref (ad 0)), (1, .int x1)]) hx hb dX9_openAll_31 rfl hl (by decide) rfl (fun ls hl => ?_)
      exact t_X9_openAll_32 X ih 5000 x1 0 0 σ _ _ _ hf hP hD hS (lv_sub hl [2, 3, 1, 0] rfl)
set_option maxHeartbeats 4000000 in
set_option maxRecDepth 100000 in
theorem t_X9_openAll_0  (X : Fx p s m meth c D cA A RX9 cX9_openAll 4 none)  { σ : St} {H : Heap} {locs : List Loc} {ls : Array Slot} (hf : F_X9_openAll σ = some (r, σ')) (hP : va_P D vwCl (wM cA ad ta σ) H) (hD : va_D A (wM cA ad ta σ)) (hS : va_S A s.heap H locs) (hl : lv_has ls 4 [(0, .ref (ad 0))]) : W p l e (rm_X9_openAll) s m args below meth c H locs 0 0 (MQ below (QV D cA A (wM cA ad) σ' ta) args s 0 0 A) (F0 m 0 ls []) := by
  obtain ⟨hx, hb, hr, hml, hown, hlk, hE, hK, hA⟩ := id X
  rw [F_X9_openAll] at hf
  refine lv_aload_n hx hb dX9_openAll_0 rfl (lv_at hl 0 rfl) ?_
  refine lv_aload_n hx hb dX9_openAll_1 rfl (lv_at hl 0 rfl) ?_
  refine gM_Mod_args X hP kw684 dX9_openAll_2 ?_
  refine pM_Mod_opens X hP hD hS kw702 dX9_openAll_5 (fun H locs hP hD hS => ?_)
  obtain ⟨s1, es1, hf⟩ := bd_e hf
  rw [← es1] at hP hD
  refine lv_aload_n hx hb dX9_openAll_8 rfl (lv_at hl 0 rfl) ?_
  refine lv_iconst (v := 0) hx hb dX9_openAll_9 (by decide) ?_
  refine pM_Mod_setEnd X hP hD hS kw705 dX9_openAll_10 (fun H locs hP hD hS => ?_)
  obtain ⟨s2, es2, hf⟩ := bd_e hf
  rw [← es2] at hP hD
  refine lv_aload_n hx hb dX9_openAll_13 rfl (lv_at hl 0 rfl) ?_
  refine lv_iconst (v := 0) hx hb dX9_openAll_14 (by decide) ?_
  refine pM_Mod_takenEnd X hP hD hS kw706 dX9_openAll_15 (fun H locs hP hD hS => ?_)
  obtain ⟨s3, es3, hf⟩ := bd_e hf
  rw [← es3] at hP hD
  refine lv_iconst (v := 0) hx hb dX9_openAll_18 (by decide) ?_
  refine lv_istore_n (lv' := [(1, .int 0), (0, .ref (ad 0))]) hx hb dX9_openAll_19 rfl hl (by decide) rfl (fun ls hl => ?_)
  exact t_X9_openAll_20 X  5000 0 s3 _ _ _ hf hP hD hS (lv_sub hl [1, 0] rfl)
end S_X9_openAll
theorem c_X9_openAll (l : Launch) (D : va_G) (cA : ClassId) (A : Nat → Prop) (ad : Nat → Nat) (ta : Nat) (σ : St) (r : Int32) (σ' : St) (hf : F_X9_openAll σ = some (r, σ')) : MV l D cA A (wM cA ad) yX9_openAll cX9_openAll 4 none rm_X9_openAll [.ref (ad 0)] ta σ σ' 0 0 := by
  refine enter (by decide) (Nat.le_of_ble_eq_true rfl) ?_
  intro p e s m below meth c ls X hnm hP hD hS hl
  exact t_X9_openAll_0 X hf hP hD hS hl
abbrev rm_X9_there : Room := { frames := 0, cells := 0, slots := 0, locals := 0 }
def F_X9_there (x1 : Int32) (x2 : Int32) (σ : St) : Rs :=
  ck (inb ((170 * x1) + x2) 4080) (bd (gA σ 16 ((170 * x1) + x2).toNatClampNeg) (fun y2 => ck (inb ((160 * x1) + y2) 3840) (bd (gA σ 5 ((160 * x1) + y2).toNatClampNeg) (fun y4 => some (y4, σ)))))
section S_X9_there
variable {p : Program} {l : Launch} {e : Env} {s : State} {m : MethodId} {args : Array Value} {below : List Frame} {meth : Method} {c : Code}
variable {D : va_G} {cA : ClassId} {A : Nat → Prop} {ad : Nat → Nat} {r : Int32} {σ' : St} {ta : Nat}
set_option maxHeartbeats 4000000 in
set_option maxRecDepth 100000 in
theorem t_X9_there_0  (X : Fx p s m meth c D cA A RX9 cX9_there 3 (some .int))  {x1 x2 : Int32} { σ : St} {H : Heap} {locs : List Loc} {ls : Array Slot} (hf : F_X9_there x1 x2 σ = some (r, σ')) (hP : va_P D vwCl (wM cA ad ta σ) H) (hD : va_D A (wM cA ad ta σ)) (hS : va_S A s.heap H locs) (hl : lv_has ls 3 [(0, .ref (ad 0)), (1, .int x1), (2, .int x2)]) : W p l e (rm_X9_there) s m args below meth c H locs 0 0 (MQ below (QI D cA A (wM cA ad) r σ' ta) args s 0 0 A) (F0 m 0 ls []) := by
  obtain ⟨hx, hb, hr, hml, hown, hlk, hE, hK, hA⟩ := id X
  rw [F_X9_there] at hf
  refine lv_aload_n hx hb dX9_there_0 rfl (lv_at hl 0 rfl) ?_
  refine gM_Mod_rule X hP kw689 dX9_there_1 ?_
  refine lv_sipush (v := 160) hx hb dX9_there_4 (by decide) ?_
  refine lv_iload_n hx hb dX9_there_7 rfl (lv_at hl 1 rfl) ?_
  refine lv_imul hx hb dX9_there_8 ?_
  refine lv_aload_n hx hb dX9_there_9 rfl (lv_at hl 0 rfl) ?_
  refine gM_Mod_open X hP kw701 dX9_there_10 ?_
  refine lv_sipush (v := 170) hx hb dX9_there_13 (by decide) ?_
  refine lv_iload_n hx hb dX9_there_16 rfl (lv_at hl 1 rfl) ?_
  refine lv_imul hx hb dX9_there_17 ?_
  refine lv_iload_n hx hb dX9_there_18 rfl (lv_at hl 2 rfl) ?_
  refine lv_iadd hx hb dX9_there_19 ?_
  obtain ⟨b1, hf⟩ := ck_e hf
  refine lM_open X hP b1 dX9_there_20 ?_
  refine lv_topi (fun y2 ey2 => ?_)
  have hf := bd_x ey2 hf
  refine lv_iadd hx hb dX9_there_21 ?_
  obtain ⟨b3, hf⟩ := ck_e hf
  refine lM_rule X hP b3 dX9_there_22 ?_
  refine lv_topi (fun y4 ey4 => ?_)
  have hf := bd_x ey4 hf
  obtain ⟨rfl, rfl⟩ := Prod.mk.inj (Option.some.inj hf)
  exact ret_i X hP hD hS dX9_there_23
end S_X9_there
theorem c_X9_there (l : Launch) (D : va_G) (cA : ClassId) (A : Nat → Prop) (ad : Nat → Nat) (ta : Nat) (σ : St) (x1 x2 : Int32) (r : Int32) (σ' : St) (hf : F_X9_there x1 x2 σ = some (r, σ')) : MI l D cA A (wM cA ad) yX9_there cX9_there 3 (some .int) rm_X9_there [.ref (ad 0), .int x1, .int x2] ta σ r σ' 0 0 := by
  refine enter (by decide) (Nat.le_of_ble_eq_true rfl) ?_
  intro p e s m below meth c ls X hnm hP hD hS hl
  exact t_X9_there_0 X hf hP hD hS hl
abbrev rm_X9_those : Room := { frames := 1, cells := 0, slots := 0, locals := 22 }
def F_X9_those_69 (x5 : Int32) (σ : St) : Rs :=
  some (((gF σ 8) - x5), σ)
def F_X9_those_63 (k9 : Int32 → Int32 → Int32 → Int32 → Int32 → Int32 → St → Rs) (x1 : Int32) (x2 : Int32) (x3 : Int32) (x4 : Int32) (x5 : Int32) (x6 : Int32) (σ : St) : Rs :=
  k9 x1 x2 x3 x4 x5 (x6 + 1) σ
def F_X9_those_9  : Nat → Int32 → Int32 → Int32 → Int32 → Int32 → Int32 → St → Rs
  | 0, _, _, _, _, _, _, _ => none
  | n + 1, x1, x2, x3, x4, x5, x6, σ => if (x1 + x2) ≤ x6 then (F_X9_those_69 x5 σ) else (ck (inb x6 4800) (bd (gA σ 17 x6.toNatClampNeg) (fun y3 => bo (F_X9_there y3 x3 σ) (fun r4 s5 => if r4 = x4 then (ck (inb x6 4800) (bd (gA s5 17 x6.toNatClampNeg) (fun y9 => ck (inb (gF s5 8) 4800) (bd (sA s5 17 (upd (gA s5 17) (gF s5 8).toNatClampNeg y9)) (fun s11 => bd (sF s11 8 ((gF s11 8) + 1)) (fun s12 => F_X9_those_63 (F_X9_those_9 n) x1 x2 x3 x4 x5 x6 s12)))))) else (F_X9_those_63 (F_X9_those_9 n) x1 x2 x3 x4 x5 x6 s5)))))
def F_X9_those (x1 : Int32) (x2 : Int32) (x3 : Int32) (x4 : Int32) (σ : St) : Rs :=
  bd (gF σ 8) (fun y1 => F_X9_those_9 5000 x1 x2 x3 x4 y1 x1 σ)
section S_X9_those
variable {p : Program} {l : Launch} {e : Env} {s : State} {m : MethodId} {args : Array Value} {below : List Frame} {meth : Method} {c : Code}
variable {D : va_G} {cA : ClassId} {A : Nat → Prop} {ad : Nat → Nat} {r : Int32} {σ' : St} {ta : Nat}
set_option maxHeartbeats 4000000 in
set_option maxRecDepth 100000 in
theorem t_X9_those_69  (X : Fx p s m meth c D cA A RX9 cX9_those 7 (some .int))  {x5 : Int32} { σ : St} {H : Heap} {locs : List Loc} {ls : Array Slot} (hf : F_X9_those_69 x5 σ = some (r, σ')) (hP : va_P D vwCl (wM cA ad ta σ) H) (hD : va_D A (wM cA ad ta σ)) (hS : va_S A s.heap H locs) (hl : lv_has ls 7 [(0, .ref (ad 0)), (5, .int x5)]) : W p l e (rm_X9_those) s m args below meth c H locs 0 0 (MQ below (QI D cA A (wM cA ad) r σ' ta) args s 0 0 A) (F0 m 69 ls []) := by
  obtain ⟨hx, hb, hr, hml, hown, hlk, hE, hK, hA⟩ := id X
  rw [F_X9_those_69] at hf
  refine lv_aload_n hx hb dX9_those_69 rfl (lv_at hl 0 rfl) ?_
  refine gM_Mod_setEnd X hP kw705 dX9_those_70 ?_
  refine lv_iload hx hb dX9_those_73 (lv_at hl 1 rfl) ?_
  refine lv_isub hx hb dX9_those_75 ?_
  obtain ⟨rfl, rfl⟩ := Prod.mk.inj (Option.some.inj hf)
  exact ret_i X hP hD hS dX9_those_76
set_option maxHeartbeats 4000000 in
set_option maxRecDepth 100000 in
theorem t_X9_those_63 {k9 : Int32 → Int32 → Int32 → Int32 → Int32 → Int32 → St → Rs} (X : Fx p s m meth c D cA A RX9 cX9_those 7 (some .int)) (K9 : ∀ (x1 x2 x3 x4 x5 x6 : Int32) (σ : St) (H : Heap) (locs : List Loc) (ls : Array Slot), k9 x1 x2 x3 x4 x5 x6 σ = some (r, σ') → va_P D vwCl (wM cA ad ta σ) H → va_D A (wM cA ad ta σ) → va_S A s.heap H locs → lv_has ls 7 [(0, .ref (ad 0)), (1, .int x1), (2, .int x2), (3, .int x3), (4, .int x4), (5, .int x5), (6, .int x6)] → W p l e (rm_X9_those) s m args below meth c H locs 0 0 (MQ below (QI D cA A (wM cA ad) r σ' ta) args s 0 0 A) (F0 m 9 ls [])) {x1 x2 x3 x4 x5 x6 : Int32} { σ : St} {H : Heap} {locs : List Loc} {ls : Array Slot} (hf : F_X9_those_63 k9 x1 x2 x3 x4 x5 x6 σ = some (r, σ')) (hP : va_P D vwCl (wM cA ad ta σ) H) (hD : va_D A (wM cA ad ta σ)) (hS : va_S A s.heap H locs) (hl : lv_has ls 7 [(0, .ref (ad 0)), (1, .int x1), (2, .int x2), (3, .int x3), (4, .int x4), (5, .int x5), (6, .int x6)]) : W p l e (rm_X9_those) s m args below meth c H locs 0 0 (MQ below (QI D cA A (wM cA ad) r σ' ta) args s 0 0 A) (F0 m 63 ls []) := by
  obtain ⟨hx, hb, hr, hml, hown, hlk, hE, hK, hA⟩ := id X
  rw [F_X9_those_63] at hf
  refine lv_iinc (v := (x6 + 1)) (lv' := [(6, .int (x6 + 1)), (0, .ref (ad 0)), (1, .int x1), (2, .int x2), (3, .int x3), (4, .int x4), (5, .int x5)]) hx hb dX9_those_63 hl (k := 6) rfl rfl (by decide) rfl (fun ls hl => ?_)
  refine lv_goto (tgt := 9) hx hb dX9_those_66 (by decide) ?_
  exact K9 x1 x2 x3 x4 x5 (x6 + 1) σ _ _ _ hf hP hD hS (lv_sub hl [1, 2, 3, 4, 5, 6, 0] rfl)
set_option maxHeartbeats 4000000 in
set_option maxRecDepth 100000 in
theorem t_X9_those_9  (X : Fx p s m meth c D cA A RX9 cX9_those 7 (some .int))  : ∀ (n : Nat) (x1 x2 x3 x4 x5 x6 : Int32) (σ : St) (H : Heap) (locs : List Loc) (ls : Array Slot), F_X9_those_9 n x1 x2 x3 x4 x5 x6 σ = some (r, σ') → va_P D vwCl (wM cA ad ta σ) H → va_D A (wM cA ad ta σ) → va_S A s.heap H locs → lv_has ls 7 [(0, .ref (ad 0)), (1, .int x1), (2, .int x2), (3, .int x3), (4, .int x4), (5, .int x5), (6, .int x6)] → W p l e (rm_X9_those) s m args below meth c H locs 0 0 (MQ below (QI D cA A (wM cA ad) r σ' ta) args s 0 0 A) (F0 m 9 ls []) := by
  obtain ⟨hx, hb, hr, hml, hown, hlk, hE, hK, hA⟩ := id X
  intro n
  induction n with
  | zero =>
    intro x1 x2 x3 x4 x5 x6 σ H locs ls hf
    cases (show (none : Rs) = some _ from hf)
  | succ n ih =>
    intro x1 x2 x3 x4 x5 x6 σ H locs ls hf hP hD hS hl
    rw [F_X9_those_9] at hf
    refine lv_iload hx hb dX9_those_9 (lv_at hl 6 rfl) ?_
    refine lv_iload_n hx hb dX9_those_11 rfl (lv_at hl 1 rfl) ?_
    refine lv_iload_n hx hb dX9_those_12 rfl (lv_at hl 2 rfl) ?_
    refine lv_iadd hx hb dX9_those_13 ?_
    refine lv_icmp_ge (tgt := 69) hx hb dX9_those_14 (by decide) (fun c1 => ?_) (fun c1 => ?_)
    · have hf := it_t c1 hf
      exact t_X9_those_69 X  hf hP hD hS (lv_sub hl [0, 5] rfl)
    · have hf := it_f c1 hf
      refine lv_aload_n hx hb dX9_those_17 rfl (lv_at hl 0 rfl) ?_
      refine lv_aload_n hx hb dX9_those_18 rfl (lv_at hl 0 rfl) ?_
      refine gM_Mod_set X hP kw703 dX9_those_19 ?_
      refine lv_iload hx hb dX9_those_22 (lv_at hl 6 rfl) ?_
      obtain ⟨b2, hf⟩ := ck_e hf
      refine lM_set X hP b2 dX9_those_24 ?_
      refine lv_topi (fun y3 ey3 => ?_)
      have hf := bd_x ey3 hf
      refine lv_iload_n hx hb dX9_those_25 rfl (lv_at hl 3 rfl) ?_
      obtain ⟨r4, s5, h6, hf⟩ := bo_e hf
      refine callV_i X cv_X9_there kw891 (c_X9_there l D cA A ad ta σ y3 x3 r4 s5 h6) ⟨by decide, by decide⟩ ⟨rfl, rfl⟩ hP hD hS (q0 := 0) (ci := 9) rfl rfl rfl rfl hl rfl (Nat.le_of_ble_eq_true rfl) dX9_those_26 ⟨by decide, by decide⟩ (fun H locs hP hD hS => ?_)
      refine lv_iload hx hb dX9_those_29 (lv_at hl 4 rfl) ?_
      refine lv_icmp_eq (tgt := 37) hx hb dX9_those_31 (by decide) (fun c7 => ?_) (fun c7 => ?_)
      · have hf := it_t c7 hf
        refine lv_aload_n hx hb dX9_those_37 rfl (lv_at hl 0 rfl) ?_
        refine gM_Mod_set X hP kw703 dX9_those_38 ?_
        refine lv_aload_n hx hb dX9_those_41 rfl (lv_at hl 0 rfl) ?_
        refine gM_Mod_setEnd X hP kw705 dX9_those_42 ?_
        refine lv_aload_n hx hb dX9_those_45 rfl (lv_at hl 0 rfl) ?_
        refine gM_Mod_set X hP kw703 dX9_those_46 ?_
        refine lv_iload hx hb dX9_those_49 (lv_at hl 6 rfl) ?_
        obtain ⟨b8, hf⟩ := ck_e hf
        refine lM_set X hP b8 dX9_those_51 ?_
        refine lv_topi (fun y9 ey9 => ?_)
        have hf := bd_x ey9 hf
        obtain ⟨b10, hf⟩ := ck_e hf
        refine sM_set X hP hD hS b10 dX9_those_52 (fun H locs hP hD hS => ?_)
        obtain ⟨s11, es11, hf⟩ := bd_e hf
        rw [← es11] at hP hD
        refine lv_aload_n hx hb dX9_those_53 rfl (lv_at hl 0 rfl) ?_
        refine lv_dup hx hb dX9_those_54 rfl ?_
        refine gM_Mod_setEnd X hP kw705 dX9_those_55 ?_
        refine lv_iconst (v := 1) hx hb dX9_those_58 (by decide) ?_
        refine lv_iadd hx hb dX9_those_59 ?_
        refine pM_Mod_setEnd X hP hD hS kw705 dX9_those_60 (fun H locs hP hD hS => ?_)
        obtain ⟨s12, es12, hf⟩ := bd_e hf
        rw [← es12] at hP hD
        exact t_X9_those_63 X ih hf hP hD hS (lv_sub hl [0, 1, 2, 3, 4, 5, 6] rfl)
      · have hf := it_f c7 hf
        refine lv_goto (tgt := 63) hx hb dX9_those_34 (by decide) ?_
        exact t_X9_those_63 X ih hf hP hD hS (lv_sub hl [0, 1, 2, 3, 4, 5, 6] rfl)
set_option maxHeartbeats 4000000 in
set_option maxRecDepth 100000 in
theorem t_X9_those_0  (X : Fx p s m meth c D cA A RX9 cX9_those 7 (some .int))  {x1 x2 x3 x4 : Int32} { σ : St} {H : Heap} {locs : List Loc} {ls : Array Slot} (hf : F_X9_those x1 x2 x3 x4 σ = some (r, σ')) (hP : va_P D vwCl (wM cA ad ta σ) H) (hD : va_D A (wM cA ad ta σ)) (hS : va_S A s.heap H locs) (hl : lv_has ls 7 [(0, .ref (ad 0)), (1, .int x1), (2, .int x2), (3, .int x3), (4, .int x4)]) : W p l e (rm_X9_those) s m args below meth c H locs 0 0 (MQ below (QI D cA A (wM cA ad) r σ' ta) args s 0 0 A) (F0 m 0 ls []) := by
  obtain ⟨hx, hb, hr, hml, hown, hlk, hE, hK, hA⟩ := id X
  rw [F_X9_those] at hf
  refine lv_aload_n hx hb dX9_those_0 rfl (lv_at hl 0 rfl) ?_
  refine gM_Mod_setEnd X hP kw705 dX9_those_1 ?_
  refine lv_topi (fun y1 ey1 => ?_)
  have hf := bd_x ey1 hf
  refine lv_istore (lv' := [(5, .int y1), (0, .ref (ad 0)), (1, .int x1), (2, .int x2), (3, .int x3), (4, .int x4)]) hx hb dX9_those_4 hl (by decide) rfl (fun ls hl => ?_)
  refine lv_iload_n hx hb dX9_those_6 rfl (lv_at hl 2 rfl) ?_
  refine lv_istore (lv' := [(6, .int x1), (5, .int y1), (0, .ref (ad 0)), (1, .int x1), (2, .int x2), (3, .int x3), (4, .int x4)]) hx hb dX9_those_7 hl (by decide) rfl (fun ls hl => ?_)
  exact t_X9_those_9 X  5000 x1 x2 x3 x4 y1 x1 σ _ _ _ hf hP hD hS (lv_sub hl [2, 3, 4, 5, 6, 1, 0] rfl)
end S_X9_those
theorem c_X9_those (l : Launch) (D : va_G) (cA : ClassId) (A : Nat → Prop) (ad : Nat → Nat) (ta : Nat) (σ : St) (x1 x2 x3 x4 : Int32) (r : Int32) (σ' : St) (hf : F_X9_those x1 x2 x3 x4 σ = some (r, σ')) : MI l D cA A (wM cA ad) yX9_those cX9_those 7 (some .int) rm_X9_those [.ref (ad 0), .int x1, .int x2, .int x3, .int x4] ta σ r σ' 0 0 := by
  refine enter (by decide) (Nat.le_of_ble_eq_true rfl) ?_
  intro p e s m below meth c ls X hnm hP hD hS hl
  exact t_X9_those_0 X hf hP hD hS hl
abbrev rm_X9_take : Room := { frames := 0, cells := 0, slots := 0, locals := 0 }
def F_X9_take_205 (k3 : Int32 → Int32 → Int32 → Int32 → Int32 → St → Rs) (x1 : Int32) (x2 : Int32) (x3 : Int32) (x4 : Int32) (x5 : Int32) (σ : St) : Rs :=
  k3 x1 x2 x3 x4 (x5 + 1) σ
def F_X9_take_157 (k3 : Int32 → Int32 → Int32 → Int32 → Int32 → St → Rs) : Nat → Int32 → Int32 → Int32 → Int32 → Int32 → Int32 → Int32 → Int32 → St → Rs
  | 0, _, _, _, _, _, _, _, _, _ => none
  | n + 1, x1, x2, x3, x4, x5, x6, x7, x8, σ => if x4 ≤ x8 then (F_X9_take_205 k3 x1 x2 x3 x4 x5 σ) else (ck (inb ((x6 + x3) + x8) 4080) (bd (sA σ 16 (upd (gA σ 16) ((x6 + x3) + x8).toNatClampNeg x7)) (fun s3 => ck (inb x5 4800) (bd (gA s3 17 x5.toNatClampNeg) (fun y5 => ck (inb ((160 * y5) + x7) 3840) (bd (gA s3 8 ((160 * y5) + x7).toNatClampNeg) (fun y7 => F_X9_take_157 k3 n x1 x2 x3 x4 x5 x6 y7 (x8 + 1) s3)))))))
def F_X9_take_151 (k3 : Int32 → Int32 → Int32 → Int32 → Int32 → St → Rs) (x1 : Int32) (x2 : Int32) (x3 : Int32) (x4 : Int32) (x5 : Int32) (x6 : Int32) (x7 : Int32) (σ : St) : Rs :=
  F_X9_take_157 k3 5000 x1 x2 x3 x4 x5 x6 (x7 + 1) 0 σ
def F_X9_take_114 (k3 : Int32 → Int32 → Int32 → Int32 → Int32 → St → Rs) : Nat → Int32 → Int32 → Int32 → Int32 → Int32 → Int32 → Int32 → Int32 → St → Rs
  | 0, _, _, _, _, _, _, _, _, _ => none
  | n + 1, x1, x2, x3, x4, x5, x6, x7, x8, σ => if x8 ≤ x3 then (F_X9_take_151 k3 x1 x2 x3 x4 x5 x6 x7 σ) else (ck (inb (x6 + x8) 4080) (bd (gA σ 16 (x6 + x8).toNatClampNeg) (fun y3 => ck (inb (((x6 + x8) + x4) - 1) 4080) (bd (sA σ 16 (upd (gA σ 16) (((x6 + x8) + x4) - 1).toNatClampNeg y3)) (fun s5 => F_X9_take_114 k3 n x1 x2 x3 x4 x5 x6 x7 (x8 + (-1)) s5)))))
def F_X9_take_211 (x4 : Int32) (σ : St) : Rs :=
  bd (sF σ 7 ((gF σ 7) + (x4 - 1))) (fun s1 => some (0, s1))
def F_X9_take_103 (k3 : Int32 → Int32 → Int32 → Int32 → Int32 → St → Rs) (x1 : Int32) (x2 : Int32) (x3 : Int32) (x4 : Int32) (x5 : Int32) (x6 : Int32) (x7 : Int32) (σ : St) : Rs :=
  F_X9_take_151 k3 x1 x2 x3 x4 x5 x6 x7 σ
def F_X9_take_66 (k3 : Int32 → Int32 → Int32 → Int32 → Int32 → St → Rs) : Nat → Int32 → Int32 → Int32 → Int32 → Int32 → Int32 → Int32 → Int32 → St → Rs
  | 0, _, _, _, _, _, _, _, _, _ => none
  | n + 1, x1, x2, x3, x4, x5, x6, x7, x8, σ => if (gF σ 7) ≤ x8 then (F_X9_take_103 k3 x1 x2 x3 x4 x5 x6 x7 σ) else (ck (inb (x6 + x8) 4080) (bd (gA σ 16 (x6 + x8).toNatClampNeg) (fun y3 => ck (inb ((x6 + x8) - 1) 4080) (bd (sA σ 16 (upd (gA σ 16) ((x6 + x8) - 1).toNatClampNeg y3)) (fun s5 => F_X9_take_66 k3 n x1 x2 x3 x4 x5 x6 x7 (x8 + 1) s5)))))
def F_X9_take_3  : Nat → Int32 → Int32 → Int32 → Int32 → Int32 → St → Rs
  | 0, _, _, _, _, _, _ => none
  | n + 1, x1, x2, x3, x4, x5, σ => if (x1 + x2) ≤ x5 then (F_X9_take_211 x4 σ) else (ck (inb x5 4800) (bd (gA σ 17 x5.toNatClampNeg) (fun y3 => bd (170 * y3) (fun y4 => ck (inb (y4 + x3) 4080) (bd (gA σ 16 (y4 + x3).toNatClampNeg) (fun y6 => ck (inb (gF σ 9) 4800) (bd (sA σ 18 (upd (gA σ 18) (gF σ 9).toNatClampNeg y6)) (fun s8 => bd (sF s8 9 ((gF s8 9) + 1)) (fun s9 => if x4 = 0 then (bd (x3 + 1) (fun y12 => F_X9_take_66 (F_X9_take_3 n) 5000 x1 x2 x3 x4 x5 y4 y6 y12 s9)) else (bd ((gF s9 7) - 1) (fun y11 => F_X9_take_114 (F_X9_take_3 n) 5000 x1 x2 x3 x4 x5 y4 y6 y11 s9)))))))))))
def F_X9_take (x1 : Int32) (x2 : Int32) (x3 : Int32) (x4 : Int32) (σ : St) : Rs :=
  F_X9_take_3 5000 x1 x2 x3 x4 x1 σ
section S_X9_take
variable {p : Program} {l : Launch} {e : Env} {s : State} {m : MethodId} {args : Array Value} {below : List Frame} {meth : Method} {c : Code}
variable {D : va_G} {cA : ClassId} {A : Nat → Prop} {ad : Nat → Nat} {r : Int32} {σ' : St} {ta : Nat}
set_option maxHeartbeats 4000000 in
set_option maxRecDepth 100000 in
theorem t_X9_take_205 {k3 : Int32 → Int32 → Int32 → Int32 → Int32 → St → Rs} (X : Fx p s m meth c D cA A RX9 cX9_take 9 none) (K3 : ∀ (x1 x2 x3 x4 x5 : Int32) (σ : St) (H : Heap) (locs : List Loc) (ls : Array Slot), k3 x1 x2 x3 x4 x5 σ = some (r, σ') → va_P D vwCl (wM cA ad ta σ) H → va_D A (wM cA ad ta σ) → va_S A s.heap H locs → lv_has ls 9 [(0, .ref (ad 0)), (1, .int x1), (2, .int x2), (3, .int x3), (4, .int x4), (5, .int x5)] → W p l e (rm_X9_take) s m args below meth c H locs 0 0 (MQ below (QV D cA A (wM cA ad) σ' ta) args s 0 0 A) (F0 m 3 ls [])) {x1 x2 x3 x4 x5 : Int32} { σ : St} {H : Heap} {locs : List Loc} {ls : Array Slot} (hf : F_X9_take_205 k3 x1 x2 x3 x4 x5 σ = some (r, σ')) (hP : va_P D vwCl (wM cA ad ta σ) H) (hD : va_D A (wM cA ad ta σ)) (hS : va_S A s.heap H locs) (hl : lv_has ls 9 [(0, .ref (ad 0)), (1, .int x1), (2, .int x2), (3, .int x3), (4, .int x4), (5, .int x5)]) : W p l e (rm_X9_take) s m args below meth c H locs 0 0 (MQ below (QV D cA A (wM cA ad) σ' ta) args s 0 0 A) (F0 m 205 ls []) := by
  obtain ⟨hx, hb, hr, hml, hown, hlk, hE, hK, hA⟩ := id X
  rw [F_X9_take_205] at hf
  refine lv_iinc (v := (x5 + 1)) (lv' := [(5, .int (x5 + 1)), (0, .ref (ad 0)), (1, .int x1), (2, .int x2), (3, .int x3), (4, .int x4)]) hx hb dX9_take_205 hl (k := 5) rfl rfl (by decide) rfl (fun ls hl => ?_)
  refine lv_goto (tgt := 3) hx hb dX9_take_208 (by decide) ?_
  exact K3 x1 x2 x3 x4 (x5 + 1) σ _ _ _ hf hP hD hS (lv_sub hl [1, 2, 3, 4, 5, 0] rfl)
set_option maxHeartbeats 4000000 in
set_option maxRecDepth 100000 in
theorem t_X9_take_157 {k3 : Int32 → Int32 → Int32 → Int32 → Int32 → St → Rs} (X : Fx p s m meth c D cA A RX9 cX9_take 9 none) (K3 : ∀ (x1 x2 x3 x4 x5 : Int32) (σ : St) (H : Heap) (locs : List Loc) (ls : Array Slot), k3 x1 x2 x3 x4 x5 σ = some (r, σ') → va_P D vwCl (wM cA ad ta σ) H → va_D A (wM cA ad ta σ) → va_S A s.heap H locs → lv_has ls 9 [(0, .ref (ad 0)), (1, .int x1), (2, .int x2), (3, .int x3), (4, .int x4), (5, .int x5)] → W p l e (rm_X9_take) s m args below meth c H locs 0 0 (MQ below (QV D cA A (wM cA ad) σ' ta) args s 0 0 A) (F0 m 3 ls [])) : ∀ (n : Nat) (x1 x2 x3 x4 x5 x6 x7 x8 : Int32) (σ : St) (H : Heap) (locs : List Loc) (ls : Array Slot), F_X9_take_157 k3 n x1 x2 x3 x4 x5 x6 x7 x8 σ = some (r, σ') → va_P D vwCl (wM cA ad ta σ) H → va_D A (wM cA ad ta σ) → va_S A s.heap H locs → lv_has ls 9 [(0, .ref (ad 0)), (1, .int x1), (2, .int x2), (3, .int x3), (4, .int x4), (5, .int x5), (6, .int x6), (7, .int x7), (8, .int x8)] → W p l e (rm_X9_take) s m args below meth c H locs 0 0 (MQ below (QV D cA A (wM cA ad) σ' ta) args s 0 0 A) (F0 m 157 ls []) := by
  obtain ⟨hx, hb, hr, hml, hown, hlk, hE, hK, hA⟩ := id X
  intro n
  induction n with
  | zero =>
    intro x1 x2 x3 x4 x5 x6 x7 x8 σ H locs ls hf
    cases (show (none : Rs) = some _ from hf)
  | succ n ih =>
    intro x1 x2 x3 x4 x5 x6 x7 x8 σ H locs ls hf hP hD hS hl
    rw [F_X9_take_157] at hf
    refine lv_iload hx hb dX9_take_157 (lv_at hl 8 rfl) ?_
    refine lv_iload hx hb dX9_take_159 (lv_at hl 4 rfl) ?_
    refine lv_icmp_ge (tgt := 205) hx hb dX9_take_161 (by decide) (fun c1 => ?_) (fun c1 => ?_)
    · have hf := it_t c1 hf
      exact t_X9_take_205 X K3 hf hP hD hS (lv_sub hl [0, 1, 2, 3, 4, 5] rfl)
    · have hf := it_f c1 hf
      refine lv_aload_n hx hb dX9_take_164 rfl (lv_at hl 0 rfl) ?_
      refine gM_Mod_open X hP kw701 dX9_take_165 ?_
      refine lv_iload hx hb dX9_take_168 (lv_at hl 6 rfl) ?_
      refine lv_iload_n hx hb dX9_take_170 rfl (lv_at hl 3 rfl) ?_
      refine lv_iadd hx hb dX9_take_171 ?_
      refine lv_iload hx hb dX9_take_172 (lv_at hl 8 rfl) ?_
      refine lv_iadd hx hb dX9_take_174 ?_
      refine lv_iload hx hb dX9_take_175 (lv_at hl 7 rfl) ?_
      obtain ⟨b2, hf⟩ := ck_e hf
      refine sM_open X hP hD hS b2 dX9_take_177 (fun H locs hP hD hS => ?_)
      obtain ⟨s3, es3, hf⟩ := bd_e hf
      rw [← es3] at hP hD
      refine lv_aload_n hx hb dX9_take_178 rfl (lv_at hl 0 rfl) ?_
      refine gM_Mod_end X hP kw692 dX9_take_179 ?_
      refine lv_sipush (v := 160) hx hb dX9_take_182 (by decide) ?_
      refine lv_aload_n hx hb dX9_take_185 rfl (lv_at hl 0 rfl) ?_
      refine gM_Mod_set X hP kw703 dX9_take_186 ?_
      refine lv_iload hx hb dX9_take_189 (lv_at hl 5 rfl) ?_
      obtain ⟨b4, hf⟩ := ck_e hf
      refine lM_set X hP b4 dX9_take_191 ?_
      refine lv_topi (fun y5 ey5 => ?_)
      have hf := bd_x ey5 hf
      refine lv_imul hx hb dX9_take_192 ?_
      refine lv_iload hx hb dX9_take_193 (lv_at hl 7 rfl) ?_
      refine lv_iadd hx hb dX9_take_195 ?_
      obtain ⟨b6, hf⟩ := ck_e hf
      refine lM_end X hP b6 dX9_take_196 ?_
      refine lv_topi (fun y7 ey7 => ?_)
      have hf := bd_x ey7 hf
      refine lv_istore (lv' := [(7, .int y7), (0, .ref (ad 0)), (1, .int x1), (2, .int x2), (3, .int x3), (4, .int x4), (5, .int x5), (6, .int x6), (8, .int x8)]) hx hb dX9_take_197 hl (by decide) rfl (fun ls hl => ?_)
      refine lv_iinc (v := (x8 + 1)) (lv' := [(8, .int (x8 + 1)), (7, .int y7), (0, .ref (ad 0)), (1, .int x1), (2, .int x2), (3, .int x3), (4, .int x4), (5, .int x5), (6, .int x6)]) hx hb dX9_take_199 hl (k := 8) rfl rfl (by decide) rfl (fun ls hl => ?_)
      refine lv_goto (tgt := 157) hx hb dX9_take_202 (by decide) ?_
      exact ih x1 x2 x3 x4 x5 x6 y7 (x8 + 1) s3 _ _ _ hf hP hD hS (lv_sub hl [2, 3, 4, 5, 6, 7, 8, 1, 0] rfl)
set_option maxHeartbeats 4000000 in
set_option maxRecDepth 100000 in
theorem t_X9_take_151 {k3 : Int32 → Int32 → Int32 → Int32 → Int32 → St → Rs} (X : Fx p s m meth c D cA A RX9 cX9_take 9 none) (K3 : ∀ (x1 x2 x3 x4 x5 : Int32) (σ : St) (H : Heap) (locs : List Loc) (ls : Array Slot), k3 x1 x2 x3 x4 x5 σ = some (r, σ') → va_P D vwCl (wM cA ad ta σ) H → va_D A (wM cA ad ta σ) → va_S A s.heap H locs → lv_has ls 9 [(0, .ref (ad 0)), (1, .int x1), (2, .int x2), (3, .int x3), (4, .int x4), (5, .int x5)] → W p l e (rm_X9_take) s m args below meth c H locs 0 0 (MQ below (QV D cA A (wM cA ad) σ' ta) args s 0 0 A) (F0 m 3 ls [])) {x1 x2 x3 x4 x5 x6 x7 : Int32} { σ : St} {H : Heap} {locs : List Loc} {ls : Array Slot} (hf : F_X9_take_151 k3 x1 x2 x3 x4 x5 x6 x7 σ = some (r, σ')) (hP : va_P D vwCl (wM cA ad ta σ) H) (hD : va_D A (wM cA ad ta σ)) (hS : va_S A s.heap H locs) (hl : lv_has ls 9 [(0, .ref (ad 0)), (1, .int x1), (2, .int x2), (3, .int x3), (4, .int x4), (5, .int x5), (6, .int x6), (7, .int x7)]) : W p l e (rm_X9_take) s m args below meth c H locs 0 0 (MQ below (QV D cA A (wM cA ad) σ' ta) args s 0 0 A) (F0 m 151 ls []) := by
  obtain ⟨hx, hb, hr, hml, hown, hlk, hE, hK, hA⟩ := id X
  rw [F_X9_take_151] at hf
  refine lv_iinc (v := (x7 + 1)) (lv' := [(7, .int (x7 + 1)), (0, .ref (ad 0)), (1, .int x1), (2, .int x2), (3, .int x3), (4, .int x4), (5, .int x5), (6, .int x6)]) hx hb dX9_take_151 hl (k := 7) rfl rfl (by decide) rfl (fun ls hl => ?_)
  refine lv_iconst (v := 0) hx hb dX9_take_154 (by decide) ?_
  refine lv_istore (lv' := [(8, .int 0), (7, .int (x7 + 1)), (0, .ref (ad 0)), (1, .int x1), (2, .int x2), (3, .int x3), (4, .int x4), (5, .int x5), (6, .int x6)]) hx hb dX9_take_155 hl (by decide) rfl (fun ls hl => ?_)
  exact t_X9_take_157 X K3 5000 x1 x2 x3 x4 x5 x6 (x7 + 1) 0 σ _ _ _ hf hP hD hS (lv_sub hl [2, 3, 4, 5, 6, 7, 8, 1, 0] rfl)
set_option maxHeartbeats 4000000 in
set_option maxRecDepth 100000 in
theorem t_X9_take_114 {k3 : Int32 → Int32 → Int32 → Int32 → Int32 → St → Rs} (X : Fx p s m meth c D cA A RX9 cX9_take 9 none) (K3 : ∀ (x1 x2 x3 x4 x5 : Int32) (σ : St) (H : Heap) (locs : List Loc) (ls : Array Slot), k3 x1 x2 x3 x4 x5 σ = some (r, σ') → va_P D vwCl (wM cA ad ta σ) H → va_D A (wM cA ad ta σ) → va_S A s.heap H locs → lv_has ls 9 [(0, .ref (ad 0)), (1, .int x1), (2, .int x2), (3, .int x3), (4, .int x4), (5, .int x5)] → W p l e (rm_X9_take) s m args below meth c H locs 0 0 (MQ below (QV D cA A (wM cA ad) σ' ta) args s 0 0 A) (F0 m 3 ls [])) : ∀ (n : Nat) (x1 x2 x3 x4 x5 x6 x7 x8 : Int32) (σ : St) (H : Heap) (locs : List Loc) (ls : Array Slot), F_X9_take_114 k3 n x1 x2 x3 x4 x5 x6 x7 x8 σ = some (r, σ') → va_P D vwCl (wM cA ad ta σ) H → va_D A (wM cA ad ta σ) → va_S A s.heap H locs → lv_has ls 9 [(0, .ref (ad 0)), (1, .int x1), (2, .int x2), (3, .int x3), (4, .int x4), (5, .int x5), (6, .int x6), (7, .int x7), (8, .int x8)] → W p l e (rm_X9_take) s m args below meth c H locs 0 0 (MQ below (QV D cA A (wM cA ad) σ' ta) args s 0 0 A) (F0 m 114 ls []) := by
  obtain ⟨hx, hb, hr, hml, hown, hlk, hE, hK, hA⟩ := id X
  intro n
  induction n with
  | zero =>
    intro x1 x2 x3 x4 x5 x6 x7 x8 σ H locs ls hf
    cases (show (none : Rs) = some _ from hf)
  | succ n ih =>
    intro x1 x2 x3 x4 x5 x6 x7 x8 σ H locs ls hf hP hD hS hl
    rw [F_X9_take_114] at hf
    refine lv_iload hx hb dX9_take_114 (lv_at hl 8 rfl) ?_
    refine lv_iload_n hx hb dX9_take_116 rfl (lv_at hl 3 rfl) ?_
    refine lv_icmp_le (tgt := 151) hx hb dX9_take_117 (by decide) (fun c1 => ?_) (fun c1 => ?_)
    · have hf := it_t c1 hf
      exact t_X9_take_151 X K3 hf hP hD hS (lv_sub hl [0, 1, 2, 3, 4, 5, 6, 7] rfl)
    · have hf := it_f c1 hf
      refine lv_aload_n hx hb dX9_take_120 rfl (lv_at hl 0 rfl) ?_
      refine gM_Mod_open X hP kw701 dX9_take_121 ?_
      refine lv_iload hx hb dX9_take_124 (lv_at hl 6 rfl) ?_
      refine lv_iload hx hb dX9_take_126 (lv_at hl 8 rfl) ?_
      refine lv_iadd hx hb dX9_take_128 ?_
      refine lv_iload hx hb dX9_take_129 (lv_at hl 4 rfl) ?_
      refine lv_iadd hx hb dX9_take_131 ?_
      refine lv_iconst (v := 1) hx hb dX9_take_132 (by decide) ?_
      refine lv_isub hx hb dX9_take_133 ?_
      refine lv_aload_n hx hb dX9_take_134 rfl (lv_at hl 0 rfl) ?_
      refine gM_Mod_open X hP kw701 dX9_take_135 ?_
      refine lv_iload hx hb dX9_take_138 (lv_at hl 6 rfl) ?_
      refine lv_iload hx hb dX9_take_140 (lv_at hl 8 rfl) ?_
      refine lv_iadd hx hb dX9_take_142 ?_
      obtain ⟨b2, hf⟩ := ck_e hf
      refine lM_open X hP b2 dX9_take_143 ?_
      refine lv_topi (fun y3 ey3 => ?_)
      have hf := bd_x ey3 hf
      obtain ⟨b4, hf⟩ := ck_e hf
      refine sM_open X hP hD hS b4 dX9_take_144 (fun H locs hP hD hS => ?_)
      obtain ⟨s5, es5, hf⟩ := bd_e hf
      rw [← es5] at hP hD
      refine lv_iinc (v := (x8 + (-1))) (lv' := [(8, .int (x8 + (-1))), (0, .ref (ad 0)), (1, .int x1), (2, .int x2), (3, .int x3), (4, .int x4), (5, .int x5), (6, .int x6), (7, .int x7)]) hx hb dX9_take_145 hl (k := 8) rfl rfl (by decide) rfl (fun ls hl => ?_)
      refine lv_goto (tgt := 114) hx hb dX9_take_148 (by decide) ?_
      exact ih x1 x2 x3 x4 x5 x6 x7 (x8 + (-1)) s5 _ _ _ hf hP hD hS (lv_sub hl [1, 2, 3, 4, 5, 6, 7, 8, 0] rfl)
set_option maxHeartbeats 4000000 in
set_option maxRecDepth 100000 in
theorem t_X9_take_211  (X : Fx p s m meth c D cA A RX9 cX9_take 9 none)  {x4 : Int32} { σ : St} {H : Heap} {locs : List Loc} {ls : Array Slot} (hf : F_X9_take_211 x4 σ = some (r, σ')) (hP : va_P D vwCl (wM cA ad ta σ) H) (hD : va_D A (wM cA ad ta σ)) (hS : va_S A s.heap H locs) (hl : lv_has ls 9 [(0, .ref (ad 0)), (4, .int x4)]) : W p l e (rm_X9_take) s m args below meth c H locs 0 0 (MQ below (QV D cA A (wM cA ad) σ' ta) args s 0 0 A) (F0 m 211 ls []) := by
  obtain ⟨hx, hb, hr, hml, hown, hlk, hE, hK, hA⟩ := id X
  rw [F_X9_take_211] at hf
  refine lv_aload_n hx hb dX9_take_211 rfl (lv_at hl 0 rfl) ?_
  refine lv_dup hx hb dX9_take_212 rfl ?_
  refine gM_Mod_opens X hP kw702 dX9_take_213 ?_
  refine lv_iload hx hb dX9_take_216 (lv_at hl 1 rfl) ?_
  refine lv_iconst (v := 1) hx hb dX9_take_218 (by decide) ?_
  refine lv_isub hx hb dX9_take_219 ?_
  refine lv_iadd hx hb dX9_take_220 ?_
  refine pM_Mod_opens X hP hD hS kw702 dX9_take_221 (fun H locs hP hD hS => ?_)
  obtain ⟨s1, es1, hf⟩ := bd_e hf
  rw [← es1] at hP hD
  obtain ⟨rfl, rfl⟩ := Prod.mk.inj (Option.some.inj hf)
  exact ret_v X hP hD hS dX9_take_224
set_option maxHeartbeats 4000000 in
set_option maxRecDepth 100000 in
theorem t_X9_take_103 {k3 : Int32 → Int32 → Int32 → Int32 → Int32 → St → Rs} (X : Fx p s m meth c D cA A RX9 cX9_take 9 none) (K3 : ∀ (x1 x2 x3 x4 x5 : Int32) (σ : St) (H : Heap) (locs : List Loc) (ls : Array Slot), k3 x1 x2 x3 x4 x5 σ = some (r, σ') → va_P D vwCl (wM cA ad ta σ) H → va_D A (wM cA ad ta σ) → va_S A s.heap H locs → lv_has ls 9 [(0, .ref (ad 0)), (1, .int x1), (2, .int x2), (3, .int x3), (4, .int x4), (5, .int x5)] → W p l e (rm_X9_take) s m args below meth c H locs 0 0 (MQ below (QV D cA A (wM cA ad) σ' ta) args s 0 0 A) (F0 m 3 ls [])) {x1 x2 x3 x4 x5 x6 x7 : Int32} { σ : St} {H : Heap} {locs : List Loc} {ls : Array Slot} (hf : F_X9_take_103 k3 x1 x2 x3 x4 x5 x6 x7 σ = some (r, σ')) (hP : va_P D vwCl (wM cA ad ta σ) H) (hD : va_D A (wM cA ad ta σ)) (hS : va_S A s.heap H locs) (hl : lv_has ls 9 [(0, .ref (ad 0)), (1, .int x1), (2, .int x2), (3, .int x3), (4, .int x4), (5, .int x5), (6, .int x6), (7, .int x7)]) : W p l e (rm_X9_take) s m args below meth c H locs 0 0 (MQ below (QV D cA A (wM cA ad) σ' ta) args s 0 0 A) (F0 m 103 ls []) := by
  obtain ⟨hx, hb, hr, hml, hown, hlk, hE, hK, hA⟩ := id X
  rw [F_X9_take_103] at hf
  refine lv_goto (tgt := 151) hx hb dX9_take_103 (by decide) ?_
  exact t_X9_take_151 X K3 hf hP hD hS (lv_sub hl [0, 1, 2, 3, 4, 5, 6, 7] rfl)
set_option maxHeartbeats 4000000 in
set_option maxRecDepth 100000 in
theorem t_X9_take_66 {k3 : Int32 → Int32 → Int32 → Int32 → Int32 → St → Rs} (X : Fx p s m meth c D cA A RX9 cX9_take 9 none) (K3 : ∀ (x1 x2 x3 x4 x5 : Int32) (σ : St) (H : Heap) (locs : List Loc) (ls : Array Slot), k3 x1 x2 x3 x4 x5 σ = some (r, σ') → va_P D vwCl (wM cA ad ta σ) H → va_D A (wM cA ad ta σ) → va_S A s.heap H locs → lv_has ls 9 [(0, .ref (ad 0)), (1, .int x1), (2, .int x2), (3, .int x3), (4, .int x4), (5, .int x5)] → W p l e (rm_X9_take) s m args below meth c H locs 0 0 (MQ below (QV D cA A (wM cA ad) σ' ta) args s 0 0 A) (F0 m 3 ls [])) : ∀ (n : Nat) (x1 x2 x3 x4 x5 x6 x7 x8 : Int32) (σ : St) (H : Heap) (locs : List Loc) (ls : Array Slot), F_X9_take_66 k3 n x1 x2 x3 x4 x5 x6 x7 x8 σ = some (r, σ') → va_P D vwCl (wM cA ad ta σ) H → va_D A (wM cA ad ta σ) → va_S A s.heap H locs → lv_has ls 9 [(0, .ref (ad 0)), (1, .int x1), (2, .int x2), (3, .int x3), (4, .int x4), (5, .int x5), (6, .int x6), (7, .int x7), (8, .int x8)] → W p l e (rm_X9_take) s m args below meth c H locs 0 0 (MQ below (QV D cA A (wM cA ad) σ' ta) args s 0 0 A) (F0 m 66 ls []) := by
  obtain ⟨hx, hb, hr, hml, hown, hlk, hE, hK, hA⟩ := id X
  intro n
  induction n with
  | zero =>
    intro x1 x2 x3 x4 x5 x6 x7 x8 σ H locs ls hf
    cases (show (none : Rs) = some _ from hf)
  | succ n ih =>
    intro x1 x2 x3 x4 x5 x6 x7 x8 σ H locs ls hf hP hD hS hl
    rw [F_X9_take_66] at hf
    refine lv_iload hx hb dX9_take_66 (lv_at hl 8 rfl) ?_
    refine lv_aload_n hx hb dX9_take_68 rfl (lv_at hl 0 rfl) ?_
    refine gM_Mod_opens X hP kw702 dX9_take_69 ?_
    refine lv_icmp_ge (tgt := 103) hx hb dX9_take_72 (by decide) (fun c1 => ?_) (fun c1 => ?_)
    · have hf := it_t c1 hf
      exact t_X9_take_103 X K3 hf hP hD hS (lv_sub hl [0, 1, 2, 3, 4, 5, 6, 7] rfl)
    · have hf := it_f c1 hf
      refine lv_aload_n hx hb dX9_take_75 rfl (lv_at hl 0 rfl) ?_
      refine gM_Mod_open X hP kw701 dX9_take_76 ?_
      refine lv_iload hx hb dX9_take_79 (lv_at hl 6 rfl) ?_
      refine lv_iload hx hb dX9_take_81 (lv_at hl 8 rfl) ?_
      refine lv_iadd hx hb dX9_take_83 ?_
      refine lv_iconst (v := 1) hx hb dX9_take_84 (by decide) ?_
      refine lv_isub hx hb dX9_take_85 ?_
      refine lv_aload_n hx hb dX9_take_86 rfl (lv_at hl 0 rfl) ?_
      refine gM_Mod_open X hP kw701 dX9_take_87 ?_
      refine lv_iload hx hb dX9_take_90 (lv_at hl 6 rfl) ?_
      refine lv_iload hx hb dX9_take_92 (lv_at hl 8 rfl) ?_
      refine lv_iadd hx hb dX9_take_94 ?_
      obtain ⟨b2, hf⟩ := ck_e hf
      refine lM_open X hP b2 dX9_take_95 ?_
      refine lv_topi (fun y3 ey3 => ?_)
      have hf := bd_x ey3 hf
      obtain ⟨b4, hf⟩ := ck_e hf
      refine sM_open X hP hD hS b4 dX9_take_96 (fun H locs hP hD hS => ?_)
      obtain ⟨s5, es5, hf⟩ := bd_e hf
      rw [← es5] at hP hD
      refine lv_iinc (v := (x8 + 1)) (lv' := [(8, .int (x8 + 1)), (0, .ref (ad 0)), (1, .int x1), (2, .int x2), (3, .int x3), (4, .int x4), (5, .int x5), (6, .int x6), (7, .int x7)]) hx hb dX9_take_97 hl (k := 8) rfl rfl (by decide) rfl (fun ls hl => ?_)
      refine lv_goto (tgt := 66) hx hb dX9_take_100 (by decide) ?_
      exact ih x1 x2 x3 x4 x5 x6 x7 (x8 + 1) s5 _ _ _ hf hP hD hS (lv_sub hl [1, 2, 3, 4, 5, 6, 7, 8, 0] rfl)
set_option maxHeartbeats 4000000 in
set_option maxRecDepth 100000 in
theorem t_X9_take_3  (X : Fx p s m meth c D cA A RX9 cX9_take 9 none)  : ∀ (n : Nat) (x1 x2 x3 x4 x5 : Int32) (σ : St) (H : Heap) (locs : List Loc) (ls : Array Slot), F_X9_take_3 n x1 x2 x3 x4 x5 σ = some (r, σ') → va_P D vwCl (wM cA ad ta σ) H → va_D A (wM cA ad ta σ) → va_S A s.heap H locs → lv_has ls 9 [(0, .ref (ad 0)), (1, .int x1), (2, .int x2), (3, .int x3), (4, .int x4), (5, .int x5)] → W p l e (rm_X9_take) s m args below meth c H locs 0 0 (MQ below (QV D cA A (wM cA ad) σ' ta) args s 0 0 A) (F0 m 3 ls []) := by
  obtain ⟨hx, hb, hr, hml, hown, hlk, hE, hK, hA⟩ := id X
  intro n
  induction n with
  | zero =>
    intro x1 x2 x3 x4 x5 σ H locs ls hf
    cases (show (none : Rs) = some _ from hf)
  | succ n ih =>
    intro x1 x2 x3 x4 x5 σ H locs ls hf hP hD hS hl
    rw [F_X9_take_3] at hf
    refine lv_iload hx hb dX9_take_3 (lv_at hl 5 rfl) ?_
    refine lv_iload_n hx hb dX9_take_5 rfl (lv_at hl 1 rfl) ?_
    refine lv_iload_n hx hb dX9_take_6 rfl (lv_at hl 2 rfl) ?_
    refine lv_iadd hx hb dX9_take_7 ?_
    refine lv_icmp_ge (tgt := 211) hx hb dX9_take_8 (by decide) (fun c1 => ?_) (fun c1 => ?_)
    · have hf := it_t c1 hf
      exact t_X9_take_211 X  hf hP hD hS (lv_sub hl [0, 4] rfl)
    · have hf := it_f c1 hf
      refine lv_sipush (v := 170) hx hb dX9_take_11 (by decide) ?_
      refine lv_aload_n hx hb dX9_take_14 rfl (lv_at hl 0 rfl) ?_
      refine gM_Mod_set X hP kw703 dX9_take_15 ?_
      refine lv_iload hx hb dX9_take_18 (lv_at hl 5 rfl) ?_
      obtain ⟨b2, hf⟩ := ck_e hf
      refine lM_set X hP b2 dX9_take_20 ?_
      refine lv_topi (fun y3 ey3 => ?_)
      have hf := bd_x ey3 hf
      refine lv_imul hx hb dX9_take_21 ?_
      refine lv_topi (fun y4 ey4 => ?_)
      have hf := bd_x ey4 hf
      refine lv_istore (lv' := [(6, .int y4), (0, .ref (ad 0)), (1, .int x1), (2, .int x2), (3, .int x3), (4, .int x4), (5, .int x5)]) hx hb dX9_take_22 hl (by decide) rfl (fun ls hl => ?_)
      refine lv_aload_n hx hb dX9_take_24 rfl (lv_at hl 1 rfl) ?_
      refine gM_Mod_open X hP kw701 dX9_take_25 ?_
      refine lv_iload hx hb dX9_take_28 (lv_at hl 0 rfl) ?_
      refine lv_iload_n hx hb dX9_take_30 rfl (lv_at hl 4 rfl) ?_
      refine lv_iadd hx hb dX9_take_31 ?_
      obtain ⟨b5, hf⟩ := ck_e hf
      refine lM_open X hP b5 dX9_take_32 ?_
      refine lv_topi (fun y6 ey6 => ?_)
      have hf := bd_x ey6 hf
      refine lv_istore (lv' := [(7, .int y6), (6, .int y4), (0, .ref (ad 0)), (1, .int x1), (2, .int x2), (3, .int x3), (4, .int x4), (5, .int x5)]) hx hb dX9_take_33 hl (by decide) rfl (fun ls hl => ?_)
      refine lv_aload_n hx hb dX9_take_35 rfl (lv_at hl 2 rfl) ?_
      refine gM_Mod_taken X hP kw704 dX9_take_36 ?_
      refine lv_aload_n hx hb dX9_take_39 rfl (lv_at hl 2 rfl) ?_
      refine gM_Mod_takenEnd X hP kw706 dX9_take_40 ?_
      refine lv_iload hx hb dX9_take_43 (lv_at hl 0 rfl) ?_
      obtain ⟨b7, hf⟩ := ck_e hf
      refine sM_taken X hP hD hS b7 dX9_take_45 (fun H locs hP hD hS => ?_)
      obtain ⟨s8, es8, hf⟩ := bd_e hf
      rw [← es8] at hP hD
      refine lv_aload_n hx hb dX9_take_46 rfl (lv_at hl 2 rfl) ?_
      refine lv_dup hx hb dX9_take_47 rfl ?_
      refine gM_Mod_takenEnd X hP kw706 dX9_take_48 ?_
      refine lv_iconst (v := 1) hx hb dX9_take_51 (by decide) ?_
      refine lv_iadd hx hb dX9_take_52 ?_
      refine pM_Mod_takenEnd X hP hD hS kw706 dX9_take_53 (fun H locs hP hD hS => ?_)
      obtain ⟨s9, es9, hf⟩ := bd_e hf
      rw [← es9] at hP hD
      refine lv_iload hx hb dX9_take_56 (lv_at hl 6 rfl) ?_
      refine lv_if_ne (tgt := 106) hx hb dX9_take_58 (by decide) (fun c10 => ?_) (fun c10 => ?_)
      · have hf := it_f c10 hf
        refine lv_aload_n hx hb dX9_take_106 rfl (lv_at hl 2 rfl) ?_
        refine gM_Mod_opens X hP kw702 dX9_take_107 ?_
        refine lv_iconst (v := 1) hx hb dX9_take_110 (by decide) ?_
        refine lv_isub hx hb dX9_take_111 ?_
        refine lv_topi (fun y11 ey11 => ?_)
        have hf := bd_x ey11 hf
        refine lv_istore (lv' := [(8, .int y11), (7, .int y6), (6, .int y4), (0, .ref (ad 0)), (1, .int x1), (2, .int x2), (3, .int x3), (4, .int x4), (5, .int x5)]) hx hb dX9_take_112 hl (by decide) rfl (fun ls hl => ?_)
        exact t_X9_take_114 X ih 5000 x1 x2 x3 x4 x5 y4 y6 y11 s9 _ _ _ hf hP hD hS (lv_sub hl [3, 4, 5, 6, 7, 8, 2, 1, 0] rfl)
      · have hf := it_t c10 hf
        refine lv_iload_n hx hb dX9_take_61 rfl (lv_at hl 5 rfl) ?_
        refine lv_iconst (v := 1) hx hb dX9_take_62 (by decide) ?_
        refine lv_iadd hx hb dX9_take_63 ?_
        refine lv_topi (fun y12 ey12 => ?_)
        have hf := bd_x ey12 hf
        refine lv_istore (lv' := [(8, .int y12), (7, .int y6), (6, .int y4), (0, .ref (ad 0)), (1, .int x1), (2, .int x2), (3, .int x3), (4, .int x4), (5, .int x5)]) hx hb dX9_take_64 hl (by decide) rfl (fun ls hl => ?_)
        exact t_X9_take_66 X ih 5000 x1 x2 x3 x4 x5 y4 y6 y12 s9 _ _ _ hf hP hD hS (lv_sub hl [3, 4, 5, 6, 7, 8, 2, 1, 0] rfl)
set_option maxHeartbeats 4000000 in
set_option maxRecDepth 100000 in
theorem t_X9_take_0  (X : Fx p s m meth c D cA A RX9 cX9_take 9 none)  {x1 x2 x3 x4 : Int32} { σ : St} {H : Heap} {locs : List Loc} {ls : Array Slot} (hf : F_X9_take x1 x2 x3 x4 σ = some (r, σ')) (hP : va_P D vwCl (wM cA ad ta σ) H) (hD : va_D A (wM cA ad ta σ)) (hS : va_S A s.heap H locs) (hl : lv_has ls 9 [(0, .ref (ad 0)), (1, .int x1), (2, .int x2), (3, .int x3), (4, .int x4)]) : W p l e (rm_X9_take) s m args below meth c H locs 0 0 (MQ below (QV D cA A (wM cA ad) σ' ta) args s 0 0 A) (F0 m 0 ls []) := by
  obtain ⟨hx, hb, hr, hml, hown, hlk, hE, hK, hA⟩ := id X
  rw [F_X9_take] at hf
  refine lv_iload_n hx hb dX9_take_0 rfl (lv_at hl 1 rfl) ?_
  refine lv_istore (lv' := [(5, .int x1), (0, .ref (ad 0)), (1, .int x1), (2, .int x2), (3, .int x3), (4, .int x4)]) hx hb dX9_take_1 hl (by decide) rfl (fun ls hl => ?_)
  exact t_X9_take_3 X  5000 x1 x2 x3 x4 x1 σ _ _ _ hf hP hD hS (lv_sub hl [1, 2, 3, 4, 5, 0] rfl)
end S_X9_take
theorem c_X9_take (l : Launch) (D : va_G) (cA : ClassId) (A : Nat → Prop) (ad : Nat → Nat) (ta : Nat) (σ : St) (x1 x2 x3 x4 : Int32) (r : Int32) (σ' : St) (hf : F_X9_take x1 x2 x3 x4 σ = some (r, σ')) : MV l D cA A (wM cA ad) yX9_take cX9_take 9 none rm_X9_take [.ref (ad 0), .int x1, .int x2, .int x3, .int x4] ta σ σ' 0 0 := by
  refine enter (by decide) (Nat.le_of_ble_eq_true rfl) ?_
  intro p e s m below meth c ls X hnm hP hD hS hl
  exact t_X9_take_0 X hf hP hD hS hl
abbrev rm_X9_putBack : Room := { frames := 0, cells := 0, slots := 0, locals := 0 }
def F_X9_putBack_134 (k20 : Int32 → Int32 → Int32 → Int32 → St → Rs) (x1 : Int32) (x3 : Int32) (x4 : Int32) (x5 : Int32) (x6 : Int32) (σ : St) : Rs :=
  bd (sF σ 9 ((gF σ 9) - 1)) (fun s1 => ck (inb (gF s1 9) 4800) (bd (gA s1 18 (gF s1 9).toNatClampNeg) (fun y3 => ck (inb (x6 + x3) 4080) (bd (sA s1 16 (upd (gA s1 16) (x6 + x3).toNatClampNeg y3)) (fun s5 => k20 x1 x3 x4 (x5 + (-1)) s5)))))
def F_X9_putBack_86 (k20 : Int32 → Int32 → Int32 → Int32 → St → Rs) (x1 : Int32) (x3 : Int32) (x4 : Int32) (x5 : Int32) (x6 : Int32) (σ : St) : Rs :=
  F_X9_putBack_134 k20 x1 x3 x4 x5 x6 σ
def F_X9_putBack_52 (k20 : Int32 → Int32 → Int32 → Int32 → St → Rs) : Nat → Int32 → Int32 → Int32 → Int32 → Int32 → Int32 → St → Rs
  | 0, _, _, _, _, _, _, _ => none
  | n + 1, x1, x3, x4, x5, x6, x7, σ => if x7 ≤ x3 then (F_X9_putBack_86 k20 x1 x3 x4 x5 x6 σ) else (ck (inb ((x6 + x7) - 1) 4080) (bd (gA σ 16 ((x6 + x7) - 1).toNatClampNeg) (fun y3 => ck (inb (x6 + x7) 4080) (bd (sA σ 16 (upd (gA σ 16) (x6 + x7).toNatClampNeg y3)) (fun s5 => F_X9_putBack_52 k20 n x1 x3 x4 x5 x6 (x7 + (-1)) s5)))))
def F_X9_putBack_94 (k20 : Int32 → Int32 → Int32 → Int32 → St → Rs) : Nat → Int32 → Int32 → Int32 → Int32 → Int32 → Int32 → St → Rs
  | 0, _, _, _, _, _, _, _ => none
  | n + 1, x1, x3, x4, x5, x6, x7, σ => if (gF σ 7) ≤ x7 then (F_X9_putBack_134 k20 x1 x3 x4 x5 x6 σ) else (ck (inb (((x6 + x7) + x4) - 1) 4080) (bd (gA σ 16 (((x6 + x7) + x4) - 1).toNatClampNeg) (fun y3 => ck (inb (x6 + x7) 4080) (bd (sA σ 16 (upd (gA σ 16) (x6 + x7).toNatClampNeg y3)) (fun s5 => F_X9_putBack_94 k20 n x1 x3 x4 x5 x6 (x7 + 1) s5)))))
def F_X9_putBack_20  : Nat → Int32 → Int32 → Int32 → Int32 → St → Rs
  | 0, _, _, _, _, _ => none
  | n + 1, x1, x3, x4, x5, σ => if x5 < x1 then (some (0, σ)) else (ck (inb x5 4800) (bd (gA σ 17 x5.toNatClampNeg) (fun y3 => bd (170 * y3) (fun y4 => if x4 = 0 then (bd ((gF σ 7) - 1) (fun y7 => F_X9_putBack_52 (F_X9_putBack_20 n) 5000 x1 x3 x4 x5 y4 y7 σ)) else (bd (x3 + 1) (fun y6 => F_X9_putBack_94 (F_X9_putBack_20 n) 5000 x1 x3 x4 x5 y4 y6 σ))))))
def F_X9_putBack (x1 : Int32) (x2 : Int32) (x3 : Int32) (x4 : Int32) (σ : St) : Rs :=
  bd (sF σ 7 ((gF σ 7) - (x4 - 1))) (fun s1 => bd ((x1 + x2) - 1) (fun y2 => F_X9_putBack_20 5000 x1 x3 x4 y2 s1))
section S_X9_putBack
variable {p : Program} {l : Launch} {e : Env} {s : State} {m : MethodId} {args : Array Value} {below : List Frame} {meth : Method} {c : Code}
variable {D : va_G} {cA : ClassId} {A : Nat → Prop} {ad : Nat → Nat} {r : Int32} {σ' : St} {ta : Nat}
set_option maxHeartbeats 4000000 in
set_option maxRecDepth 100000 in
theorem t_X9_putBack_134 {k20 : Int32 → Int32 → Int32 → Int32 → St → Rs} (X : Fx p s m meth c D cA A RX9 cX9_putBack 8 none) (K20 : ∀ (x1 x3 x4 x5 : Int32) (σ : St) (H : Heap) (locs : List Loc) (ls : Array Slot), k20 x1 x3 x4 x5 σ = some (r, σ') → va_P D vwCl (wM cA ad ta σ) H → va_D A (wM cA ad ta σ) → va_S A s.heap H locs → lv_has ls 8 [(0, .ref (ad 0)), (1, .int x1), (3, .int x3), (4, .int x4), (5, .int x5)] → W p l e (rm_X9_putBack) s m args below meth c H locs 0 0 (MQ below (QV D cA A (wM cA ad) σ' ta) args s 0 0 A) (F0 m 20 ls [])) {x1 x3 x4 x5 x6 : Int32} { σ : St} {H : Heap} {locs : List Loc} {ls : Array Slot} (hf : F_X9_putBack_134 k20 x1 x3 x4 x5 x6 σ = some (r, σ')) (hP : va_P D vwCl (wM cA ad ta σ) H) (hD : va_D A (wM cA ad ta σ)) (hS : va_S A s.heap H locs) (hl : lv_has ls 8 [(0, .ref (ad 0)), (1, .int x1), (3, .int x3), (4, .int x4), (5, .int x5), (6, .int x6)]) : W p l e (rm_X9_putBack) s m args below meth c H locs 0 0 (MQ below (QV D cA A (wM cA ad) σ' ta) args s 0 0 A) (F0 m 134 ls []) := by
  obtain ⟨hx, hb, hr, hml, hown, hlk, hE, hK, hA⟩ := id X
  rw [F_X9_putBack_134] at hf
  refine lv_aload_n hx hb dX9_putBack_134 rfl (lv_at hl 0 rfl) ?_
  refine lv_dup hx hb dX9_putBack_135 rfl ?_
  refine gM_Mod_takenEnd X hP kw706 dX9_putBack_136 ?_
  refine lv_iconst (v := 1) hx hb dX9_putBack_139 (by decide) ?_
  refine lv_isub hx hb dX9_putBack_140 ?_
  refine pM_Mod_takenEnd X hP hD hS kw706 dX9_putBack_141 (fun H locs hP hD hS => ?_)
  obtain ⟨s1, es1, hf⟩ := bd_e hf
  rw [← es1] at hP hD
  refine lv_aload_n hx hb dX9_putBack_144 rfl (lv_at hl 0 rfl) ?_
  refine gM_Mod_open X hP kw701 dX9_putBack_145 ?_
  refine lv_iload hx hb dX9_putBack_148 (lv_at hl 5 rfl) ?_
  refine lv_iload_n hx hb dX9_putBack_150 rfl (lv_at hl 2 rfl) ?_
  refine lv_iadd hx hb dX9_putBack_151 ?_
  refine lv_aload_n hx hb dX9_putBack_152 rfl (lv_at hl 0 rfl) ?_
  refine gM_Mod_taken X hP kw704 dX9_putBack_153 ?_
  refine lv_aload_n hx hb dX9_putBack_156 rfl (lv_at hl 0 rfl) ?_
  refine gM_Mod_takenEnd X hP kw706 dX9_putBack_157 ?_
  obtain ⟨b2, hf⟩ := ck_e hf
  refine lM_taken X hP b2 dX9_putBack_160 ?_
  refine lv_topi (fun y3 ey3 => ?_)
  have hf := bd_x ey3 hf
  obtain ⟨b4, hf⟩ := ck_e hf
  refine sM_open X hP hD hS b4 dX9_putBack_161 (fun H locs hP hD hS => ?_)
  obtain ⟨s5, es5, hf⟩ := bd_e hf
  rw [← es5] at hP hD
  refine lv_iinc (v := (x5 + (-1))) (lv' := [(5, .int (x5 + (-1))), (0, .ref (ad 0)), (1, .int x1), (3, .int x3), (4, .int x4), (6, .int x6)]) hx hb dX9_putBack_162 hl (k := 4) rfl rfl (by decide) rfl (fun ls hl => ?_)
  refine lv_goto (tgt := 20) hx hb dX9_putBack_165 (by decide) ?_
  exact K20 x1 x3 x4 (x5 + (-1)) s5 _ _ _ hf hP hD hS (lv_sub hl [1, 2, 3, 4, 0] rfl)
set_option maxHeartbeats 4000000 in
set_option maxRecDepth 100000 in
theorem t_X9_putBack_86 {k20 : Int32 → Int32 → Int32 → Int32 → St → Rs} (X : Fx p s m meth c D cA A RX9 cX9_putBack 8 none) (K20 : ∀ (x1 x3 x4 x5 : Int32) (σ : St) (H : Heap) (locs : List Loc) (ls : Array Slot), k20 x1 x3 x4 x5 σ = some (r, σ') → va_P D vwCl (wM cA ad ta σ) H → va_D A (wM cA ad ta σ) → va_S A s.heap H locs → lv_has ls 8 [(0, .ref (ad 0)), (1, .int x1), (3, .int x3), (4, .int x4), (5, .int x5)] → W p l e (rm_X9_putBack) s m args below meth c H locs 0 0 (MQ below (QV D cA A (wM cA ad) σ' ta) args s 0 0 A) (F0 m 20 ls [])) {x1 x3 x4 x5 x6 : Int32} { σ : St} {H : Heap} {locs : List Loc} {ls : Array Slot} (hf : F_X9_putBack_86 k20 x1 x3 x4 x5 x6 σ = some (r, σ')) (hP : va_P D vwCl (wM cA ad ta σ) H) (hD : va_D A (wM cA ad ta σ)) (hS : va_S A s.heap H locs) (hl : lv_has ls 8 [(0, .ref (ad 0)), (1, .int x1), (3, .int x3), (4, .int x4), (5, .int x5), (6, .int x6)]) : W p l e (rm_X9_putBack) s m args below meth c H locs 0 0 (MQ below (QV D cA A (wM cA ad) σ' ta) args s 0 0 A) (F0 m 86 ls []) := by
  obtain ⟨hx, hb, hr, hml, hown, hlk, hE, hK, hA⟩ := id X
  rw [F_X9_putBack_86] at hf
  refine lv_goto (tgt := 134) hx hb dX9_putBack_86 (by decide) ?_
  exact t_X9_putBack_134 X K20 hf hP hD hS (lv_sub hl [0, 1, 2, 3, 4, 5] rfl)
set_option maxHeartbeats 4000000 in
set_option maxRecDepth 100000 in
theorem t_X9_putBack_52 {k20 : Int32 → Int32 → Int32 → Int32 → St → Rs} (X : Fx p s m meth c D cA A RX9 cX9_putBack 8 none) (K20 : ∀ (x1 x3 x4 x5 : Int32) (σ : St) (H : Heap) (locs : List Loc) (ls : Array Slot), k20 x1 x3 x4 x5 σ = some (r, σ') → va_P D vwCl (wM cA ad ta σ) H → va_D A (wM cA ad ta σ) → va_S A s.heap H locs → lv_has ls 8 [(0, .ref (ad 0)), (1, .int x1), (3, .int x3), (4, .int x4), (5, .int x5)] → W p l e (rm_X9_putBack) s m args below meth c H locs 0 0 (MQ below (QV D cA A (wM cA ad) σ' ta) args s 0 0 A) (F0 m 20 ls [])) : ∀ (n : Nat) (x1 x3 x4 x5 x6 x7 : Int32) (σ : St) (H : Heap) (locs : List Loc) (ls : Array Slot), F_X9_putBack_52 k20 n x1 x3 x4 x5 x6 x7 σ = some (r, σ') → va_P D vwCl (wM cA ad ta σ) H → va_D A (wM cA ad ta σ) → va_S A s.heap H locs → lv_has ls 8 [(0, .ref (ad 0)), (1, .int x1), (3, .int x3), (4, .int x4), (5, .int x5), (6, .int x6), (7, .int x7)] → W p l e (rm_X9_putBack) s m args below meth c H locs 0 0 (MQ below (QV D cA A (wM cA ad) σ' ta) args s 0 0 A) (F0 m 52 ls []) := by
  obtain ⟨hx, hb, hr, hml, hown, hlk, hE, hK, hA⟩ := id X
  intro n
  induction n with
  | zero =>
    intro x1 x3 x4 x5 x6 x7 σ H locs ls hf
    cases (show (none : Rs) = some _ from hf)
  | succ n ih =>
    intro x1 x3 x4 x5 x6 x7 σ H locs ls hf hP hD hS hl
    rw [F_X9_putBack_52] at hf
    refine lv_iload hx hb dX9_putBack_52 (lv_at hl 6 rfl) ?_
    refine lv_iload_n hx hb dX9_putBack_54 rfl (lv_at hl 2 rfl) ?_
    refine lv_icmp_le (tgt := 86) hx hb dX9_putBack_55 (by decide) (fun c1 => ?_) (fun c1 => ?_)
    · have hf := it_t c1 hf
      exact t_X9_putBack_86 X K20 hf hP hD hS (lv_sub hl [0, 1, 2, 3, 4, 5] rfl)
    · have hf := it_f c1 hf
      refine lv_aload_n hx hb dX9_putBack_58 rfl (lv_at hl 0 rfl) ?_
      refine gM_Mod_open X hP kw701 dX9_putBack_59 ?_
      refine lv_iload hx hb dX9_putBack_62 (lv_at hl 5 rfl) ?_
      refine lv_iload hx hb dX9_putBack_64 (lv_at hl 6 rfl) ?_
      refine lv_iadd hx hb dX9_putBack_66 ?_
      refine lv_aload_n hx hb dX9_putBack_67 rfl (lv_at hl 0 rfl) ?_
      refine gM_Mod_open X hP kw701 dX9_putBack_68 ?_
      refine lv_iload hx hb dX9_putBack_71 (lv_at hl 5 rfl) ?_
      refine lv_iload hx hb dX9_putBack_73 (lv_at hl 6 rfl) ?_
      refine lv_iadd hx hb dX9_putBack_75 ?_
      refine lv_iconst (v := 1) hx hb dX9_putBack_76 (by decide) ?_
      refine lv_isub hx hb dX9_putBack_77 ?_
      obtain ⟨b2, hf⟩ := ck_e hf
      refine lM_open X hP b2 dX9_putBack_78 ?_
      refine lv_topi (fun y3 ey3 => ?_)
      have hf := bd_x ey3 hf
      obtain ⟨b4, hf⟩ := ck_e hf
      refine sM_open X hP hD hS b4 dX9_putBack_79 (fun H locs hP hD hS => ?_)
      obtain ⟨s5, es5, hf⟩ := bd_e hf
      rw [← es5] at hP hD
      refine lv_iinc (v := (x7 + (-1))) (lv' := [(7, .int (x7 + (-1))), (0, .ref (ad 0)), (1, .int x1), (3, .int x3), (4, .int x4), (5, .int x5), (6, .int x6)]) hx hb dX9_putBack_80 hl (k := 6) rfl rfl (by decide) rfl (fun ls hl => ?_)
      refine lv_goto (tgt := 52) hx hb dX9_putBack_83 (by decide) ?_
      exact ih x1 x3 x4 x5 x6 (x7 + (-1)) s5 _ _ _ hf hP hD hS (lv_sub hl [1, 2, 3, 4, 5, 6, 0] rfl)
set_option maxHeartbeats 4000000 in
set_option maxRecDepth 100000 in
theorem t_X9_putBack_94 {k20 : Int32 → Int32 → Int32 → Int32 → St → Rs} (X : Fx p s m meth c D cA A RX9 cX9_putBack 8 none) (K20 : ∀ (x1 x3 x4 x5 : Int32) (σ : St) (H : Heap) (locs : List Loc) (ls : Array Slot), k20 x1 x3 x4 x5 σ = some (r, σ') → va_P D vwCl (wM cA ad ta σ) H → va_D A (wM cA ad ta σ) → va_S A s.heap H locs → lv_has ls 8 [(0, .ref (ad 0)), (1, .int x1), (3, .int x3), (4, .int x4), (5, .int x5)] → W p l e (rm_X9_putBack) s m args below meth c H locs 0 0 (MQ below (QV D cA A (wM cA ad) σ' ta) args s 0 0 A) (F0 m 20 ls [])) : ∀ (n : Nat) (x1 x3 x4 x5 x6 x7 : Int32) (σ : St) (H : Heap) (locs : List Loc) (ls : Array Slot), F_X9_putBack_94 k20 n x1 x3 x4 x5 x6 x7 σ = some (r, σ') → va_P D vwCl (wM cA ad ta σ) H → va_D A (wM cA ad ta σ) → va_S A s.heap H locs → lv_has ls 8 [(0, .ref (ad 0)), (1, .int x1), (3, .int x3), (4, .int x4), (5, .int x5), (6, .int x6), (7, .int x7)] → W p l e (rm_X9_putBack) s m args below meth c H locs 0 0 (MQ below (QV D cA A (wM cA ad) σ' ta) args s 0 0 A) (F0 m 94 ls []) := by
  obtain ⟨hx, hb, hr, hml, hown, hlk, hE, hK, hA⟩ := id X
  intro n
  induction n with
  | zero =>
    intro x1 x3 x4 x5 x6 x7 σ H locs ls hf
    cases (show (none : Rs) = some _ from hf)
  | succ n ih =>
    intro x1 x3 x4 x5 x6 x7 σ H locs ls hf hP hD hS hl
    rw [F_X9_putBack_94] at hf
    refine lv_iload hx hb dX9_putBack_94 (lv_at hl 6 rfl) ?_
    refine lv_aload_n hx hb dX9_putBack_96 rfl (lv_at hl 0 rfl) ?_
    refine gM_Mod_opens X hP kw702 dX9_putBack_97 ?_
    refine lv_icmp_ge (tgt := 134) hx hb dX9_putBack_100 (by decide) (fun c1 => ?_) (fun c1 => ?_)
    · have hf := it_t c1 hf
      exact t_X9_putBack_134 X K20 hf hP hD hS (lv_sub hl [0, 1, 2, 3, 4, 5] rfl)
    · have hf := it_f c1 hf
      refine lv_aload_n hx hb dX9_putBack_103 rfl (lv_at hl 0 rfl) ?_
      refine gM_Mod_open X hP kw701 dX9_putBack_104 ?_
      refine lv_iload hx hb dX9_putBack_107 (lv_at hl 5 rfl) ?_
      refine lv_iload hx hb dX9_putBack_109 (lv_at hl 6 rfl) ?_
      refine lv_iadd hx hb dX9_putBack_111 ?_
      refine lv_aload_n hx hb dX9_putBack_112 rfl (lv_at hl 0 rfl) ?_
      refine gM_Mod_open X hP kw701 dX9_putBack_113 ?_
      refine lv_iload hx hb dX9_putBack_116 (lv_at hl 5 rfl) ?_
      refine lv_iload hx hb dX9_putBack_118 (lv_at hl 6 rfl) ?_
      refine lv_iadd hx hb dX9_putBack_120 ?_
      refine lv_iload hx hb dX9_putBack_121 (lv_at hl 3 rfl) ?_
      refine lv_iadd hx hb dX9_putBack_123 ?_
      refine lv_iconst (v := 1) hx hb dX9_putBack_124 (by decide) ?_
      refine lv_isub hx hb dX9_putBack_125 ?_
      obtain ⟨b2, hf⟩ := ck_e hf
      refine lM_open X hP b2 dX9_putBack_126 ?_
      refine lv_topi (fun y3 ey3 => ?_)
      have hf := bd_x ey3 hf
      obtain ⟨b4, hf⟩ := ck_e hf
      refine sM_open X hP hD hS b4 dX9_putBack_127 (fun H locs hP hD hS => ?_)
      obtain ⟨s5, es5, hf⟩ := bd_e hf
      rw [← es5] at hP hD
      refine lv_iinc (v := (x7 + 1)) (lv' := [(7, .int (x7 + 1)), (0, .ref (ad 0)), (1, .int x1), (3, .int x3), (4, .int x4), (5, .int x5), (6, .int x6)]) hx hb dX9_putBack_128 hl (k := 6) rfl rfl (by decide) rfl (fun ls hl => ?_)
      refine lv_goto (tgt := 94) hx hb dX9_putBack_131 (by decide) ?_
      exact ih x1 x3 x4 x5 x6 (x7 + 1) s5 _ _ _ hf hP hD hS (lv_sub hl [1, 2, 3, 4, 5, 6, 0] rfl)
set_option maxHeartbeats 4000000 in
set_option maxRecDepth 100000 in
theorem t_X9_putBack_20  (X : Fx p s m meth c D cA A RX9 cX9_putBack 8 none)  : ∀ (n : Nat) (x1 x3 x4 x5 : Int32) (σ : St) (H : Heap) (locs : List Loc) (ls : Array Slot), F_X9_putBack_20 n x1 x3 x4 x5 σ = some (r, σ') → va_P D vwCl (wM cA ad ta σ) H → va_D A (wM cA ad ta σ) → va_S A s.heap H locs → lv_has ls 8 [(0, .ref (ad 0)), (1, .int x1), (3, .int x3), (4, .int x4), (5, .int x5)] → W p l e (rm_X9_putBack) s m args below meth c H locs 0 0 (MQ below (QV D cA A (wM cA ad) σ' ta) args s 0 0 A) (F0 m 20 ls []) := by
  obtain ⟨hx, hb, hr, hml, hown, hlk, hE, hK, hA⟩ := id X
  intro n
  induction n with
  | zero =>
    intro x1 x3 x4 x5 σ H locs ls hf
    cases (show (none : Rs) = some _ from hf)
  | succ n ih =>
    intro x1 x3 x4 x5 σ H locs ls hf hP hD hS hl
    rw [F_X9_putBack_20] at hf
    refine lv_iload hx hb dX9_putBack_20 (lv_at hl 4 rfl) ?_
    refine lv_iload_n hx hb dX9_putBack_22 rfl (lv_at hl 1 rfl) ?_
    refine lv_icmp_lt (tgt := 168) hx hb dX9_putBack_23 (by decide) (fun c1 => ?_) (fun c1 => ?_)
    · have hf := it_t c1 hf
      obtain ⟨rfl, rfl⟩ := Prod.mk.inj (Option.some.inj hf)
      exact ret_v X hP hD hS dX9_putBack_168
    · have hf := it_f c1 hf
      refine lv_sipush (v := 170) hx hb dX9_putBack_26 (by decide) ?_
      refine lv_aload_n hx hb dX9_putBack_29 rfl (lv_at hl 0 rfl) ?_
      refine gM_Mod_set X hP kw703 dX9_putBack_30 ?_
      refine lv_iload hx hb dX9_putBack_33 (lv_at hl 4 rfl) ?_
      obtain ⟨b2, hf⟩ := ck_e hf
      refine lM_set X hP b2 dX9_putBack_35 ?_
      refine lv_topi (fun y3 ey3 => ?_)
      have hf := bd_x ey3 hf
      refine lv_imul hx hb dX9_putBack_36 ?_
      refine lv_topi (fun y4 ey4 => ?_)
      have hf := bd_x ey4 hf
      refine lv_istore (lv' := [(6, .int y4), (0, .ref (ad 0)), (1, .int x1), (3, .int x3), (4, .int x4), (5, .int x5)]) hx hb dX9_putBack_37 hl (by decide) rfl (fun ls hl => ?_)
      refine lv_iload hx hb dX9_putBack_39 (lv_at hl 4 rfl) ?_
      refine lv_if_ne (tgt := 89) hx hb dX9_putBack_41 (by decide) (fun c5 => ?_) (fun c5 => ?_)
      · have hf := it_f c5 hf
        refine lv_iload_n hx hb dX9_putBack_89 rfl (lv_at hl 3 rfl) ?_
        refine lv_iconst (v := 1) hx hb dX9_putBack_90 (by decide) ?_
        refine lv_iadd hx hb dX9_putBack_91 ?_
        refine lv_topi (fun y6 ey6 => ?_)
        have hf := bd_x ey6 hf
        refine lv_istore (lv' := [(7, .int y6), (6, .int y4), (0, .ref (ad 0)), (1, .int x1), (3, .int x3), (4, .int x4), (5, .int x5)]) hx hb dX9_putBack_92 hl (by decide) rfl (fun ls hl => ?_)
        exact t_X9_putBack_94 X ih 5000 x1 x3 x4 x5 y4 y6 σ _ _ _ hf hP hD hS (lv_sub hl [2, 3, 4, 5, 6, 1, 0] rfl)
      · have hf := it_t c5 hf
        refine lv_aload_n hx hb dX9_putBack_44 rfl (lv_at hl 1 rfl) ?_
        refine gM_Mod_opens X hP kw702 dX9_putBack_45 ?_
        refine lv_iconst (v := 1) hx hb dX9_putBack_48 (by decide) ?_
        refine lv_isub hx hb dX9_putBack_49 ?_
        refine lv_topi (fun y7 ey7 => ?_)
        have hf := bd_x ey7 hf
        refine lv_istore (lv' := [(7, .int y7), (6, .int y4), (0, .ref (ad 0)), (1, .int x1), (3, .int x3), (4, .int x4), (5, .int x5)]) hx hb dX9_putBack_50 hl (by decide) rfl (fun ls hl => ?_)
        exact t_X9_putBack_52 X ih 5000 x1 x3 x4 x5 y4 y7 σ _ _ _ hf hP hD hS (lv_sub hl [2, 3, 4, 5, 6, 1, 0] rfl)
set_option maxHeartbeats 4000000 in
set_option maxRecDepth 100000 in
theorem t_X9_putBack_0  (X : Fx p s m meth c D cA A RX9 cX9_putBack 8 none)  {x1 x2 x3 x4 : Int32} { σ : St} {H : Heap} {locs : List Loc} {ls : Array Slot} (hf : F_X9_putBack x1 x2 x3 x4 σ = some (r, σ')) (hP : va_P D vwCl (wM cA ad ta σ) H) (hD : va_D A (wM cA ad ta σ)) (hS : va_S A s.heap H locs) (hl : lv_has ls 8 [(0, .ref (ad 0)), (1, .int x1), (2, .int x2), (3, .int x3), (4, .int x4)]) : W p l e (rm_X9_putBack) s m args below meth c H locs 0 0 (MQ below (QV D cA A (wM cA ad) σ' ta) args s 0 0 A) (F0 m 0 ls []) := by
  obtain ⟨hx, hb, hr, hml, hown, hlk, hE, hK, hA⟩ := id X
  rw [F_X9_putBack] at hf
  refine lv_aload_n hx hb dX9_putBack_0 rfl (lv_at hl 0 rfl) ?_
  refine lv_dup hx hb dX9_putBack_1 rfl ?_
  refine gM_Mod_opens X hP kw702 dX9_putBack_2 ?_
  refine lv_iload hx hb dX9_putBack_5 (lv_at hl 4 rfl) ?_
  refine lv_iconst (v := 1) hx hb dX9_putBack_7 (by decide) ?_
  refine lv_isub hx hb dX9_putBack_8 ?_
  refine lv_isub hx hb dX9_putBack_9 ?_
  refine pM_Mod_opens X hP hD hS kw702 dX9_putBack_10 (fun H locs hP hD hS => ?_)
  obtain ⟨s1, es1, hf⟩ := bd_e hf
  rw [← es1] at hP hD
  refine lv_iload_n hx hb dX9_putBack_13 rfl (lv_at hl 1 rfl) ?_
  refine lv_iload_n hx hb dX9_putBack_14 rfl (lv_at hl 2 rfl) ?_
  refine lv_iadd hx hb dX9_putBack_15 ?_
  refine lv_iconst (v := 1) hx hb dX9_putBack_16 (by decide) ?_
  refine lv_isub hx hb dX9_putBack_17 ?_
  refine lv_topi (fun y2 ey2 => ?_)
  have hf := bd_x ey2 hf
  refine lv_istore (lv' := [(5, .int y2), (0, .ref (ad 0)), (1, .int x1), (2, .int x2), (3, .int x3), (4, .int x4)]) hx hb dX9_putBack_18 hl (by decide) rfl (fun ls hl => ?_)
  exact t_X9_putBack_20 X  5000 x1 x3 x4 y2 s1 _ _ _ hf hP hD hS (lv_sub hl [1, 2, 4, 5, 0] rfl)
end S_X9_putBack
theorem c_X9_putBack (l : Launch) (D : va_G) (cA : ClassId) (A : Nat → Prop) (ad : Nat → Nat) (ta : Nat) (σ : St) (x1 x2 x3 x4 : Int32) (r : Int32) (σ' : St) (hf : F_X9_putBack x1 x2 x3 x4 σ = some (r, σ')) : MV l D cA A (wM cA ad) yX9_putBack cX9_putBack 8 none rm_X9_putBack [.ref (ad 0), .int x1, .int x2, .int x3, .int x4] ta σ σ' 0 0 := by
  refine enter (by decide) (Nat.le_of_ble_eq_true rfl) ?_
  intro p e s m below meth c ls X hnm hP hD hS hl
  exact t_X9_putBack_0 X hf hP hD hS hl
abbrev rm_X9_needed : Room := { frames := 1, cells := 0, slots := 0, locals := 22 }
def F_X9_needed_88 (x3 : Int32) (σ : St) : Rs :=
  if x3 = (-1) then (some ((-1), σ)) else (some ((170 + x3), σ))
def F_X9_needed_51 (k20 : Int32 → Int32 → Int32 → Int32 → Int32 → Int32 → St → Rs) (k5 : Int32 → Int32 → Int32 → Int32 → St → Rs) (x1 : Int32) (x2 : Int32) (x3 : Int32) (x4 : Int32) (x6 : Int32) (z0 : Int32) (z1 : Int32) (σ : St) : Rs :=
  bd (z1 + z0) (fun y1 => k20 x1 x2 x3 x4 y1 (x6 + 1) σ)
def F_X9_needed_82 (k5 : Int32 → Int32 → Int32 → Int32 → St → Rs) (x1 : Int32) (x2 : Int32) (x3 : Int32) (x4 : Int32) (σ : St) : Rs :=
  k5 x1 x2 x3 (x4 + 1) σ
def F_X9_needed_60 (k5 : Int32 → Int32 → Int32 → Int32 → St → Rs) (x1 : Int32) (x2 : Int32) (x3 : Int32) (x4 : Int32) (x5 : Int32) (σ : St) : Rs :=
  if x5 = x2 then (some (x4, σ)) else (if x5 ≤ 0 then (F_X9_needed_82 k5 x1 x2 x3 x4 σ) else (if x3 = (-1) then (F_X9_needed_82 k5 x1 x2 x4 x4 σ) else (F_X9_needed_82 k5 x1 x2 x3 x4 σ)))
def F_X9_needed_20 (k5 : Int32 → Int32 → Int32 → Int32 → St → Rs) : Nat → Int32 → Int32 → Int32 → Int32 → Int32 → Int32 → St → Rs
  | 0, _, _, _, _, _, _, _ => none
  | n + 1, x1, x2, x3, x4, x5, x6, σ => if (x1 + x2) ≤ x6 then (F_X9_needed_60 k5 x1 x2 x3 x4 x5 σ) else (ck (inb x6 4800) (bd (gA σ 17 x6.toNatClampNeg) (fun y3 => bo (F_X9_there y3 x4 σ) (fun r4 s5 => if r4 < 0 then (F_X9_needed_51 (F_X9_needed_20 k5 n) k5 x1 x2 x3 x4 x6 0 x5 s5) else (F_X9_needed_51 (F_X9_needed_20 k5 n) k5 x1 x2 x3 x4 x6 1 x5 s5)))))
def F_X9_needed_5  : Nat → Int32 → Int32 → Int32 → Int32 → St → Rs
  | 0, _, _, _, _, _ => none
  | n + 1, x1, x2, x3, x4, σ => if (gF σ 7) ≤ x4 then (F_X9_needed_88 x3 σ) else (F_X9_needed_20 (F_X9_needed_5 n) 5000 x1 x2 x3 x4 0 x1 σ)
def F_X9_needed (x1 : Int32) (x2 : Int32) (σ : St) : Rs :=
  F_X9_needed_5 5000 x1 x2 (-1) 0 σ
section S_X9_needed
variable {p : Program} {l : Launch} {e : Env} {s : State} {m : MethodId} {args : Array Value} {below : List Frame} {meth : Method} {c : Code}
variable {D : va_G} {cA : ClassId} {A : Nat → Prop} {ad : Nat → Nat} {r : Int32} {σ' : St} {ta : Nat}
set_option maxHeartbeats 4000000 in
set_option maxRecDepth 100000 in
theorem t_X9_needed_88  (X : Fx p s m meth c D cA A RX9 cX9_needed 7 (some .int))  {x3 : Int32} { σ : St} {H : Heap} {locs : List Loc} {ls : Array Slot} (hf : F_X9_needed_88 x3 σ = some (r, σ')) (hP : va_P D vwCl (wM cA ad ta σ) H) (hD : va_D A (wM cA ad ta σ)) (hS : va_S A s.heap H locs) (hl : lv_has ls 7 [(3, .int x3)]) : W p l e (rm_X9_needed) s m args below meth c H locs 0 0 (MQ below (QI D cA A (wM cA ad) r σ' ta) args s 0 0 A) (F0 m 88 ls []) := by
  obtain ⟨hx, hb, hr, hml, hown, hlk, hE, hK, hA⟩ := id X
  rw [F_X9_needed_88] at hf
  refine lv_iload_n hx hb dX9_needed_88 rfl (lv_at hl 0 rfl) ?_
  refine lv_iconst (v := -1) hx hb dX9_needed_89 (by decide) ?_
  refine lv_icmp_ne (tgt := 97) hx hb dX9_needed_90 (by decide) (fun c1 => ?_) (fun c1 => ?_)
  · have hf := it_f c1 hf
    refine lv_sipush (v := 170) hx hb dX9_needed_97 (by decide) ?_
    refine lv_iload_n hx hb dX9_needed_100 rfl (lv_at hl 0 rfl) ?_
    refine lv_iadd hx hb dX9_needed_101 ?_
    obtain ⟨rfl, rfl⟩ := Prod.mk.inj (Option.some.inj hf)
    exact ret_i X hP hD hS dX9_needed_102
  · have hf := it_t c1 hf
    refine lv_iconst (v := -1) hx hb dX9_needed_93 (by decide) ?_
    refine lv_goto (tgt := 102) hx hb dX9_needed_94 (by decide) ?_
    obtain ⟨rfl, rfl⟩ := Prod.mk.inj (Option.some.inj hf)
    exact ret_i X hP hD hS dX9_needed_102
set_option maxHeartbeats 4000000 in
set_option maxRecDepth 100000 in
theorem t_X9_needed_51 {k20 : Int32 → Int32 → Int32 → Int32 → Int32 → Int32 → St → Rs} {k5 : Int32 → Int32 → Int32 → Int32 → St → Rs} (X : Fx p s m meth c D cA A RX9 cX9_needed 7 (some .int)) (K20 : ∀ (x1 x2 x3 x4 x5 x6 : Int32) (σ : St) (H : Heap) (locs : List Loc) (ls : Array Slot), k20 x1 x2 x3 x4 x5 x6 σ = some (r, σ') → va_P D vwCl (wM cA ad ta σ) H → va_D A (wM cA ad ta σ) → va_S A s.heap H locs → lv_has ls 7 [(0, .ref (ad 0)), (1, .int x1), (2, .int x2), (3, .int x3), (4, .int x4), (5, .int x5), (6, .int x6)] → W p l e (rm_X9_needed) s m args below meth c H locs 0 0 (MQ below (QI D cA A (wM cA ad) r σ' ta) args s 0 0 A) (F0 m 20 ls [])) (K5 : ∀ (x1 x2 x3 x4 : Int32) (σ : St) (H : Heap) (locs : List Loc) (ls : Array Slot), k5 x1 x2 x3 x4 σ = some (r, σ') → va_P D vwCl (wM cA ad ta σ) H → va_D A (wM cA ad ta σ) → va_S A s.heap H locs → lv_has ls 7 [(0, .ref (ad 0)), (1, .int x1), (2, .int x2), (3, .int x3), (4, .int x4)] → W p l e (rm_X9_needed) s m args below meth c H locs 0 0 (MQ below (QI D cA A (wM cA ad) r σ' ta) args s 0 0 A) (F0 m 5 ls [])) {x1 x2 x3 x4 x6 z0 z1 : Int32} { σ : St} {H : Heap} {locs : List Loc} {ls : Array Slot} (hf : F_X9_needed_51 k20 k5 x1 x2 x3 x4 x6 z0 z1 σ = some (r, σ')) (hP : va_P D vwCl (wM cA ad ta σ) H) (hD : va_D A (wM cA ad ta σ)) (hS : va_S A s.heap H locs) (hl : lv_has ls 7 [(0, .ref (ad 0)), (1, .int x1), (2, .int x2), (3, .int x3), (4, .int x4), (6, .int x6)]) : W p l e (rm_X9_needed) s m args below meth c H locs 0 0 (MQ below (QI D cA A (wM cA ad) r σ' ta) args s 0 0 A) (F0 m 51 ls [.int z0, .int z1]) := by
  obtain ⟨hx, hb, hr, hml, hown, hlk, hE, hK, hA⟩ := id X
  rw [F_X9_needed_51] at hf
  refine lv_iadd hx hb dX9_needed_51 ?_
  refine lv_topi (fun y1 ey1 => ?_)
  have hf := bd_x ey1 hf
  refine lv_istore (lv' := [(5, .int y1), (0, .ref (ad 0)), (1, .int x1), (2, .int x2), (3, .int x3), (4, .int x4), (6, .int x6)]) hx hb dX9_needed_52 hl (by decide) rfl (fun ls hl => ?_)
  refine lv_iinc (v := (x6 + 1)) (lv' := [(6, .int (x6 + 1)), (5, .int y1), (0, .ref (ad 0)), (1, .int x1), (2, .int x2), (3, .int x3), (4, .int x4)]) hx hb dX9_needed_54 hl (k := 6) rfl rfl (by decide) rfl (fun ls hl => ?_)
  refine lv_goto (tgt := 20) hx hb dX9_needed_57 (by decide) ?_
  exact K20 x1 x2 x3 x4 y1 (x6 + 1) σ _ _ _ hf hP hD hS (lv_sub hl [2, 3, 4, 5, 6, 1, 0] rfl)
set_option maxHeartbeats 4000000 in
set_option maxRecDepth 100000 in
theorem t_X9_needed_82 {k5 : Int32 → Int32 → Int32 → Int32 → St → Rs} (X : Fx p s m meth c D cA A RX9 cX9_needed 7 (some .int)) (K5 : ∀ (x1 x2 x3 x4 : Int32) (σ : St) (H : Heap) (locs : List Loc) (ls : Array Slot), k5 x1 x2 x3 x4 σ = some (r, σ') → va_P D vwCl (wM cA ad ta σ) H → va_D A (wM cA ad ta σ) → va_S A s.heap H locs → lv_has ls 7 [(0, .ref (ad 0)), (1, .int x1), (2, .int x2), (3, .int x3), (4, .int x4)] → W p l e (rm_X9_needed) s m args below meth c H locs 0 0 (MQ below (QI D cA A (wM cA ad) r σ' ta) args s 0 0 A) (F0 m 5 ls [])) {x1 x2 x3 x4 : Int32} { σ : St} {H : Heap} {locs : List Loc} {ls : Array Slot} (hf : F_X9_needed_82 k5 x1 x2 x3 x4 σ = some (r, σ')) (hP : va_P D vwCl (wM cA ad ta σ) H) (hD : va_D A (wM cA ad ta σ)) (hS : va_S A s.heap H locs) (hl : lv_has ls 7 [(0, .ref (ad 0)), (1, .int x1), (2, .int x2), (3, .int x3), (4, .int x4)]) : W p l e (rm_X9_needed) s m args below meth c H locs 0 0 (MQ below (QI D cA A (wM cA ad) r σ' ta) args s 0 0 A) (F0 m 82 ls []) := by
  obtain ⟨hx, hb, hr, hml, hown, hlk, hE, hK, hA⟩ := id X
  rw [F_X9_needed_82] at hf
  refine lv_iinc (v := (x4 + 1)) (lv' := [(4, .int (x4 + 1)), (0, .ref (ad 0)), (1, .int x1), (2, .int x2), (3, .int x3)]) hx hb dX9_needed_82 hl (k := 4) rfl rfl (by decide) rfl (fun ls hl => ?_)
  refine lv_goto (tgt := 5) hx hb dX9_needed_85 (by decide) ?_
  exact K5 x1 x2 x3 (x4 + 1) σ _ _ _ hf hP hD hS (lv_sub hl [1, 2, 3, 4, 0] rfl)
set_option maxHeartbeats 4000000 in
set_option maxRecDepth 100000 in
theorem t_X9_needed_60 {k5 : Int32 → Int32 → Int32 → Int32 → St → Rs} (X : Fx p s m meth c D cA A RX9 cX9_needed 7 (some .int)) (K5 : ∀ (x1 x2 x3 x4 : Int32) (σ : St) (H : Heap) (locs : List Loc) (ls : Array Slot), k5 x1 x2 x3 x4 σ = some (r, σ') → va_P D vwCl (wM cA ad ta σ) H → va_D A (wM cA ad ta σ) → va_S A s.heap H locs → lv_has ls 7 [(0, .ref (ad 0)), (1, .int x1), (2, .int x2), (3, .int x3), (4, .int x4)] → W p l e (rm_X9_needed) s m args below meth c H locs 0 0 (MQ below (QI D cA A (wM cA ad) r σ' ta) args s 0 0 A) (F0 m 5 ls [])) {x1 x2 x3 x4 x5 : Int32} { σ : St} {H : Heap} {locs : List Loc} {ls : Array Slot} (hf : F_X9_needed_60 k5 x1 x2 x3 x4 x5 σ = some (r, σ')) (hP : va_P D vwCl (wM cA ad ta σ) H) (hD : va_D A (wM cA ad ta σ)) (hS : va_S A s.heap H locs) (hl : lv_has ls 7 [(0, .ref (ad 0)), (1, .int x1), (2, .int x2), (3, .int x3), (4, .int x4), (5, .int x5)]) : W p l e (rm_X9_needed) s m args below meth c H locs 0 0 (MQ below (QI D cA A (wM cA ad) r σ' ta) args s 0 0 A) (F0 m 60 ls []) := by
  obtain ⟨hx, hb, hr, hml, hown, hlk, hE, hK, hA⟩ := id X
  rw [F_X9_needed_60] at hf
  refine lv_iload hx hb dX9_needed_60 (lv_at hl 5 rfl) ?_
  refine lv_iload_n hx hb dX9_needed_62 rfl (lv_at hl 2 rfl) ?_
  refine lv_icmp_ne (tgt := 69) hx hb dX9_needed_63 (by decide) (fun c1 => ?_) (fun c1 => ?_)
  · have hf := it_f c1 hf
    refine lv_iload hx hb dX9_needed_69 (lv_at hl 5 rfl) ?_
    refine lv_if_le (tgt := 82) hx hb dX9_needed_71 (by decide) (fun c2 => ?_) (fun c2 => ?_)
    · have hf := it_t c2 hf
      exact t_X9_needed_82 X K5 hf hP hD hS (lv_sub hl [0, 1, 2, 3, 4] rfl)
    · have hf := it_f c2 hf
      refine lv_iload_n hx hb dX9_needed_74 rfl (lv_at hl 3 rfl) ?_
      refine lv_iconst (v := -1) hx hb dX9_needed_75 (by decide) ?_
      refine lv_icmp_ne (tgt := 82) hx hb dX9_needed_76 (by decide) (fun c3 => ?_) (fun c3 => ?_)
      · have hf := it_f c3 hf
        exact t_X9_needed_82 X K5 hf hP hD hS (lv_sub hl [0, 1, 2, 3, 4] rfl)
      · have hf := it_t c3 hf
        refine lv_iload hx hb dX9_needed_79 (lv_at hl 4 rfl) ?_
        refine lv_istore_n (lv' := [(3, .int x4), (0, .ref (ad 0)), (1, .int x1), (2, .int x2), (4, .int x4), (5, .int x5)]) hx hb dX9_needed_81 rfl hl (by decide) rfl (fun ls hl => ?_)
        exact t_X9_needed_82 X K5 hf hP hD hS (lv_sub hl [1, 2, 3, 0, 4] rfl)
  · have hf := it_t c1 hf
    refine lv_iload hx hb dX9_needed_66 (lv_at hl 4 rfl) ?_
    obtain ⟨rfl, rfl⟩ := Prod.mk.inj (Option.some.inj hf)
    exact ret_i X hP hD hS dX9_needed_68
set_option maxHeartbeats 4000000 in
set_option maxRecDepth 100000 in
theorem t_X9_needed_20 {k5 : Int32 → Int32 → Int32 → Int32 → St → Rs} (X : Fx p s m meth c D cA A RX9 cX9_needed 7 (some .int)) (K5 : ∀ (x1 x2 x3 x4 : Int32) (σ : St) (H : Heap) (locs : List Loc) (ls : Array Slot), k5 x1 x2 x3 x4 σ = some (r, σ') → va_P D vwCl (wM cA ad ta σ) H → va_D A (wM cA ad ta σ) → va_S A s.heap H locs → lv_has ls 7 [(0, .ref (ad 0)), (1, .int x1), (2, .int x2), (3, .int x3), (4, .int x4)] → W p l e (rm_X9_needed) s m args below meth c H locs 0 0 (MQ below (QI D cA A (wM cA ad) r σ' ta) args s 0 0 A) (F0 m 5 ls [])) : ∀ (n : Nat) (x1 x2 x3 x4 x5 x6 : Int32) (σ : St) (H : Heap) (locs : List Loc) (ls : Array Slot), F_X9_needed_20 k5 n x1 x2 x3 x4 x5 x6 σ = some (r, σ') → va_P D vwCl (wM cA ad ta σ) H → va_D A (wM cA ad ta σ) → va_S A s.heap H locs → lv_has ls 7 [(0, .ref (ad 0)), (1, .int x1), (2, .int x2), (3, .int x3), (4, .int x4), (5, .int x5), (6, .int x6)] → W p l e (rm_X9_needed) s m args below meth c H locs 0 0 (MQ below (QI D cA A (wM cA ad) r σ' ta) args s 0 0 A) (F0 m 20 ls []) := by
  obtain ⟨hx, hb, hr, hml, hown, hlk, hE, hK, hA⟩ := id X
  intro n
  induction n with
  | zero =>
    intro x1 x2 x3 x4 x5 x6 σ H locs ls hf
    cases (show (none : Rs) = some _ from hf)
  | succ n ih =>
    intro x1 x2 x3 x4 x5 x6 σ H locs ls hf hP hD hS hl
    rw [F_X9_needed_20] at hf
    refine lv_iload hx hb dX9_needed_20 (lv_at hl 6 rfl) ?_
    refine lv_iload_n hx hb dX9_needed_22 rfl (lv_at hl 1 rfl) ?_
    refine lv_iload_n hx hb dX9_needed_23 rfl (lv_at hl 2 rfl) ?_
    refine lv_iadd hx hb dX9_needed_24 ?_
    refine lv_icmp_ge (tgt := 60) hx hb dX9_needed_25 (by decide) (fun c1 => ?_) (fun c1 => ?_)
    · have hf := it_t c1 hf
      exact t_X9_needed_60 X K5 hf hP hD hS (lv_sub hl [0, 1, 2, 3, 4, 5] rfl)
    · have hf := it_f c1 hf
      refine lv_iload hx hb dX9_needed_28 (lv_at hl 5 rfl) ?_
      refine lv_aload_n hx hb dX9_needed_30 rfl (lv_at hl 0 rfl) ?_
      refine lv_aload_n hx hb dX9_needed_31 rfl (lv_at hl 0 rfl) ?_
      refine gM_Mod_set X hP kw703 dX9_needed_32 ?_
      refine lv_iload hx hb dX9_needed_35 (lv_at hl 6 rfl) ?_
      obtain ⟨b2, hf⟩ := ck_e hf
      refine lM_set X hP b2 dX9_needed_37 ?_
      refine lv_topi (fun y3 ey3 => ?_)
      have hf := bd_x ey3 hf
      refine lv_iload hx hb dX9_needed_38 (lv_at hl 4 rfl) ?_
      obtain ⟨r4, s5, h6, hf⟩ := bo_e hf
      refine callV_i X cv_X9_there kw891 (c_X9_there l D cA A ad ta σ y3 x4 r4 s5 h6) ⟨by decide, by decide⟩ ⟨rfl, rfl⟩ hP hD hS (q0 := 0) (ci := 9) rfl rfl rfl rfl hl rfl (Nat.le_of_ble_eq_true rfl) dX9_needed_40 ⟨by decide, by decide⟩ (fun H locs hP hD hS => ?_)
      refine lv_if_lt (tgt := 50) hx hb dX9_needed_43 (by decide) (fun c7 => ?_) (fun c7 => ?_)
      · have hf := it_t c7 hf
        refine lv_iconst (v := 0) hx hb dX9_needed_50 (by decide) ?_
        exact t_X9_needed_51 X ih K5 hf hP hD hS (lv_sub hl [0, 1, 2, 3, 4, 6] rfl)
      · have hf := it_f c7 hf
        refine lv_iconst (v := 1) hx hb dX9_needed_46 (by decide) ?_
        refine lv_goto (tgt := 51) hx hb dX9_needed_47 (by decide) ?_
        exact t_X9_needed_51 X ih K5 hf hP hD hS (lv_sub hl [0, 1, 2, 3, 4, 6] rfl)
set_option maxHeartbeats 4000000 in
set_option maxRecDepth 100000 in
theorem t_X9_needed_5  (X : Fx p s m meth c D cA A RX9 cX9_needed 7 (some .int))  : ∀ (n : Nat) (x1 x2 x3 x4 : Int32) (σ : St) (H : Heap) (locs : List Loc) (ls : Array Slot), F_X9_needed_5 n x1 x2 x3 x4 σ = some (r, σ') → va_P D vwCl (wM cA ad ta σ) H → va_D A (wM cA ad ta σ) → va_S A s.heap H locs → lv_has ls 7 [(0, .ref (ad 0)), (1, .int x1), (2, .int x2), (3, .int x3), (4, .int x4)] → W p l e (rm_X9_needed) s m args below meth c H locs 0 0 (MQ below (QI D cA A (wM cA ad) r σ' ta) args s 0 0 A) (F0 m 5 ls []) := by
  obtain ⟨hx, hb, hr, hml, hown, hlk, hE, hK, hA⟩ := id X
  intro n
  induction n with
  | zero =>
    intro x1 x2 x3 x4 σ H locs ls hf
    cases (show (none : Rs) = some _ from hf)
  | succ n ih =>
    intro x1 x2 x3 x4 σ H locs ls hf hP hD hS hl
    rw [F_X9_needed_5] at hf
    refine lv_iload hx hb dX9_needed_5 (lv_at hl 4 rfl) ?_
    refine lv_aload_n hx hb dX9_needed_7 rfl (lv_at hl 0 rfl) ?_
    refine gM_Mod_opens X hP kw702 dX9_needed_8 ?_
    refine lv_icmp_ge (tgt := 88) hx hb dX9_needed_11 (by decide) (fun c1 => ?_) (fun c1 => ?_)
    · have hf := it_t c1 hf
      exact t_X9_needed_88 X  hf hP hD hS (lv_sub hl [3] rfl)
    · have hf := it_f c1 hf
      refine lv_iconst (v := 0) hx hb dX9_needed_14 (by decide) ?_
      refine lv_istore (lv' := [(5, .int 0), (0, .ref (ad 0)), (1, .int x1), (2, .int x2), (3, .int x3), (4, .int x4)]) hx hb dX9_needed_15 hl (by decide) rfl (fun ls hl => ?_)
      refine lv_iload_n hx hb dX9_needed_17 rfl (lv_at hl 2 rfl) ?_
      refine lv_istore (lv' := [(6, .int x1), (5, .int 0), (0, .ref (ad 0)), (1, .int x1), (2, .int x2), (3, .int x3), (4, .int x4)]) hx hb dX9_needed_18 hl (by decide) rfl (fun ls hl => ?_)
      exact t_X9_needed_20 X ih 5000 x1 x2 x3 x4 0 x1 σ _ _ _ hf hP hD hS (lv_sub hl [2, 3, 4, 5, 6, 1, 0] rfl)
set_option maxHeartbeats 4000000 in
set_option maxRecDepth 100000 in
theorem t_X9_needed_0  (X : Fx p s m meth c D cA A RX9 cX9_needed 7 (some .int))  {x1 x2 : Int32} { σ : St} {H : Heap} {locs : List Loc} {ls : Array Slot} (hf : F_X9_needed x1 x2 σ = some (r, σ')) (hP : va_P D vwCl (wM cA ad ta σ) H) (hD : va_D A (wM cA ad ta σ)) (hS : va_S A s.heap H locs) (hl : lv_has ls 7 [(0, .ref (ad 0)), (1, .int x1), (2, .int x2)]) : W p l e (rm_X9_needed) s m args below meth c H locs 0 0 (MQ below (QI D cA A (wM cA ad) r σ' ta) args s 0 0 A) (F0 m 0 ls []) := by
  obtain ⟨hx, hb, hr, hml, hown, hlk, hE, hK, hA⟩ := id X
  rw [F_X9_needed] at hf
  refine lv_iconst (v := -1) hx hb dX9_needed_0 (by decide) ?_
  refine lv_istore_n (lv' := [(3, .int (-1)), (0, .ref (ad 0)), (1, .int x1), (2, .int x2)]) hx hb dX9_needed_1 rfl hl (by decide) rfl (fun ls hl => ?_)
  refine lv_iconst (v := 0) hx hb dX9_needed_2 (by decide) ?_
  refine lv_istore (lv' := [(4, .int 0), (3, .int (-1)), (0, .ref (ad 0)), (1, .int x1), (2, .int x2)]) hx hb dX9_needed_3 hl (by decide) rfl (fun ls hl => ?_)
  exact t_X9_needed_5 X  5000 x1 x2 (-1) 0 σ _ _ _ hf hP hD hS (lv_sub hl [2, 3, 4, 1, 0] rfl)
end S_X9_needed
theorem c_X9_needed (l : Launch) (D : va_G) (cA : ClassId) (A : Nat → Prop) (ad : Nat → Nat) (ta : Nat) (σ : St) (x1 x2 : Int32) (r : Int32) (σ' : St) (hf : F_X9_needed x1 x2 σ = some (r, σ')) : MI l D cA A (wM cA ad) yX9_needed cX9_needed 7 (some .int) rm_X9_needed [.ref (ad 0), .int x1, .int x2] ta σ r σ' 0 0 := by
  refine enter (by decide) (Nat.le_of_ble_eq_true rfl) ?_
  intro p e s m below meth c ls X hnm hP hD hS hl
  exact t_X9_needed_0 X hf hP hD hS hl
abbrev rm_X9_run : Room := { frames := 1, cells := 0, slots := 0, locals := 22 }
def F_X9_run_52 (k24 : Int32 → Int32 → Int32 → Int32 → Int32 → St → Rs) (x1 : Int32) (x2 : Int32) (x3 : Int32) (x4 : Int32) (x5 : Int32) (z0 : Int32) (σ : St) : Rs :=
  if z0 = x4 then (ck (inb (x1 + x5) 4800) (bd (gA σ 17 (x1 + x5).toNatClampNeg) (fun y3 => ck (inb (gF σ 8) 4800) (bd (sA σ 17 (upd (gA σ 17) (gF σ 8).toNatClampNeg y3)) (fun s5 => bd (sF s5 8 ((gF s5 8) + 1)) (fun s6 => k24 x1 x2 x3 x4 (x5 + 1) s6)))))) else (some (x5, σ))
def F_X9_run_24  : Nat → Int32 → Int32 → Int32 → Int32 → Int32 → St → Rs
  | 0, _, _, _, _, _, _ => none
  | n + 1, x1, x2, x3, x4, x5, σ => if x2 ≤ x5 then (some (x5, σ)) else (ck (inb (x1 + x5) 4800) (bd (gA σ 17 (x1 + x5).toNatClampNeg) (fun y3 => bo (F_X9_there y3 x3 σ) (fun r4 s5 => if r4 < 0 then (F_X9_run_52 (F_X9_run_24 n) x1 x2 x3 x4 x5 0 s5) else (F_X9_run_52 (F_X9_run_24 n) x1 x2 x3 x4 x5 1 s5)))))
def F_X9_run_19 (x1 : Int32) (x2 : Int32) (x3 : Int32) (z0 : Int32) (σ : St) : Rs :=
  F_X9_run_24 5000 x1 x2 x3 z0 0 σ
def F_X9_run (x1 : Int32) (x2 : Int32) (x3 : Int32) (σ : St) : Rs :=
  ck (inb x1 4800) (bd (gA σ 17 x1.toNatClampNeg) (fun y2 => bo (F_X9_there y2 x3 σ) (fun r3 s4 => if r3 < 0 then (F_X9_run_19 x1 x2 x3 0 s4) else (F_X9_run_19 x1 x2 x3 1 s4))))
section S_X9_run
variable {p : Program} {l : Launch} {e : Env} {s : State} {m : MethodId} {args : Array Value} {below : List Frame} {meth : Method} {c : Code}
variable {D : va_G} {cA : ClassId} {A : Nat → Prop} {ad : Nat → Nat} {r : Int32} {σ' : St} {ta : Nat}
set_option maxHeartbeats 4000000 in
set_option maxRecDepth 100000 in
theorem t_X9_run_52 {k24 : Int32 → Int32 → Int32 → Int32 → Int32 → St → Rs} (X : Fx p s m meth c D cA A RX9 cX9_run 6 (some .int)) (K24 : ∀ (x1 x2 x3 x4 x5 : Int32) (σ : St) (H : Heap) (locs : List Loc) (ls : Array Slot), k24 x1 x2 x3 x4 x5 σ = some (r, σ') → va_P D vwCl (wM cA ad ta σ) H → va_D A (wM cA ad ta σ) → va_S A s.heap H locs → lv_has ls 6 [(0, .ref (ad 0)), (1, .int x1), (2, .int x2), (3, .int x3), (4, .int x4), (5, .int x5)] → W p l e (rm_X9_run) s m args below meth c H locs 0 0 (MQ below (QI D cA A (wM cA ad) r σ' ta) args s 0 0 A) (F0 m 24 ls [])) {x1 x2 x3 x4 x5 z0 : Int32} { σ : St} {H : Heap} {locs : List Loc} {ls : Array Slot} (hf : F_X9_run_52 k24 x1 x2 x3 x4 x5 z0 σ = some (r, σ')) (hP : va_P D vwCl (wM cA ad ta σ) H) (hD : va_D A (wM cA ad ta σ)) (hS : va_S A s.heap H locs) (hl : lv_has ls 6 [(0, .ref (ad 0)), (1, .int x1), (2, .int x2), (3, .int x3), (4, .int x4), (5, .int x5)]) : W p l e (rm_X9_run) s m args below meth c H locs 0 0 (MQ below (QI D cA A (wM cA ad) r σ' ta) args s 0 0 A) (F0 m 52 ls [.int z0]) := by
  obtain ⟨hx, hb, hr, hml, hown, hlk, hE, hK, hA⟩ := id X
  rw [F_X9_run_52] at hf
  refine lv_iload hx hb dX9_run_52 (lv_at hl 4 rfl) ?_
  refine lv_icmp_ne (tgt := 91) hx hb dX9_run_54 (by decide) (fun c1 => ?_) (fun c1 => ?_)
  · have hf := it_f c1 hf
    refine lv_iload hx hb dX9_run_91 (lv_at hl 5 rfl) ?_
    obtain ⟨rfl, rfl⟩ := Prod.mk.inj (Option.some.inj hf)
    exact ret_i X hP hD hS dX9_run_93
  · have hf := it_t c1 hf
    refine lv_aload_n hx hb dX9_run_57 rfl (lv_at hl 0 rfl) ?_
    refine gM_Mod_set X hP kw703 dX9_run_58 ?_
    refine lv_aload_n hx hb dX9_run_61 rfl (lv_at hl 0 rfl) ?_
    refine gM_Mod_setEnd X hP kw705 dX9_run_62 ?_
    refine lv_aload_n hx hb dX9_run_65 rfl (lv_at hl 0 rfl) ?_
    refine gM_Mod_set X hP kw703 dX9_run_66 ?_
    refine lv_iload_n hx hb dX9_run_69 rfl (lv_at hl 1 rfl) ?_
    refine lv_iload hx hb dX9_run_70 (lv_at hl 5 rfl) ?_
    refine lv_iadd hx hb dX9_run_72 ?_
    obtain ⟨b2, hf⟩ := ck_e hf
    refine lM_set X hP b2 dX9_run_73 ?_
    refine lv_topi (fun y3 ey3 => ?_)
    have hf := bd_x ey3 hf
    obtain ⟨b4, hf⟩ := ck_e hf
    refine sM_set X hP hD hS b4 dX9_run_74 (fun H locs hP hD hS => ?_)
    obtain ⟨s5, es5, hf⟩ := bd_e hf
    rw [← es5] at hP hD
    refine lv_aload_n hx hb dX9_run_75 rfl (lv_at hl 0 rfl) ?_
    refine lv_dup hx hb dX9_run_76 rfl ?_
    refine gM_Mod_setEnd X hP kw705 dX9_run_77 ?_
    refine lv_iconst (v := 1) hx hb dX9_run_80 (by decide) ?_
    refine lv_iadd hx hb dX9_run_81 ?_
    refine pM_Mod_setEnd X hP hD hS kw705 dX9_run_82 (fun H locs hP hD hS => ?_)
    obtain ⟨s6, es6, hf⟩ := bd_e hf
    rw [← es6] at hP hD
    refine lv_iinc (v := (x5 + 1)) (lv' := [(5, .int (x5 + 1)), (0, .ref (ad 0)), (1, .int x1), (2, .int x2), (3, .int x3), (4, .int x4)]) hx hb dX9_run_85 hl (k := 5) rfl rfl (by decide) rfl (fun ls hl => ?_)
    refine lv_goto (tgt := 24) hx hb dX9_run_88 (by decide) ?_
    exact K24 x1 x2 x3 x4 (x5 + 1) s6 _ _ _ hf hP hD hS (lv_sub hl [1, 2, 3, 4, 5, 0] rfl)
set_option maxHeartbeats 4000000 in
set_option maxRecDepth 100000 in
theorem t_X9_run_24  (X : Fx p s m meth c D cA A RX9 cX9_run 6 (some .int))  : ∀ (n : Nat) (x1 x2 x3 x4 x5 : Int32) (σ : St) (H : Heap) (locs : List Loc) (ls : Array Slot), F_X9_run_24 n x1 x2 x3 x4 x5 σ = some (r, σ') → va_P D vwCl (wM cA ad ta σ) H → va_D A (wM cA ad ta σ) → va_S A s.heap H locs → lv_has ls 6 [(0, .ref (ad 0)), (1, .int x1), (2, .int x2), (3, .int x3), (4, .int x4), (5, .int x5)] → W p l e (rm_X9_run) s m args below meth c H locs 0 0 (MQ below (QI D cA A (wM cA ad) r σ' ta) args s 0 0 A) (F0 m 24 ls []) := by
  obtain ⟨hx, hb, hr, hml, hown, hlk, hE, hK, hA⟩ := id X
  intro n
  induction n with
  | zero =>
    intro x1 x2 x3 x4 x5 σ H locs ls hf
    cases (show (none : Rs) = some _ from hf)
  | succ n ih =>
    intro x1 x2 x3 x4 x5 σ H locs ls hf hP hD hS hl
    rw [F_X9_run_24] at hf
    refine lv_iload hx hb dX9_run_24 (lv_at hl 5 rfl) ?_
    refine lv_iload_n hx hb dX9_run_26 rfl (lv_at hl 2 rfl) ?_
    refine lv_icmp_ge (tgt := 91) hx hb dX9_run_27 (by decide) (fun c1 => ?_) (fun c1 => ?_)
    · have hf := it_t c1 hf
      refine lv_iload hx hb dX9_run_91 (lv_at hl 5 rfl) ?_
      obtain ⟨rfl, rfl⟩ := Prod.mk.inj (Option.some.inj hf)
      exact ret_i X hP hD hS dX9_run_93
    · have hf := it_f c1 hf
      refine lv_aload_n hx hb dX9_run_30 rfl (lv_at hl 0 rfl) ?_
      refine lv_aload_n hx hb dX9_run_31 rfl (lv_at hl 0 rfl) ?_
      refine gM_Mod_set X hP kw703 dX9_run_32 ?_
      refine lv_iload_n hx hb dX9_run_35 rfl (lv_at hl 1 rfl) ?_
      refine lv_iload hx hb dX9_run_36 (lv_at hl 5 rfl) ?_
      refine lv_iadd hx hb dX9_run_38 ?_
      obtain ⟨b2, hf⟩ := ck_e hf
      refine lM_set X hP b2 dX9_run_39 ?_
      refine lv_topi (fun y3 ey3 => ?_)
      have hf := bd_x ey3 hf
      refine lv_iload_n hx hb dX9_run_40 rfl (lv_at hl 3 rfl) ?_
      obtain ⟨r4, s5, h6, hf⟩ := bo_e hf
      refine callV_i X cv_X9_there kw891 (c_X9_there l D cA A ad ta σ y3 x3 r4 s5 h6) ⟨by decide, by decide⟩ ⟨rfl, rfl⟩ hP hD hS (q0 := 0) (ci := 9) rfl rfl rfl rfl hl rfl (Nat.le_of_ble_eq_true rfl) dX9_run_41 ⟨by decide, by decide⟩ (fun H locs hP hD hS => ?_)
      refine lv_if_lt (tgt := 51) hx hb dX9_run_44 (by decide) (fun c7 => ?_) (fun c7 => ?_)
      · have hf := it_t c7 hf
        refine lv_iconst (v := 0) hx hb dX9_run_51 (by decide) ?_
        exact t_X9_run_52 X ih hf hP hD hS (lv_sub hl [0, 1, 2, 3, 4, 5] rfl)
      · have hf := it_f c7 hf
        refine lv_iconst (v := 1) hx hb dX9_run_47 (by decide) ?_
        refine lv_goto (tgt := 52) hx hb dX9_run_48 (by decide) ?_
        exact t_X9_run_52 X ih hf hP hD hS (lv_sub hl [0, 1, 2, 3, 4, 5] rfl)
set_option maxHeartbeats 4000000 in
set_option maxRecDepth 100000 in
theorem t_X9_run_19  (X : Fx p s m meth c D cA A RX9 cX9_run 6 (some .int))  {x1 x2 x3 z0 : Int32} { σ : St} {H : Heap} {locs : List Loc} {ls : Array Slot} (hf : F_X9_run_19 x1 x2 x3 z0 σ = some (r, σ')) (hP : va_P D vwCl (wM cA ad ta σ) H) (hD : va_D A (wM cA ad ta σ)) (hS : va_S A s.heap H locs) (hl : lv_has ls 6 [(0, .ref (ad 0)), (1, .int x1), (2, .int x2), (3, .int x3)]) : W p l e (rm_X9_run) s m args below meth c H locs 0 0 (MQ below (QI D cA A (wM cA ad) r σ' ta) args s 0 0 A) (F0 m 19 ls [.int z0]) := by
  obtain ⟨hx, hb, hr, hml, hown, hlk, hE, hK, hA⟩ := id X
  rw [F_X9_run_19] at hf
  refine lv_istore (lv' := [(4, .int z0), (0, .ref (ad 0)), (1, .int x1), (2, .int x2), (3, .int x3)]) hx hb dX9_run_19 hl (by decide) rfl (fun ls hl => ?_)
  refine lv_iconst (v := 0) hx hb dX9_run_21 (by decide) ?_
  refine lv_istore (lv' := [(5, .int 0), (4, .int z0), (0, .ref (ad 0)), (1, .int x1), (2, .int x2), (3, .int x3)]) hx hb dX9_run_22 hl (by decide) rfl (fun ls hl => ?_)
  exact t_X9_run_24 X  5000 x1 x2 x3 z0 0 σ _ _ _ hf hP hD hS (lv_sub hl [2, 3, 4, 5, 1, 0] rfl)
set_option maxHeartbeats 4000000 in
set_option maxRecDepth 100000 in
theorem t_X9_run_0  (X : Fx p s m meth c D cA A RX9 cX9_run 6 (some .int))  {x1 x2 x3 : Int32} { σ : St} {H : Heap} {locs : List Loc} {ls : Array Slot} (hf : F_X9_run x1 x2 x3 σ = some (r, σ')) (hP : va_P D vwCl (wM cA ad ta σ) H) (hD : va_D A (wM cA ad ta σ)) (hS : va_S A s.heap H locs) (hl : lv_has ls 6 [(0, .ref (ad 0)), (1, .int x1), (2, .int x2), (3, .int x3)]) : W p l e (rm_X9_run) s m args below meth c H locs 0 0 (MQ below (QI D cA A (wM cA ad) r σ' ta) args s 0 0 A) (F0 m 0 ls []) := by
  obtain ⟨hx, hb, hr, hml, hown, hlk, hE, hK, hA⟩ := id X
  rw [F_X9_run] at hf
  refine lv_aload_n hx hb dX9_run_0 rfl (lv_at hl 0 rfl) ?_
  refine lv_aload_n hx hb dX9_run_1 rfl (lv_at hl 0 rfl) ?_
  refine gM_Mod_set X hP kw703 dX9_run_2 ?_
  refine lv_iload_n hx hb dX9_run_5 rfl (lv_at hl 1 rfl) ?_
  obtain ⟨b1, hf⟩ := ck_e hf
  refine lM_set X hP b1 dX9_run_6 ?_
  refine lv_topi (fun y2 ey2 => ?_)
  have hf := bd_x ey2 hf
  refine lv_iload_n hx hb dX9_run_7 rfl (lv_at hl 3 rfl) ?_
  obtain ⟨r3, s4, h5, hf⟩ := bo_e hf
  refine callV_i X cv_X9_there kw891 (c_X9_there l D cA A ad ta σ y2 x3 r3 s4 h5) ⟨by decide, by decide⟩ ⟨rfl, rfl⟩ hP hD hS (q0 := 0) (ci := 9) rfl rfl rfl rfl hl rfl (Nat.le_of_ble_eq_true rfl) dX9_run_8 ⟨by decide, by decide⟩ (fun H locs hP hD hS => ?_)
  refine lv_if_lt (tgt := 18) hx hb dX9_run_11 (by decide) (fun c6 => ?_) (fun c6 => ?_)
  · have hf := it_t c6 hf
    refine lv_iconst (v := 0) hx hb dX9_run_18 (by decide) ?_
    exact t_X9_run_19 X  hf hP hD hS (lv_sub hl [0, 1, 2, 3] rfl)
  · have hf := it_f c6 hf
    refine lv_iconst (v := 1) hx hb dX9_run_14 (by decide) ?_
    refine lv_goto (tgt := 19) hx hb dX9_run_15 (by decide) ?_
    exact t_X9_run_19 X  hf hP hD hS (lv_sub hl [0, 1, 2, 3] rfl)
end S_X9_run
theorem c_X9_run (l : Launch) (D : va_G) (cA : ClassId) (A : Nat → Prop) (ad : Nat → Nat) (ta : Nat) (σ : St) (x1 x2 x3 : Int32) (r : Int32) (σ' : St) (hf : F_X9_run x1 x2 x3 σ = some (r, σ')) : MI l D cA A (wM cA ad) yX9_run cX9_run 6 (some .int) rm_X9_run [.ref (ad 0), .int x1, .int x2, .int x3] ta σ r σ' 0 0 := by
  refine enter (by decide) (Nat.le_of_ble_eq_true rfl) ?_
  intro p e s m below meth c ls X hnm hP hD hS hl
  exact t_X9_run_0 X hf hP hD hS hl
abbrev rm_X9_node : Room := { frames := 1, cells := 0, slots := 0, locals := 21 }
def F_X9_node_118 (z0 : Int32) (z1 : Int32) (σ : St) : Rs :=
  bd (sF σ 12 (z1 + z0)) (fun s1 => bd (sF s1 10 ((gF s1 10) + 1)) (fun s2 => some (((gF s2 10) - 1), s2)))
def F_X9_node_99 (x1 : Int32) (z0 : Int32) (z1 : Int32) (σ : St) : Rs :=
  bd (sF σ 11 (z1 + z0)) (fun s1 => if x1 = 1 then (F_X9_node_118 1 (gF s1 12) s1) else (F_X9_node_118 0 (gF s1 12) s1))
def F_X9_node (x1 : Int32) (x2 : Int32) (x3 : Int32) (x4 : Int32) (σ : St) : Rs :=
  ck (inb (gF σ 10) 4000) (bd (sA σ 19 (upd (gA σ 19) (gF σ 10).toNatClampNeg x1)) (fun s2 => ck (inb (gF s2 10) 4000) (bd (sA s2 20 (upd (gA s2 20) (gF s2 10).toNatClampNeg x2)) (fun s4 => ck (inb (gF s4 10) 4000) (bd (sA s4 21 (upd (gA s4 21) (gF s4 10).toNatClampNeg (-1))) (fun s6 => ck (inb (gF s6 10) 4000) (bd (sA s6 22 (upd (gA s6 22) (gF s6 10).toNatClampNeg (-1))) (fun s8 => ck (inb (gF s8 10) 4000) (bd (sA s8 23 (upd (gA s8 23) (gF s8 10).toNatClampNeg 0)) (fun s10 => ck (inb (gF s10 10) 4000) (bd (sA s10 24 (upd (gA s10 24) (gF s10 10).toNatClampNeg x3)) (fun s12 => ck (inb (gF s12 10) 4000) (bd (sA s12 25 (upd (gA s12 25) (gF s12 10).toNatClampNeg x4)) (fun s14 => bd (if (gF s14 13) < x4 then x4 else (gF s14 13)) (fun y15 => bd (sF s14 13 y15) (fun s16 => if x1 = 2 then (F_X9_node_99 x1 1 (gF s16 11) s16) else (F_X9_node_99 x1 0 (gF s16 11) s16)))))))))))))))))
section S_X9_node
variable {p : Program} {l : Launch} {e : Env} {s : State} {m : MethodId} {args : Array Value} {below : List Frame} {meth : Method} {c : Code}
variable {D : va_G} {cA : ClassId} {A : Nat → Prop} {ad : Nat → Nat} {r : Int32} {σ' : St} {ta : Nat}
set_option maxHeartbeats 4000000 in
set_option maxRecDepth 100000 in
theorem t_X9_node_118  (X : Fx p s m meth c D cA A RX9 cX9_node 5 (some .int))  {z0 z1 : Int32} { σ : St} {H : Heap} {locs : List Loc} {ls : Array Slot} (hf : F_X9_node_118 z0 z1 σ = some (r, σ')) (hP : va_P D vwCl (wM cA ad ta σ) H) (hD : va_D A (wM cA ad ta σ)) (hS : va_S A s.heap H locs) (hl : lv_has ls 5 [(0, .ref (ad 0))]) : W p l e (rm_X9_node) s m args below meth c H locs 0 0 (MQ below (QI D cA A (wM cA ad) r σ' ta) args s 0 0 A) (F0 m 118 ls [.int z0, .int z1, .ref (ad 0)]) := by
  obtain ⟨hx, hb, hr, hml, hown, hlk, hE, hK, hA⟩ := id X
  rw [F_X9_node_118] at hf
  refine lv_iadd hx hb dX9_node_118 ?_
  refine pM_Mod_branches X hP hD hS kw709 dX9_node_119 (fun H locs hP hD hS => ?_)
  obtain ⟨s1, es1, hf⟩ := bd_e hf
  rw [← es1] at hP hD
  refine lv_aload_n hx hb dX9_node_122 rfl (lv_at hl 0 rfl) ?_
  refine lv_dup hx hb dX9_node_123 rfl ?_
  refine gM_Mod_nodes X hP kw707 dX9_node_124 ?_
  refine lv_iconst (v := 1) hx hb dX9_node_127 (by decide) ?_
  refine lv_iadd hx hb dX9_node_128 ?_
  refine pM_Mod_nodes X hP hD hS kw707 dX9_node_129 (fun H locs hP hD hS => ?_)
  obtain ⟨s2, es2, hf⟩ := bd_e hf
  rw [← es2] at hP hD
  refine lv_aload_n hx hb dX9_node_132 rfl (lv_at hl 0 rfl) ?_
  refine gM_Mod_nodes X hP kw707 dX9_node_133 ?_
  refine lv_iconst (v := 1) hx hb dX9_node_136 (by decide) ?_
  refine lv_isub hx hb dX9_node_137 ?_
  obtain ⟨rfl, rfl⟩ := Prod.mk.inj (Option.some.inj hf)
  exact ret_i X hP hD hS dX9_node_138
set_option maxHeartbeats 4000000 in
set_option maxRecDepth 100000 in
theorem t_X9_node_99  (X : Fx p s m meth c D cA A RX9 cX9_node 5 (some .int))  {x1 z0 z1 : Int32} { σ : St} {H : Heap} {locs : List Loc} {ls : Array Slot} (hf : F_X9_node_99 x1 z0 z1 σ = some (r, σ')) (hP : va_P D vwCl (wM cA ad ta σ) H) (hD : va_D A (wM cA ad ta σ)) (hS : va_S A s.heap H locs) (hl : lv_has ls 5 [(0, .ref (ad 0)), (1, .int x1)]) : W p l e (rm_X9_node) s m args below meth c H locs 0 0 (MQ below (QI D cA A (wM cA ad) r σ' ta) args s 0 0 A) (F0 m 99 ls [.int z0, .int z1, .ref (ad 0)]) := by
  obtain ⟨hx, hb, hr, hml, hown, hlk, hE, hK, hA⟩ := id X
  rw [F_X9_node_99] at hf
  refine lv_iadd hx hb dX9_node_99 ?_
  refine pM_Mod_ors X hP hD hS kw708 dX9_node_100 (fun H locs hP hD hS => ?_)
  obtain ⟨s1, es1, hf⟩ := bd_e hf
  rw [← es1] at hP hD
  refine lv_aload_n hx hb dX9_node_103 rfl (lv_at hl 0 rfl) ?_
  refine lv_dup hx hb dX9_node_104 rfl ?_
  refine gM_Mod_branches X hP kw709 dX9_node_105 ?_
  refine lv_iload_n hx hb dX9_node_108 rfl (lv_at hl 1 rfl) ?_
  refine lv_iconst (v := 1) hx hb dX9_node_109 (by decide) ?_
  refine lv_icmp_ne (tgt := 117) hx hb dX9_node_110 (by decide) (fun c2 => ?_) (fun c2 => ?_)
  · have hf := it_f c2 hf
    refine lv_iconst (v := 0) hx hb dX9_node_117 (by decide) ?_
    exact t_X9_node_118 X  hf hP hD hS (lv_sub hl [0] rfl)
  · have hf := it_t c2 hf
    refine lv_iconst (v := 1) hx hb dX9_node_113 (by decide) ?_
    refine lv_goto (tgt := 118) hx hb dX9_node_114 (by decide) ?_
    exact t_X9_node_118 X  hf hP hD hS (lv_sub hl [0] rfl)
set_option maxHeartbeats 4000000 in
set_option maxRecDepth 100000 in
theorem t_X9_node_0  (X : Fx p s m meth c D cA A RX9 cX9_node 5 (some .int))  {x1 x2 x3 x4 : Int32} { σ : St} {H : Heap} {locs : List Loc} {ls : Array Slot} (hf : F_X9_node x1 x2 x3 x4 σ = some (r, σ')) (hP : va_P D vwCl (wM cA ad ta σ) H) (hD : va_D A (wM cA ad ta σ)) (hS : va_S A s.heap H locs) (hl : lv_has ls 5 [(0, .ref (ad 0)), (1, .int x1), (2, .int x2), (3, .int x3), (4, .int x4)]) : W p l e (rm_X9_node) s m args below meth c H locs 0 0 (MQ below (QI D cA A (wM cA ad) r σ' ta) args s 0 0 A) (F0 m 0 ls []) := by
  obtain ⟨hx, hb, hr, hml, hown, hlk, hE, hK, hA⟩ := id X
  rw [F_X9_node] at hf
  refine lv_aload_n hx hb dX9_node_0 rfl (lv_at hl 0 rfl) ?_
  refine gM_Mod_sort X hP kw712 dX9_node_1 ?_
  refine lv_aload_n hx hb dX9_node_4 rfl (lv_at hl 0 rfl) ?_
  refine gM_Mod_nodes X hP kw707 dX9_node_5 ?_
  refine lv_iload_n hx hb dX9_node_8 rfl (lv_at hl 1 rfl) ?_
  obtain ⟨b1, hf⟩ := ck_e hf
  refine sM_sort X hP hD hS b1 dX9_node_9 (fun H locs hP hD hS => ?_)
  obtain ⟨s2, es2, hf⟩ := bd_e hf
  rw [← es2] at hP hD
  refine lv_aload_n hx hb dX9_node_10 rfl (lv_at hl 0 rfl) ?_
  refine gM_Mod_leaf X hP kw713 dX9_node_11 ?_
  refine lv_aload_n hx hb dX9_node_14 rfl (lv_at hl 0 rfl) ?_
  refine gM_Mod_nodes X hP kw707 dX9_node_15 ?_
  refine lv_iload_n hx hb dX9_node_18 rfl (lv_at hl 2 rfl) ?_
  obtain ⟨b3, hf⟩ := ck_e hf
  refine sM_leaf X hP hD hS b3 dX9_node_19 (fun H locs hP hD hS => ?_)
  obtain ⟨s4, es4, hf⟩ := bd_e hf
  rw [← es4] at hP hD
  refine lv_aload_n hx hb dX9_node_20 rfl (lv_at hl 0 rfl) ?_
  refine gM_Mod_of X hP kw714 dX9_node_21 ?_
  refine lv_aload_n hx hb dX9_node_24 rfl (lv_at hl 0 rfl) ?_
  refine gM_Mod_nodes X hP kw707 dX9_node_25 ?_
  refine lv_iconst (v := -1) hx hb dX9_node_28 (by decide) ?_
  obtain ⟨b5, hf⟩ := ck_e hf
  refine sM_of X hP hD hS b5 dX9_node_29 (fun H locs hP hD hS => ?_)
  obtain ⟨s6, es6, hf⟩ := bd_e hf
  rw [← es6] at hP hD
  refine lv_aload_n hx hb dX9_node_30 rfl (lv_at hl 0 rfl) ?_
  refine gM_Mod_spot X hP kw715 dX9_node_31 ?_
  refine lv_aload_n hx hb dX9_node_34 rfl (lv_at hl 0 rfl) ?_
  refine gM_Mod_nodes X hP kw707 dX9_node_35 ?_
  refine lv_iconst (v := -1) hx hb dX9_node_38 (by decide) ?_
  obtain ⟨b7, hf⟩ := ck_e hf
  refine sM_spot X hP hD hS b7 dX9_node_39 (fun H locs hP hD hS => ?_)
  obtain ⟨s8, es8, hf⟩ := bd_e hf
  rw [← es8] at hP hD
  refine lv_aload_n hx hb dX9_node_40 rfl (lv_at hl 0 rfl) ?_
  refine gM_Mod_many0 X hP kw716 dX9_node_41 ?_
  refine lv_aload_n hx hb dX9_node_44 rfl (lv_at hl 0 rfl) ?_
  refine gM_Mod_nodes X hP kw707 dX9_node_45 ?_
  refine lv_iconst (v := 0) hx hb dX9_node_48 (by decide) ?_
  obtain ⟨b9, hf⟩ := ck_e hf
  refine sM_many0 X hP hD hS b9 dX9_node_49 (fun H locs hP hD hS => ?_)
  obtain ⟨s10, es10, hf⟩ := bd_e hf
  rw [← es10] at hP hD
  refine lv_aload_n hx hb dX9_node_50 rfl (lv_at hl 0 rfl) ?_
  refine gM_Mod_by X hP kw717 dX9_node_51 ?_
  refine lv_aload_n hx hb dX9_node_54 rfl (lv_at hl 0 rfl) ?_
  refine gM_Mod_nodes X hP kw707 dX9_node_55 ?_
  refine lv_iload_n hx hb dX9_node_58 rfl (lv_at hl 3 rfl) ?_
  obtain ⟨b11, hf⟩ := ck_e hf
  refine sM_by X hP hD hS b11 dX9_node_59 (fun H locs hP hD hS => ?_)
  obtain ⟨s12, es12, hf⟩ := bd_e hf
  rw [← es12] at hP hD
  refine lv_aload_n hx hb dX9_node_60 rfl (lv_at hl 0 rfl) ?_
  refine gM_Mod_deep X hP kw718 dX9_node_61 ?_
  refine lv_aload_n hx hb dX9_node_64 rfl (lv_at hl 0 rfl) ?_
  refine gM_Mod_nodes X hP kw707 dX9_node_65 ?_
  refine lv_iload hx hb dX9_node_68 (lv_at hl 4 rfl) ?_
  obtain ⟨b13, hf⟩ := ck_e hf
  refine sM_deep X hP hD hS b13 dX9_node_70 (fun H locs hP hD hS => ?_)
  obtain ⟨s14, es14, hf⟩ := bd_e hf
  rw [← es14] at hP hD
  refine lv_aload_n hx hb dX9_node_71 rfl (lv_at hl 0 rfl) ?_
  refine lv_aload_n hx hb dX9_node_72 rfl (lv_at hl 0 rfl) ?_
  refine gM_Mod_deepest X hP kw710 dX9_node_73 ?_
  refine lv_iload hx hb dX9_node_76 (lv_at hl 4 rfl) ?_
  refine va_mmax hx hb (hml.trans hl.1.symm) hown (hE.at args kw899) (hE.at args kw530) (hE.at args kw11) (hE.at args kw531) (by decide) (Nat.le_of_ble_eq_true rfl) (by decide) (by decide) dX9_node_78 ?_
  refine lv_topi (fun y15 ey15 => ?_)
  have hf := bd_x ey15 hf
  refine pM_Mod_deepest X hP hD hS kw710 dX9_node_81 (fun H locs hP hD hS => ?_)
  obtain ⟨s16, es16, hf⟩ := bd_e hf
  rw [← es16] at hP hD
  refine lv_aload_n hx hb dX9_node_84 rfl (lv_at hl 0 rfl) ?_
  refine lv_dup hx hb dX9_node_85 rfl ?_
  refine gM_Mod_ors X hP kw708 dX9_node_86 ?_
  refine lv_iload_n hx hb dX9_node_89 rfl (lv_at hl 1 rfl) ?_
  refine lv_iconst (v := 2) hx hb dX9_node_90 (by decide) ?_
  refine lv_icmp_ne (tgt := 98) hx hb dX9_node_91 (by decide) (fun c17 => ?_) (fun c17 => ?_)
  · have hf := it_f c17 hf
    refine lv_iconst (v := 0) hx hb dX9_node_98 (by decide) ?_
    exact t_X9_node_99 X  hf hP hD hS (lv_sub hl [0, 1] rfl)
  · have hf := it_t c17 hf
    refine lv_iconst (v := 1) hx hb dX9_node_94 (by decide) ?_
    refine lv_goto (tgt := 99) hx hb dX9_node_95 (by decide) ?_
    exact t_X9_node_99 X  hf hP hD hS (lv_sub hl [0, 1] rfl)
end S_X9_node
theorem c_X9_node (l : Launch) (D : va_G) (cA : ClassId) (A : Nat → Prop) (ad : Nat → Nat) (ta : Nat) (σ : St) (x1 x2 x3 x4 : Int32) (r : Int32) (σ' : St) (hf : F_X9_node x1 x2 x3 x4 σ = some (r, σ')) : MI l D cA A (wM cA ad) yX9_node cX9_node 5 (some .int) rm_X9_node [.ref (ad 0), .int x1, .int x2, .int x3, .int x4] ta σ r σ' 0 0 := by
  refine enter (by decide) (Nat.le_of_ble_eq_true rfl) ?_
  intro p e s m below meth c ls X hnm hP hD hS hl
  exact t_X9_node_0 X hf hP hD hS hl
abbrev rm_X9_newCells : Room := { frames := 0, cells := 0, slots := 0, locals := 0 }
def F_X9_newCells (x1 : Int32) (σ : St) : Rs :=
  bd (sF σ 15 ((gF σ 15) + x1)) (fun s1 => some (((gF s1 15) - x1), s1))
section S_X9_newCells
variable {p : Program} {l : Launch} {e : Env} {s : State} {m : MethodId} {args : Array Value} {below : List Frame} {meth : Method} {c : Code}
variable {D : va_G} {cA : ClassId} {A : Nat → Prop} {ad : Nat → Nat} {r : Int32} {σ' : St} {ta : Nat}
set_option maxHeartbeats 4000000 in
set_option maxRecDepth 100000 in
theorem t_X9_newCells_0  (X : Fx p s m meth c D cA A RX9 cX9_newCells 2 (some .int))  {x1 : Int32} { σ : St} {H : Heap} {locs : List Loc} {ls : Array Slot} (hf : F_X9_newCells x1 σ = some (r, σ')) (hP : va_P D vwCl (wM cA ad ta σ) H) (hD : va_D A (wM cA ad ta σ)) (hS : va_S A s.heap H locs) (hl : lv_has ls 2 [(0, .ref (ad 0)), (1, .int x1)]) : W p l e (rm_X9_newCells) s m args below meth c H locs 0 0 (MQ below (QI D cA A (wM cA ad) r σ' ta) args s 0 0 A) (F0 m 0 ls []) := by
  obtain ⟨hx, hb, hr, hml, hown, hlk, hE, hK, hA⟩ := id X
  rw [F_X9_newCells] at hf
  refine lv_aload_n hx hb dX9_newCells_0 rfl (lv_at hl 0 rfl) ?_
  refine lv_dup hx hb dX9_newCells_1 rfl ?_
  refine gM_Mod_cells X hP kw722 dX9_newCells_2 ?_
  refine lv_iload_n hx hb dX9_newCells_5 rfl (lv_at hl 1 rfl) ?_
  refine lv_iadd hx hb dX9_newCells_6 ?_
  refine pM_Mod_cells X hP hD hS kw722 dX9_newCells_7 (fun H locs hP hD hS => ?_)
  obtain ⟨s1, es1, hf⟩ := bd_e hf
  rw [← es1] at hP hD
  refine lv_aload_n hx hb dX9_newCells_10 rfl (lv_at hl 0 rfl) ?_
  refine gM_Mod_cells X hP kw722 dX9_newCells_11 ?_
  refine lv_iload_n hx hb dX9_newCells_14 rfl (lv_at hl 1 rfl) ?_
  refine lv_isub hx hb dX9_newCells_15 ?_
  obtain ⟨rfl, rfl⟩ := Prod.mk.inj (Option.some.inj hf)
  exact ret_i X hP hD hS dX9_newCells_16
end S_X9_newCells
theorem c_X9_newCells (l : Launch) (D : va_G) (cA : ClassId) (A : Nat → Prop) (ad : Nat → Nat) (ta : Nat) (σ : St) (x1 : Int32) (r : Int32) (σ' : St) (hf : F_X9_newCells x1 σ = some (r, σ')) : MI l D cA A (wM cA ad) yX9_newCells cX9_newCells 2 (some .int) rm_X9_newCells [.ref (ad 0), .int x1] ta σ r σ' 0 0 := by
  refine enter (by decide) (Nat.le_of_ble_eq_true rfl) ?_
  intro p e s m below meth c ls X hnm hP hD hS hl
  exact t_X9_newCells_0 X hf hP hD hS hl
abbrev rm_X9_read : Room := { frames := 1, cells := 0, slots := 0, locals := 21 }
def F_X9_read_220  (σ : St) : Rs :=
  bd (sF σ 5 0) (fun s1 => some (0, s1))
def F_X9_read_214 (k87 : Int32 → St → Rs) (x2 : Int32) (σ : St) : Rs :=
  k87 (x2 + 1) σ
def F_X9_read_175 (k87 : Int32 → St → Rs) : Nat → Int32 → Int32 → Int32 → St → Rs
  | 0, _, _, _, _ => none
  | n + 1, x2, x3, x4, σ => if x4 < 0 then (F_X9_read_214 k87 x2 σ) else (ck (inb x3 1200) (bd (gA σ 27 x3.toNatClampNeg) (fun y3 => ck (inb (gF σ 6) 700) (bd (sA σ 10 (upd (gA σ 10) (gF σ 6).toNatClampNeg (y3 + x4))) (fun s5 => bd (sF s5 6 ((gF s5 6) + 1)) (fun s6 => F_X9_read_175 k87 n x2 x3 (x4 + (-1)) s6))))))
def F_X9_read_87  : Nat → Int32 → St → Rs
  | 0, _, _ => none
  | n + 1, x2, σ => if (gF σ 5) ≤ x2 then (F_X9_read_220 σ) else (bd (sF σ 6 ((gF σ 6) - 1)) (fun s2 => ck (inb (gF s2 6) 700) (bd (gA s2 10 (gF s2 6).toNatClampNeg) (fun y4 => ck (inb x2 160) (bd (gA s2 4 x2.toNatClampNeg) (fun y6 => ck (inb y4 1200) (bd (sA s2 26 (upd (gA s2 26) y4.toNatClampNeg y6)) (fun s8 => ck (inb x2 160) (bd (gA s8 4 x2.toNatClampNeg) (fun y10 => if 0 ≤ y10 then (ck (inb x2 160) (bd (gA s8 4 x2.toNatClampNeg) (fun y13 => ck (inb y13 60) (bd (gA s8 2 y13.toNatClampNeg) (fun y15 => bo (F_X9_newCells y15 s8) (fun r16 s17 => ck (inb y4 1200) (bd (sA s17 27 (upd (gA s17 27) y4.toNatClampNeg r16)) (fun s20 => ck (inb x2 160) (bd (gA s20 4 x2.toNatClampNeg) (fun y22 => ck (inb y22 60) (bd (gA s20 2 y22.toNatClampNeg) (fun y24 => bd (y24 - 1) (fun y25 => F_X9_read_175 (F_X9_read_87 n) 5000 x2 y4 y25 s20))))))))))))) else (F_X9_read_214 (F_X9_read_87 n) x2 s8)))))))))))
def F_X9_read_85  (σ : St) : Rs :=
  F_X9_read_87 5000 0 σ
def F_X9_read_53  : Nat → Int32 → Int32 → St → Rs
  | 0, _, _, _ => none
  | n + 1, x1, x2, σ => if x2 < 0 then (F_X9_read_85 σ) else (ck (inb (gF σ 6) 700) (bd (sA σ 10 (upd (gA σ 10) (gF σ 6).toNatClampNeg (x1 + x2))) (fun s3 => bd (sF s3 6 ((gF s3 6) + 1)) (fun s4 => F_X9_read_53 n x1 (x2 + (-1)) s4))))
def F_X9_read_32  (σ : St) : Rs :=
  bo (F_X9_newCells (gF σ 2) σ) (fun r1 s2 => bd (sF s2 6 0) (fun s4 => bd ((gF s4 2) - 1) (fun y5 => F_X9_read_53 5000 r1 y5 s4)))
def F_X9_read_13  : Nat → Int32 → St → Rs
  | 0, _, _ => none
  | n + 1, x1, σ => if 8 ≤ x1 then (F_X9_read_32 σ) else (ck (inb x1 800) (bd (sA σ 28 (upd (gA σ 28) x1.toNatClampNeg (-1))) (fun s3 => F_X9_read_13 n (x1 + 1) s3)))
def F_X9_read  (σ : St) : Rs :=
  bd (sF σ 15 0) (fun s1 => bd (sF s1 16 8) (fun s2 => F_X9_read_13 5000 0 s2))
section S_X9_read
variable {p : Program} {l : Launch} {e : Env} {s : State} {m : MethodId} {args : Array Value} {below : List Frame} {meth : Method} {c : Code}
variable {D : va_G} {cA : ClassId} {A : Nat → Prop} {ad : Nat → Nat} {r : Int32} {σ' : St} {ta : Nat}
set_option maxHeartbeats 4000000 in
set_option maxRecDepth 100000 in
theorem t_X9_read_220  (X : Fx p s m meth c D cA A RX9 cX9_read 5 none)  { σ : St} {H : Heap} {locs : List Loc} {ls : Array Slot} (hf : F_X9_read_220 σ = some (r, σ')) (hP : va_P D vwCl (wM cA ad ta σ) H) (hD : va_D A (wM cA ad ta σ)) (hS : va_S A s.heap H locs) (hl : lv_has ls 5 [(0, .ref (ad 0))]) : W p l e (rm_X9_read) s m args below meth c H locs 0 0 (MQ below (QV D cA A (wM cA ad) σ' ta) args s 0 0 A) (F0 m 220 ls []) := by
  obtain ⟨hx, hb, hr, hml, hown, hlk, hE, hK, hA⟩ := id X
  rw [F_X9_read_220] at hf
  refine lv_aload_n hx hb dX9_read_220 rfl (lv_at hl 0 rfl) ?_
  refine lv_iconst (v := 0) hx hb dX9_read_221 (by decide) ?_
  refine pM_Mod_size X hP hD hS kw688 dX9_read_222 (fun H locs hP hD hS => ?_)
  obtain ⟨s1, es1, hf⟩ := bd_e hf
  rw [← es1] at hP hD
  obtain ⟨rfl, rfl⟩ := Prod.mk.inj (Option.some.inj hf)
  exact ret_v X hP hD hS dX9_read_225
set_option maxHeartbeats 4000000 in
set_option maxRecDepth 100000 in
theorem t_X9_read_214 {k87 : Int32 → St → Rs} (X : Fx p s m meth c D cA A RX9 cX9_read 5 none) (K87 : ∀ (x2 : Int32) (σ : St) (H : Heap) (locs : List Loc) (ls : Array Slot), k87 x2 σ = some (r, σ') → va_P D vwCl (wM cA ad ta σ) H → va_D A (wM cA ad ta σ) → va_S A s.heap H locs → lv_has ls 5 [(0, .ref (ad 0)), (2, .int x2)] → W p l e (rm_X9_read) s m args below meth c H locs 0 0 (MQ below (QV D cA A (wM cA ad) σ' ta) args s 0 0 A) (F0 m 87 ls [])) {x2 : Int32} { σ : St} {H : Heap} {locs : List Loc} {ls : Array Slot} (hf : F_X9_read_214 k87 x2 σ = some (r, σ')) (hP : va_P D vwCl (wM cA ad ta σ) H) (hD : va_D A (wM cA ad ta σ)) (hS : va_S A s.heap H locs) (hl : lv_has ls 5 [(0, .ref (ad 0)), (2, .int x2)]) : W p l e (rm_X9_read) s m args below meth c H locs 0 0 (MQ below (QV D cA A (wM cA ad) σ' ta) args s 0 0 A) (F0 m 214 ls []) := by
  obtain ⟨hx, hb, hr, hml, hown, hlk, hE, hK, hA⟩ := id X
  rw [F_X9_read_214] at hf
  refine lv_iinc (v := (x2 + 1)) (lv' := [(2, .int (x2 + 1)), (0, .ref (ad 0))]) hx hb dX9_read_214 hl (k := 1) rfl rfl (by decide) rfl (fun ls hl => ?_)
  refine lv_goto (tgt := 87) hx hb dX9_read_217 (by decide) ?_
  exact K87 (x2 + 1) σ _ _ _ hf hP hD hS (lv_sub hl [1, 0] rfl)
set_option maxHeartbeats 4000000 in
set_option maxRecDepth 100000 in
theorem t_X9_read_175 {k87 : Int32 → St → Rs} (X : Fx p s m meth c D cA A RX9 cX9_read 5 none) (K87 : ∀ (x2 : Int32) (σ : St) (H : Heap) (locs : List Loc) (ls : Array Slot), k87 x2 σ = some (r, σ') → va_P D vwCl (wM cA ad ta σ) H → va_D A (wM cA ad ta σ) → va_S A s.heap H locs → lv_has ls 5 [(0, .ref (ad 0)), (2, .int x2)] → W p l e (rm_X9_read) s m args below meth c H locs 0 0 (MQ below (QV D cA A (wM cA ad) σ' ta) args s 0 0 A) (F0 m 87 ls [])) : ∀ (n : Nat) (x2 x3 x4 : Int32) (σ : St) (H : Heap) (locs : List Loc) (ls : Array Slot), F_X9_read_175 k87 n x2 x3 x4 σ = some (r, σ') → va_P D vwCl (wM cA ad ta σ) H → va_D A (wM cA ad ta σ) → va_S A s.heap H locs → lv_has ls 5 [(0, .ref (ad 0)), (2, .int x2), (3, .int x3), (4, .int x4)] → W p l e (rm_X9_read) s m args below meth c H locs 0 0 (MQ below (QV D cA A (wM cA ad) σ' ta) args s 0 0 A) (F0 m 175 ls []) := by
  obtain ⟨hx, hb, hr, hml, hown, hlk, hE, hK, hA⟩ := id X
  intro n
  induction n with
  | zero =>
    intro x2 x3 x4 σ H locs ls hf
    cases (show (none : Rs) = some _ from hf)
  | succ n ih =>
    intro x2 x3 x4 σ H locs ls hf hP hD hS hl
    rw [F_X9_read_175] at hf
    refine lv_iload hx hb dX9_read_175 (lv_at hl 3 rfl) ?_
    refine lv_if_lt (tgt := 214) hx hb dX9_read_177 (by decide) (fun c1 => ?_) (fun c1 => ?_)
    · have hf := it_t c1 hf
      exact t_X9_read_214 X K87 hf hP hD hS (lv_sub hl [0, 1] rfl)
    · have hf := it_f c1 hf
      refine lv_aload_n hx hb dX9_read_180 rfl (lv_at hl 0 rfl) ?_
      refine gM_Mod_wanted X hP kw694 dX9_read_181 ?_
      refine lv_aload_n hx hb dX9_read_184 rfl (lv_at hl 0 rfl) ?_
      refine gM_Mod_wants X hP kw697 dX9_read_185 ?_
      refine lv_aload_n hx hb dX9_read_188 rfl (lv_at hl 0 rfl) ?_
      refine gM_Mod_kids X hP kw720 dX9_read_189 ?_
      refine lv_iload_n hx hb dX9_read_192 rfl (lv_at hl 2 rfl) ?_
      obtain ⟨b2, hf⟩ := ck_e hf
      refine lM_kids X hP b2 dX9_read_193 ?_
      refine lv_topi (fun y3 ey3 => ?_)
      have hf := bd_x ey3 hf
      refine lv_iload hx hb dX9_read_194 (lv_at hl 3 rfl) ?_
      refine lv_iadd hx hb dX9_read_196 ?_
      obtain ⟨b4, hf⟩ := ck_e hf
      refine sM_wanted X hP hD hS b4 dX9_read_197 (fun H locs hP hD hS => ?_)
      obtain ⟨s5, es5, hf⟩ := bd_e hf
      rw [← es5] at hP hD
      refine lv_aload_n hx hb dX9_read_198 rfl (lv_at hl 0 rfl) ?_
      refine lv_dup hx hb dX9_read_199 rfl ?_
      refine gM_Mod_wants X hP kw697 dX9_read_200 ?_
      refine lv_iconst (v := 1) hx hb dX9_read_203 (by decide) ?_
      refine lv_iadd hx hb dX9_read_204 ?_
      refine pM_Mod_wants X hP hD hS kw697 dX9_read_205 (fun H locs hP hD hS => ?_)
      obtain ⟨s6, es6, hf⟩ := bd_e hf
      rw [← es6] at hP hD
      refine lv_iinc (v := (x4 + (-1))) (lv' := [(4, .int (x4 + (-1))), (0, .ref (ad 0)), (2, .int x2), (3, .int x3)]) hx hb dX9_read_208 hl (k := 3) rfl rfl (by decide) rfl (fun ls hl => ?_)
      refine lv_goto (tgt := 175) hx hb dX9_read_211 (by decide) ?_
      exact ih x2 x3 (x4 + (-1)) s6 _ _ _ hf hP hD hS (lv_sub hl [1, 2, 3, 0] rfl)
set_option maxHeartbeats 4000000 in
set_option maxRecDepth 100000 in
theorem t_X9_read_87  (X : Fx p s m meth c D cA A RX9 cX9_read 5 none)  : ∀ (n : Nat) (x2 : Int32) (σ : St) (H : Heap) (locs : List Loc) (ls : Array Slot), F_X9_read_87 n x2 σ = some (r, σ') → va_P D vwCl (wM cA ad ta σ) H → va_D A (wM cA ad ta σ) → va_S A s.heap H locs → lv_has ls 5 [(0, .ref (ad 0)), (2, .int x2)] → W p l e (rm_X9_read) s m args below meth c H locs 0 0 (MQ below (QV D cA A (wM cA ad) σ' ta) args s 0 0 A) (F0 m 87 ls []) := by
  obtain ⟨hx, hb, hr, hml, hown, hlk, hE, hK, hA⟩ := id X
  intro n
  induction n with
  | zero =>
    intro x2 σ H locs ls hf
    cases (show (none : Rs) = some _ from hf)
  | succ n ih =>
    intro x2 σ H locs ls hf hP hD hS hl
    rw [F_X9_read_87] at hf
    refine lv_iload_n hx hb dX9_read_87 rfl (lv_at hl 1 rfl) ?_
    refine lv_aload_n hx hb dX9_read_88 rfl (lv_at hl 0 rfl) ?_
    refine gM_Mod_size X hP kw688 dX9_read_89 ?_
    refine lv_icmp_ge (tgt := 220) hx hb dX9_read_92 (by decide) (fun c1 => ?_) (fun c1 => ?_)
    · have hf := it_t c1 hf
      exact t_X9_read_220 X  hf hP hD hS (lv_sub hl [0] rfl)
    · have hf := it_f c1 hf
      refine lv_aload_n hx hb dX9_read_95 rfl (lv_at hl 0 rfl) ?_
      refine lv_dup hx hb dX9_read_96 rfl ?_
      refine gM_Mod_wants X hP kw697 dX9_read_97 ?_
      refine lv_iconst (v := 1) hx hb dX9_read_100 (by decide) ?_
      refine lv_isub hx hb dX9_read_101 ?_
      refine pM_Mod_wants X hP hD hS kw697 dX9_read_102 (fun H locs hP hD hS => ?_)
      obtain ⟨s2, es2, hf⟩ := bd_e hf
      rw [← es2] at hP hD
      refine lv_aload_n hx hb dX9_read_105 rfl (lv_at hl 0 rfl) ?_
      refine gM_Mod_wanted X hP kw694 dX9_read_106 ?_
      refine lv_aload_n hx hb dX9_read_109 rfl (lv_at hl 0 rfl) ?_
      refine gM_Mod_wants X hP kw697 dX9_read_110 ?_
      obtain ⟨b3, hf⟩ := ck_e hf
      refine lM_wanted X hP b3 dX9_read_113 ?_
      refine lv_topi (fun y4 ey4 => ?_)
      have hf := bd_x ey4 hf
      refine lv_istore_n (lv' := [(3, .int y4), (0, .ref (ad 0)), (2, .int x2)]) hx hb dX9_read_114 rfl hl (by decide) rfl (fun ls hl => ?_)
      refine lv_aload_n hx hb dX9_read_115 rfl (lv_at hl 1 rfl) ?_
      refine gM_Mod_cell X hP kw719 dX9_read_116 ?_
      refine lv_iload_n hx hb dX9_read_119 rfl (lv_at hl 0 rfl) ?_
      refine lv_aload_n hx hb dX9_read_120 rfl (lv_at hl 1 rfl) ?_
      refine gM_Mod_row X hP kw687 dX9_read_121 ?_
      refine lv_iload_n hx hb dX9_read_124 rfl (lv_at hl 2 rfl) ?_
      obtain ⟨b5, hf⟩ := ck_e hf
      refine lM_row X hP b5 dX9_read_125 ?_
      refine lv_topi (fun y6 ey6 => ?_)
      have hf := bd_x ey6 hf
      obtain ⟨b7, hf⟩ := ck_e hf
      refine sM_cell X hP hD hS b7 dX9_read_126 (fun H locs hP hD hS => ?_)
      obtain ⟨s8, es8, hf⟩ := bd_e hf
      rw [← es8] at hP hD
      refine lv_aload_n hx hb dX9_read_127 rfl (lv_at hl 1 rfl) ?_
      refine gM_Mod_row X hP kw687 dX9_read_128 ?_
      refine lv_iload_n hx hb dX9_read_131 rfl (lv_at hl 2 rfl) ?_
      obtain ⟨b9, hf⟩ := ck_e hf
      refine lM_row X hP b9 dX9_read_132 ?_
      refine lv_topi (fun y10 ey10 => ?_)
      have hf := bd_x ey10 hf
      refine lv_if_ge (tgt := 139) hx hb dX9_read_133 (by decide) (fun c11 => ?_) (fun c11 => ?_)
      · have hf := it_t c11 hf
        refine lv_aload_n hx hb dX9_read_139 rfl (lv_at hl 1 rfl) ?_
        refine gM_Mod_kids X hP kw720 dX9_read_140 ?_
        refine lv_iload_n hx hb dX9_read_143 rfl (lv_at hl 0 rfl) ?_
        refine lv_aload_n hx hb dX9_read_144 rfl (lv_at hl 1 rfl) ?_
        refine lv_aload_n hx hb dX9_read_145 rfl (lv_at hl 1 rfl) ?_
        refine gM_Mod_arity X hP kw682 dX9_read_146 ?_
        refine lv_aload_n hx hb dX9_read_149 rfl (lv_at hl 1 rfl) ?_
        refine gM_Mod_row X hP kw687 dX9_read_150 ?_
        refine lv_iload_n hx hb dX9_read_153 rfl (lv_at hl 2 rfl) ?_
        obtain ⟨b12, hf⟩ := ck_e hf
        refine lM_row X hP b12 dX9_read_154 ?_
        refine lv_topi (fun y13 ey13 => ?_)
        have hf := bd_x ey13 hf
        obtain ⟨b14, hf⟩ := ck_e hf
        refine lM_arity X hP b14 dX9_read_155 ?_
        refine lv_topi (fun y15 ey15 => ?_)
        have hf := bd_x ey15 hf
        obtain ⟨r16, s17, h18, hf⟩ := bo_e hf
        refine callV_i X cv_X9_newCells kw944 (c_X9_newCells l D cA A ad ta s8 y15 r16 s17 h18) ⟨by decide, by decide⟩ ⟨rfl, rfl⟩ hP hD hS (q0 := 0) (ci := 9) rfl rfl rfl rfl hl rfl (Nat.le_of_ble_eq_true rfl) dX9_read_156 ⟨by decide, by decide⟩ (fun H locs hP hD hS => ?_)
        obtain ⟨b19, hf⟩ := ck_e hf
        refine sM_kids X hP hD hS b19 dX9_read_159 (fun H locs hP hD hS => ?_)
        obtain ⟨s20, es20, hf⟩ := bd_e hf
        rw [← es20] at hP hD
        refine lv_aload_n hx hb dX9_read_160 rfl (lv_at hl 1 rfl) ?_
        refine gM_Mod_arity X hP kw682 dX9_read_161 ?_
        refine lv_aload_n hx hb dX9_read_164 rfl (lv_at hl 1 rfl) ?_
        refine gM_Mod_row X hP kw687 dX9_read_165 ?_
        refine lv_iload_n hx hb dX9_read_168 rfl (lv_at hl 2 rfl) ?_
        obtain ⟨b21, hf⟩ := ck_e hf
        refine lM_row X hP b21 dX9_read_169 ?_
        refine lv_topi (fun y22 ey22 => ?_)
        have hf := bd_x ey22 hf
        obtain ⟨b23, hf⟩ := ck_e hf
        refine lM_arity X hP b23 dX9_read_170 ?_
        refine lv_topi (fun y24 ey24 => ?_)
        have hf := bd_x ey24 hf
        refine lv_iconst (v := 1) hx hb dX9_read_171 (by decide) ?_
        refine lv_isub hx hb dX9_read_172 ?_
        refine lv_topi (fun y25 ey25 => ?_)
        have hf := bd_x ey25 hf
        refine lv_istore (lv' := [(4, .int y25), (3, .int y4), (0, .ref (ad 0)), (2, .int x2)]) hx hb dX9_read_173 hl (by decide) rfl (fun ls hl => ?_)
        exact t_X9_read_175 X ih 5000 x2 y4 y25 s20 _ _ _ hf hP hD hS (lv_sub hl [2, 3, 1, 0] rfl)
      · have hf := it_f c11 hf
        refine lv_goto (tgt := 214) hx hb dX9_read_136 (by decide) ?_
        exact t_X9_read_214 X ih hf hP hD hS (lv_sub hl [1, 2] rfl)
set_option maxHeartbeats 4000000 in
set_option maxRecDepth 100000 in
theorem t_X9_read_85  (X : Fx p s m meth c D cA A RX9 cX9_read 5 none)  { σ : St} {H : Heap} {locs : List Loc} {ls : Array Slot} (hf : F_X9_read_85 σ = some (r, σ')) (hP : va_P D vwCl (wM cA ad ta σ) H) (hD : va_D A (wM cA ad ta σ)) (hS : va_S A s.heap H locs) (hl : lv_has ls 5 [(0, .ref (ad 0))]) : W p l e (rm_X9_read) s m args below meth c H locs 0 0 (MQ below (QV D cA A (wM cA ad) σ' ta) args s 0 0 A) (F0 m 85 ls []) := by
  obtain ⟨hx, hb, hr, hml, hown, hlk, hE, hK, hA⟩ := id X
  rw [F_X9_read_85] at hf
  refine lv_iconst (v := 0) hx hb dX9_read_85 (by decide) ?_
  refine lv_istore_n (lv' := [(2, .int 0), (0, .ref (ad 0))]) hx hb dX9_read_86 rfl hl (by decide) rfl (fun ls hl => ?_)
  exact t_X9_read_87 X  5000 0 σ _ _ _ hf hP hD hS (lv_sub hl [1, 0] rfl)
set_option maxHeartbeats 4000000 in
set_option maxRecDepth 100000 in
theorem t_X9_read_53  (X : Fx p s m meth c D cA A RX9 cX9_read 5 none)  : ∀ (n : Nat) (x1 x2 : Int32) (σ : St) (H : Heap) (locs : List Loc) (ls : Array Slot), F_X9_read_53 n x1 x2 σ = some (r, σ') → va_P D vwCl (wM cA ad ta σ) H → va_D A (wM cA ad ta σ) → va_S A s.heap H locs → lv_has ls 5 [(0, .ref (ad 0)), (1, .int x1), (2, .int x2)] → W p l e (rm_X9_read) s m args below meth c H locs 0 0 (MQ below (QV D cA A (wM cA ad) σ' ta) args s 0 0 A) (F0 m 53 ls []) := by
  obtain ⟨hx, hb, hr, hml, hown, hlk, hE, hK, hA⟩ := id X
  intro n
  induction n with
  | zero =>
    intro x1 x2 σ H locs ls hf
    cases (show (none : Rs) = some _ from hf)
  | succ n ih =>
    intro x1 x2 σ H locs ls hf hP hD hS hl
    rw [F_X9_read_53] at hf
    refine lv_iload_n hx hb dX9_read_53 rfl (lv_at hl 2 rfl) ?_
    refine lv_if_lt (tgt := 85) hx hb dX9_read_54 (by decide) (fun c1 => ?_) (fun c1 => ?_)
    · have hf := it_t c1 hf
      exact t_X9_read_85 X  hf hP hD hS (lv_sub hl [0] rfl)
    · have hf := it_f c1 hf
      refine lv_aload_n hx hb dX9_read_57 rfl (lv_at hl 0 rfl) ?_
      refine gM_Mod_wanted X hP kw694 dX9_read_58 ?_
      refine lv_aload_n hx hb dX9_read_61 rfl (lv_at hl 0 rfl) ?_
      refine gM_Mod_wants X hP kw697 dX9_read_62 ?_
      refine lv_iload_n hx hb dX9_read_65 rfl (lv_at hl 1 rfl) ?_
      refine lv_iload_n hx hb dX9_read_66 rfl (lv_at hl 2 rfl) ?_
      refine lv_iadd hx hb dX9_read_67 ?_
      obtain ⟨b2, hf⟩ := ck_e hf
      refine sM_wanted X hP hD hS b2 dX9_read_68 (fun H locs hP hD hS => ?_)
      obtain ⟨s3, es3, hf⟩ := bd_e hf
      rw [← es3] at hP hD
      refine lv_aload_n hx hb dX9_read_69 rfl (lv_at hl 0 rfl) ?_
      refine lv_dup hx hb dX9_read_70 rfl ?_
      refine gM_Mod_wants X hP kw697 dX9_read_71 ?_
      refine lv_iconst (v := 1) hx hb dX9_read_74 (by decide) ?_
      refine lv_iadd hx hb dX9_read_75 ?_
      refine pM_Mod_wants X hP hD hS kw697 dX9_read_76 (fun H locs hP hD hS => ?_)
      obtain ⟨s4, es4, hf⟩ := bd_e hf
      rw [← es4] at hP hD
      refine lv_iinc (v := (x2 + (-1))) (lv' := [(2, .int (x2 + (-1))), (0, .ref (ad 0)), (1, .int x1)]) hx hb dX9_read_79 hl (k := 2) rfl rfl (by decide) rfl (fun ls hl => ?_)
      refine lv_goto (tgt := 53) hx hb dX9_read_82 (by decide) ?_
      exact ih x1 (x2 + (-1)) s4 _ _ _ hf hP hD hS (lv_sub hl [1, 2, 0] rfl)
set_option maxHeartbeats 4000000 in
set_option maxRecDepth 100000 in
theorem t_X9_read_32  (X : Fx p s m meth c D cA A RX9 cX9_read 5 none)  { σ : St} {H : Heap} {locs : List Loc} {ls : Array Slot} (hf : F_X9_read_32 σ = some (r, σ')) (hP : va_P D vwCl (wM cA ad ta σ) H) (hD : va_D A (wM cA ad ta σ)) (hS : va_S A s.heap H locs) (hl : lv_has ls 5 [(0, .ref (ad 0))]) : W p l e (rm_X9_read) s m args below meth c H locs 0 0 (MQ below (QV D cA A (wM cA ad) σ' ta) args s 0 0 A) (F0 m 32 ls []) := by
  obtain ⟨hx, hb, hr, hml, hown, hlk, hE, hK, hA⟩ := id X
  rw [F_X9_read_32] at hf
  refine lv_aload_n hx hb dX9_read_32 rfl (lv_at hl 0 rfl) ?_
  refine lv_aload_n hx hb dX9_read_33 rfl (lv_at hl 0 rfl) ?_
  refine gM_Mod_args X hP kw684 dX9_read_34 ?_
  obtain ⟨r1, s2, h3, hf⟩ := bo_e hf
  refine callV_i X cv_X9_newCells kw944 (c_X9_newCells l D cA A ad ta σ (gF σ 2) r1 s2 h3) ⟨by decide, by decide⟩ ⟨rfl, rfl⟩ hP hD hS (q0 := 0) (ci := 9) rfl rfl rfl rfl hl rfl (Nat.le_of_ble_eq_true rfl) dX9_read_37 ⟨by decide, by decide⟩ (fun H locs hP hD hS => ?_)
  refine lv_istore_n (lv' := [(1, .int r1), (0, .ref (ad 0))]) hx hb dX9_read_40 rfl hl (by decide) rfl (fun ls hl => ?_)
  refine lv_aload_n hx hb dX9_read_41 rfl (lv_at hl 1 rfl) ?_
  refine lv_iconst (v := 0) hx hb dX9_read_42 (by decide) ?_
  refine pM_Mod_wants X hP hD hS kw697 dX9_read_43 (fun H locs hP hD hS => ?_)
  obtain ⟨s4, es4, hf⟩ := bd_e hf
  rw [← es4] at hP hD
  refine lv_aload_n hx hb dX9_read_46 rfl (lv_at hl 1 rfl) ?_
  refine gM_Mod_args X hP kw684 dX9_read_47 ?_
  refine lv_iconst (v := 1) hx hb dX9_read_50 (by decide) ?_
  refine lv_isub hx hb dX9_read_51 ?_
  refine lv_topi (fun y5 ey5 => ?_)
  have hf := bd_x ey5 hf
  refine lv_istore_n (lv' := [(2, .int y5), (1, .int r1), (0, .ref (ad 0))]) hx hb dX9_read_52 rfl hl (by decide) rfl (fun ls hl => ?_)
  exact t_X9_read_53 X  5000 r1 y5 s4 _ _ _ hf hP hD hS (lv_sub hl [2, 1, 0] rfl)
set_option maxHeartbeats 4000000 in
set_option maxRecDepth 100000 in
theorem t_X9_read_13  (X : Fx p s m meth c D cA A RX9 cX9_read 5 none)  : ∀ (n : Nat) (x1 : Int32) (σ : St) (H : Heap) (locs : List Loc) (ls : Array Slot), F_X9_read_13 n x1 σ = some (r, σ') → va_P D vwCl (wM cA ad ta σ) H → va_D A (wM cA ad ta σ) → va_S A s.heap H locs → lv_has ls 5 [(0, .ref (ad 0)), (1, .int x1)] → W p l e (rm_X9_read) s m args below meth c H locs 0 0 (MQ below (QV D cA A (wM cA ad) σ' ta) args s 0 0 A) (F0 m 13 ls []) := by
  obtain ⟨hx, hb, hr, hml, hown, hlk, hE, hK, hA⟩ := id X
  intro n
  induction n with
  | zero =>
    intro x1 σ H locs ls hf
    cases (show (none : Rs) = some _ from hf)
  | succ n ih =>
    intro x1 σ H locs ls hf hP hD hS hl
    rw [F_X9_read_13] at hf
    refine lv_iload_n hx hb dX9_read_13 rfl (lv_at hl 1 rfl) ?_
    refine lv_bipush (v := 8) hx hb dX9_read_14 (by decide) ?_
    refine lv_icmp_ge (tgt := 32) hx hb dX9_read_16 (by decide) (fun c1 => ?_) (fun c1 => ?_)
    · have hf := it_t c1 hf
      exact t_X9_read_32 X  hf hP hD hS (lv_sub hl [0] rfl)
    · have hf := it_f c1 hf
      refine lv_aload_n hx hb dX9_read_19 rfl (lv_at hl 0 rfl) ?_
      refine gM_Mod_became X hP kw721 dX9_read_20 ?_
      refine lv_iload_n hx hb dX9_read_23 rfl (lv_at hl 1 rfl) ?_
      refine lv_iconst (v := -1) hx hb dX9_read_24 (by decide) ?_
      obtain ⟨b2, hf⟩ := ck_e hf
      refine sM_became X hP hD hS b2 dX9_read_25 (fun H locs hP hD hS => ?_)
      obtain ⟨s3, es3, hf⟩ := bd_e hf
      rw [← es3] at hP hD
      refine lv_iinc (v := (x1 + 1)) (lv' := [(1, .int (x1 + 1)), (0, .ref (ad 0))]) hx hb dX9_read_26 hl (k := 1) rfl rfl (by decide) rfl (fun ls hl => ?_)
      refine lv_goto (tgt := 13) hx hb dX9_read_29 (by decide) ?_
      exact ih (x1 + 1) s3 _ _ _ hf hP hD hS (lv_sub hl [1, 0] rfl)
set_option maxHeartbeats 4000000 in
set_option maxRecDepth 100000 in
theorem t_X9_read_0  (X : Fx p s m meth c D cA A RX9 cX9_read 5 none)  { σ : St} {H : Heap} {locs : List Loc} {ls : Array Slot} (hf : F_X9_read σ = some (r, σ')) (hP : va_P D vwCl (wM cA ad ta σ) H) (hD : va_D A (wM cA ad ta σ)) (hS : va_S A s.heap H locs) (hl : lv_has ls 5 [(0, .ref (ad 0))]) : W p l e (rm_X9_read) s m args below meth c H locs 0 0 (MQ below (QV D cA A (wM cA ad) σ' ta) args s 0 0 A) (F0 m 0 ls []) := by
  obtain ⟨hx, hb, hr, hml, hown, hlk, hE, hK, hA⟩ := id X
  rw [F_X9_read] at hf
  refine lv_aload_n hx hb dX9_read_0 rfl (lv_at hl 0 rfl) ?_
  refine lv_iconst (v := 0) hx hb dX9_read_1 (by decide) ?_
  refine pM_Mod_cells X hP hD hS kw722 dX9_read_2 (fun H locs hP hD hS => ?_)
  obtain ⟨s1, es1, hf⟩ := bd_e hf
  rw [← es1] at hP hD
  refine lv_aload_n hx hb dX9_read_5 rfl (lv_at hl 0 rfl) ?_
  refine lv_bipush (v := 8) hx hb dX9_read_6 (by decide) ?_
  refine pM_Mod_names X hP hD hS kw723 dX9_read_8 (fun H locs hP hD hS => ?_)
  obtain ⟨s2, es2, hf⟩ := bd_e hf
  rw [← es2] at hP hD
  refine lv_iconst (v := 0) hx hb dX9_read_11 (by decide) ?_
  refine lv_istore_n (lv' := [(1, .int 0), (0, .ref (ad 0))]) hx hb dX9_read_12 rfl hl (by decide) rfl (fun ls hl => ?_)
  exact t_X9_read_13 X  5000 0 s2 _ _ _ hf hP hD hS (lv_sub hl [1, 0] rfl)
end S_X9_read
theorem c_X9_read (l : Launch) (D : va_G) (cA : ClassId) (A : Nat → Prop) (ad : Nat → Nat) (ta : Nat) (σ : St) (r : Int32) (σ' : St) (hf : F_X9_read σ = some (r, σ')) : MV l D cA A (wM cA ad) yX9_read cX9_read 5 none rm_X9_read [.ref (ad 0)] ta σ σ' 0 0 := by
  refine enter (by decide) (Nat.le_of_ble_eq_true rfl) ?_
  intro p e s m below meth c ls X hnm hP hD hS hl
  exact t_X9_read_0 X hf hP hD hS hl
abbrev rm_X9_here : Room := { frames := 0, cells := 0, slots := 0, locals := 0 }
def F_X9_here_2  : Nat → Int32 → St → Rs
  | 0, _, _ => none
  | n + 1, x2, σ => ck (inb x2 1200) (bd (gA σ 26 x2.toNatClampNeg) (fun y2 => if 0 ≤ y2 then (some (x2, σ)) else (ck (inb x2 1200) (bd (gA σ 26 x2.toNatClampNeg) (fun y5 => ck (inb ((-1) - y5) 800) (bd (gA σ 28 ((-1) - y5).toNatClampNeg) (fun y7 => if y7 < 0 then (some (x2, σ)) else (ck (inb x2 1200) (bd (gA σ 26 x2.toNatClampNeg) (fun y10 => ck (inb ((-1) - y10) 800) (bd (gA σ 28 ((-1) - y10).toNatClampNeg) (fun y12 => F_X9_here_2 n y12 σ))))))))))))
def F_X9_here (x1 : Int32) (σ : St) : Rs :=
  F_X9_here_2 5000 x1 σ
section S_X9_here
variable {p : Program} {l : Launch} {e : Env} {s : State} {m : MethodId} {args : Array Value} {below : List Frame} {meth : Method} {c : Code}
variable {D : va_G} {cA : ClassId} {A : Nat → Prop} {ad : Nat → Nat} {r : Int32} {σ' : St} {ta : Nat}
set_option maxHeartbeats 4000000 in
set_option maxRecDepth 100000 in
theorem t_X9_here_2  (X : Fx p s m meth c D cA A RX9 cX9_here 3 (some .int))  : ∀ (n : Nat) (x2 : Int32) (σ : St) (H : Heap) (locs : List Loc) (ls : Array Slot), F_X9_here_2 n x2 σ = some (r, σ') → va_P D vwCl (wM cA ad ta σ) H → va_D A (wM cA ad ta σ) → va_S A s.heap H locs → lv_has ls 3 [(0, .ref (ad 0)), (2, .int x2)] → W p l e (rm_X9_here) s m args below meth c H locs 0 0 (MQ below (QI D cA A (wM cA ad) r σ' ta) args s 0 0 A) (F0 m 2 ls []) := by
  obtain ⟨hx, hb, hr, hml, hown, hlk, hE, hK, hA⟩ := id X
  intro n
  induction n with
  | zero =>
    intro x2 σ H locs ls hf
    cases (show (none : Rs) = some _ from hf)
  | succ n ih =>
    intro x2 σ H locs ls hf hP hD hS hl
    rw [F_X9_here_2] at hf
    refine lv_aload_n hx hb dX9_here_2 rfl (lv_at hl 0 rfl) ?_
    refine gM_Mod_cell X hP kw719 dX9_here_3 ?_
    refine lv_iload_n hx hb dX9_here_6 rfl (lv_at hl 1 rfl) ?_
    obtain ⟨b1, hf⟩ := ck_e hf
    refine lM_cell X hP b1 dX9_here_7 ?_
    refine lv_topi (fun y2 ey2 => ?_)
    have hf := bd_x ey2 hf
    refine lv_if_ge (tgt := 44) hx hb dX9_here_8 (by decide) (fun c3 => ?_) (fun c3 => ?_)
    · have hf := it_t c3 hf
      refine lv_iload_n hx hb dX9_here_44 rfl (lv_at hl 1 rfl) ?_
      obtain ⟨rfl, rfl⟩ := Prod.mk.inj (Option.some.inj hf)
      exact ret_i X hP hD hS dX9_here_45
    · have hf := it_f c3 hf
      refine lv_aload_n hx hb dX9_here_11 rfl (lv_at hl 0 rfl) ?_
      refine gM_Mod_became X hP kw721 dX9_here_12 ?_
      refine lv_iconst (v := -1) hx hb dX9_here_15 (by decide) ?_
      refine lv_aload_n hx hb dX9_here_16 rfl (lv_at hl 0 rfl) ?_
      refine gM_Mod_cell X hP kw719 dX9_here_17 ?_
      refine lv_iload_n hx hb dX9_here_20 rfl (lv_at hl 1 rfl) ?_
      obtain ⟨b4, hf⟩ := ck_e hf
      refine lM_cell X hP b4 dX9_here_21 ?_
      refine lv_topi (fun y5 ey5 => ?_)
      have hf := bd_x ey5 hf
      refine lv_isub hx hb dX9_here_22 ?_
      obtain ⟨b6, hf⟩ := ck_e hf
      refine lM_became X hP b6 dX9_here_23 ?_
      refine lv_topi (fun y7 ey7 => ?_)
      have hf := bd_x ey7 hf
      refine lv_if_lt (tgt := 44) hx hb dX9_here_24 (by decide) (fun c8 => ?_) (fun c8 => ?_)
      · have hf := it_t c8 hf
        refine lv_iload_n hx hb dX9_here_44 rfl (lv_at hl 1 rfl) ?_
        obtain ⟨rfl, rfl⟩ := Prod.mk.inj (Option.some.inj hf)
        exact ret_i X hP hD hS dX9_here_45
      · have hf := it_f c8 hf
        refine lv_aload_n hx hb dX9_here_27 rfl (lv_at hl 0 rfl) ?_
        refine gM_Mod_became X hP kw721 dX9_here_28 ?_
        refine lv_iconst (v := -1) hx hb dX9_here_31 (by decide) ?_
        refine lv_aload_n hx hb dX9_here_32 rfl (lv_at hl 0 rfl) ?_
        refine gM_Mod_cell X hP kw719 dX9_here_33 ?_
        refine lv_iload_n hx hb dX9_here_36 rfl (lv_at hl 1 rfl) ?_
        obtain ⟨b9, hf⟩ := ck_e hf
        refine lM_cell X hP b9 dX9_here_37 ?_
        refine lv_topi (fun y10 ey10 => ?_)
        have hf := bd_x ey10 hf
        refine lv_isub hx hb dX9_here_38 ?_
        obtain ⟨b11, hf⟩ := ck_e hf
        refine lM_became X hP b11 dX9_here_39 ?_
        refine lv_topi (fun y12 ey12 => ?_)
        have hf := bd_x ey12 hf
        refine lv_istore_n (lv' := [(2, .int y12), (0, .ref (ad 0))]) hx hb dX9_here_40 rfl hl (by decide) rfl (fun ls hl => ?_)
        refine lv_goto (tgt := 2) hx hb dX9_here_41 (by decide) ?_
        exact ih y12 σ _ _ _ hf hP hD hS (lv_sub hl [1, 0] rfl)
set_option maxHeartbeats 4000000 in
set_option maxRecDepth 100000 in
theorem t_X9_here_0  (X : Fx p s m meth c D cA A RX9 cX9_here 3 (some .int))  {x1 : Int32} { σ : St} {H : Heap} {locs : List Loc} {ls : Array Slot} (hf : F_X9_here x1 σ = some (r, σ')) (hP : va_P D vwCl (wM cA ad ta σ) H) (hD : va_D A (wM cA ad ta σ)) (hS : va_S A s.heap H locs) (hl : lv_has ls 3 [(0, .ref (ad 0)), (1, .int x1)]) : W p l e (rm_X9_here) s m args below meth c H locs 0 0 (MQ below (QI D cA A (wM cA ad) r σ' ta) args s 0 0 A) (F0 m 0 ls []) := by
  obtain ⟨hx, hb, hr, hml, hown, hlk, hE, hK, hA⟩ := id X
  rw [F_X9_here] at hf
  refine lv_iload_n hx hb dX9_here_0 rfl (lv_at hl 1 rfl) ?_
  refine lv_istore_n (lv' := [(2, .int x1), (0, .ref (ad 0)), (1, .int x1)]) hx hb dX9_here_1 rfl hl (by decide) rfl (fun ls hl => ?_)
  exact t_X9_here_2 X  5000 x1 σ _ _ _ hf hP hD hS (lv_sub hl [1, 0] rfl)
end S_X9_here
theorem c_X9_here (l : Launch) (D : va_G) (cA : ClassId) (A : Nat → Prop) (ad : Nat → Nat) (ta : Nat) (σ : St) (x1 : Int32) (r : Int32) (σ' : St) (hf : F_X9_here x1 σ = some (r, σ')) : MI l D cA A (wM cA ad) yX9_here cX9_here 3 (some .int) rm_X9_here [.ref (ad 0), .int x1] ta σ r σ' 0 0 := by
  refine enter (by decide) (Nat.le_of_ble_eq_true rfl) ?_
  intro p e s m below meth c ls X hnm hP hD hS hl
  exact t_X9_here_0 X hf hP hD hS hl
