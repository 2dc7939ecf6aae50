abbrev rm_X4_addType : Room := { frames := 0, cells := 0, slots := 0, locals := 0 }
def F_X4_addType  (σ : St) : Rs :=
  if (gF σ 1) < 12 then (bd (sF σ 1 ((gF σ 1) + 1)) (fun s2 => some (((gF s2 1) - 1), s2))) else (some ((-1), σ))
section S_X4_addType
variable {p : Program} {l : Launch} {e : Env} {s : State} {m : MethodId} {args : Array Value} {below : List Frame} {meth : Method} {c : Code}
variable {D : va_G} {cA : ClassId} {A : Nat → Prop} {ad : Nat → Nat} {r : Int32} {σ' : St} {ta : Nat}
set_option maxHeartbeats 4000000 in
set_option maxRecDepth 100000 in
theorem t_X4_addType_0  (X : Fx p s m meth c D cA A RX4 cX4_addType 1 (some .int))  { σ : St} {H : Heap} {locs : List Loc} {ls : Array Slot} (hf : F_X4_addType σ = some (r, σ')) (hP : va_P D vwCl (wC cA ad ta σ) H) (hD : va_D A (wC cA ad ta σ)) (hS : va_S A s.heap H locs) (hl : lv_has ls 1 [(0, .ref (ad 1))]) : W p l e (rm_X4_addType) s m args below meth c H locs 0 0 (MQ below (QI D cA A (wC cA ad) r σ' ta) args s 0 0 A) (F0 m 0 ls []) := by
  obtain ⟨hx, hb, hr, hml, hown, hlk, hE, hK, hA⟩ := id X
  rw [F_X4_addType] at hf
  refine lv_aload_n hx hb dX4_addType_0 rfl (lv_at hl 0 rfl) ?_
  refine gC_Sig_types X hP kw31 dX4_addType_1 ?_
  refine lv_bipush (v := 12) hx hb dX4_addType_4 (by decide) ?_
  refine lv_icmp_lt (tgt := 11) hx hb dX4_addType_6 (by decide) (fun c1 => ?_) (fun c1 => ?_)
  · have hf := it_t c1 hf
    refine lv_aload_n hx hb dX4_addType_11 rfl (lv_at hl 0 rfl) ?_
    refine lv_dup hx hb dX4_addType_12 rfl ?_
    refine gC_Sig_types X hP kw31 dX4_addType_13 ?_
    refine lv_iconst (v := 1) hx hb dX4_addType_16 (by decide) ?_
    refine lv_iadd hx hb dX4_addType_17 ?_
    refine pC_Sig_types X hP hD hS kw31 dX4_addType_18 (fun H locs hP hD hS => ?_)
    obtain ⟨s2, es2, hf⟩ := bd_e hf
    rw [← es2] at hP hD
    refine lv_aload_n hx hb dX4_addType_21 rfl (lv_at hl 0 rfl) ?_
    refine gC_Sig_types X hP kw31 dX4_addType_22 ?_
    refine lv_iconst (v := 1) hx hb dX4_addType_25 (by decide) ?_
    refine lv_isub hx hb dX4_addType_26 ?_
    obtain ⟨rfl, rfl⟩ := Prod.mk.inj (Option.some.inj hf)
    exact ret_i X hP hD hS dX4_addType_27
  · have hf := it_f c1 hf
    refine lv_iconst (v := -1) hx hb dX4_addType_9 (by decide) ?_
    obtain ⟨rfl, rfl⟩ := Prod.mk.inj (Option.some.inj hf)
    exact ret_i X hP hD hS dX4_addType_10
end S_X4_addType
theorem c_X4_addType (l : Launch) (D : va_G) (cA : ClassId) (A : Nat → Prop) (ad : Nat → Nat) (ta : Nat) (σ : St) (r : Int32) (σ' : St) (hf : F_X4_addType σ = some (r, σ')) : MI l D cA A (wC cA ad) yX4_addType cX4_addType 1 (some .int) rm_X4_addType [.ref (ad 1)] ta σ r σ' 0 0 := by
  refine enter (by decide) (Nat.le_of_ble_eq_true rfl) ?_
  intro p e s m below meth c ls X hnm hP hD hS hl
  exact t_X4_addType_0 X hf hP hD hS hl
abbrev rm_X4_unpack : Room := { frames := 0, cells := 0, slots := 0, locals := 0 }
def F_X4_unpack (x0 : Int32) (x1 : Int32) (σ : St) : Rs :=
  some (((x0 >>> ((4 * x1) &&& 31)) &&& 15), σ)
section S_X4_unpack
variable {p : Program} {l : Launch} {e : Env} {s : State} {m : MethodId} {args : Array Value} {below : List Frame} {meth : Method} {c : Code}
variable {D : va_G} {cA : ClassId} {A : Nat → Prop} {ad : Nat → Nat} {r : Int32} {σ' : St} {ta : Nat}
set_option maxHeartbeats 4000000 in
set_option maxRecDepth 100000 in
theorem t_X4_unpack_0  (X : Fx p s m meth c D cA A RX4 cX4_unpack 2 (some .int))  {x0 x1 : Int32} { σ : St} {H : Heap} {locs : List Loc} {ls : Array Slot} (hf : F_X4_unpack x0 x1 σ = some (r, σ')) (hP : va_P D vwCl (wC cA ad ta σ) H) (hD : va_D A (wC cA ad ta σ)) (hS : va_S A s.heap H locs) (hl : lv_has ls 2 [(0, .int x0), (1, .int x1)]) : W p l e (rm_X4_unpack) s m args below meth c H locs 0 0 (MQ below (QI D cA A (wC cA ad) r σ' ta) args s 0 0 A) (F0 m 0 ls []) := by
  obtain ⟨hx, hb, hr, hml, hown, hlk, hE, hK, hA⟩ := id X
  rw [F_X4_unpack] at hf
  refine lv_iload_n hx hb dX4_unpack_0 rfl (lv_at hl 0 rfl) ?_
  refine lv_iconst (v := 4) hx hb dX4_unpack_1 (by decide) ?_
  refine lv_iload_n hx hb dX4_unpack_2 rfl (lv_at hl 1 rfl) ?_
  refine lv_imul hx hb dX4_unpack_3 ?_
  refine lv_ishr hx hb dX4_unpack_4 ?_
  refine lv_bipush (v := 15) hx hb dX4_unpack_5 (by decide) ?_
  refine lv_iand hx hb dX4_unpack_7 ?_
  obtain ⟨rfl, rfl⟩ := Prod.mk.inj (Option.some.inj hf)
  exact ret_i X hP hD hS dX4_unpack_8
end S_X4_unpack
theorem c_X4_unpack (l : Launch) (D : va_G) (cA : ClassId) (A : Nat → Prop) (ad : Nat → Nat) (ta : Nat) (σ : St) (x0 x1 : Int32) (r : Int32) (σ' : St) (hf : F_X4_unpack x0 x1 σ = some (r, σ')) : MI l D cA A (wC cA ad) yX4_unpack cX4_unpack 2 (some .int) rm_X4_unpack [.int x0, .int x1] ta σ r σ' 0 0 := by
  refine enter (by decide) (Nat.le_of_ble_eq_true rfl) ?_
  intro p e s m below meth c ls X hnm hP hD hS hl
  exact t_X4_unpack_0 X hf hP hD hS hl
abbrev rm_X4_areTypes : Room := { frames := 1, cells := 0, slots := 0, locals := 21 }
def F_X4_areTypes_2  : Nat → Int32 → Int32 → Int32 → St → Rs
  | 0, _, _, _, _ => none
  | n + 1, x1, x2, x3, σ => if x1 ≤ x3 then (ck (isB 1) (some (1, σ))) else (bo (F_X4_unpack x2 x3 σ) (fun r3 s4 => if r3 < (gF s4 1) then (F_X4_areTypes_2 n x1 x2 (x3 + 1) s4) else (ck (isB 0) (some (0, s4)))))
def F_X4_areTypes (x1 : Int32) (x2 : Int32) (σ : St) : Rs :=
  F_X4_areTypes_2 5000 x1 x2 0 σ
section S_X4_areTypes
variable {p : Program} {l : Launch} {e : Env} {s : State} {m : MethodId} {args : Array Value} {below : List Frame} {meth : Method} {c : Code}
variable {D : va_G} {cA : ClassId} {A : Nat → Prop} {ad : Nat → Nat} {r : Int32} {σ' : St} {ta : Nat}
set_option maxHeartbeats 4000000 in
set_option maxRecDepth 100000 in
theorem t_X4_areTypes_2  (X : Fx p s m meth c D cA A RX4 cX4_areTypes 4 (some .boolean))  : ∀ (n : Nat) (x1 x2 x3 : Int32) (σ : St) (H : Heap) (locs : List Loc) (ls : Array Slot), F_X4_areTypes_2 n x1 x2 x3 σ = some (r, σ') → va_P D vwCl (wC cA ad ta σ) H → va_D A (wC cA ad ta σ) → va_S A s.heap H locs → lv_has ls 4 [(0, .ref (ad 1)), (1, .int x1), (2, .int x2), (3, .int x3)] → W p l e (rm_X4_areTypes) s m args below meth c H locs 0 0 (MQ below (QI D cA A (wC cA ad) r σ' ta) args s 0 0 A) (F0 m 2 ls []) := by
  obtain ⟨hx, hb, hr, hml, hown, hlk, hE, hK, hA⟩ := id X
  intro n
  induction n with
  | zero =>
    intro x1 x2 x3 σ H locs ls hf
    cases (show (none : Rs) = some _ from hf)
  | succ n ih =>
    intro x1 x2 x3 σ H locs ls hf hP hD hS hl
    rw [F_X4_areTypes_2] at hf
    refine lv_iload_n hx hb dX4_areTypes_2 rfl (lv_at hl 3 rfl) ?_
    refine lv_iload_n hx hb dX4_areTypes_3 rfl (lv_at hl 1 rfl) ?_
    refine lv_icmp_ge (tgt := 27) hx hb dX4_areTypes_4 (by decide) (fun c1 => ?_) (fun c1 => ?_)
    · have hf := it_t c1 hf
      refine lv_iconst (v := 1) hx hb dX4_areTypes_27 (by decide) ?_
      obtain ⟨b2, hf⟩ := ck_e hf
      obtain ⟨rfl, rfl⟩ := Prod.mk.inj (Option.some.inj hf)
      exact ret_z X b2 hP hD hS dX4_areTypes_28
    · have hf := it_f c1 hf
      refine lv_iload_n hx hb dX4_areTypes_7 rfl (lv_at hl 2 rfl) ?_
      refine lv_iload_n hx hb dX4_areTypes_8 rfl (lv_at hl 3 rfl) ?_
      obtain ⟨r3, s4, h5, hf⟩ := bo_e hf
      refine callS_i X cs_X4_unpack kw343 (c_X4_unpack l D cA A ad ta σ x2 x3 r3 s4 h5) ⟨by decide, by decide⟩ ⟨rfl, rfl⟩ hP hD hS rfl hl rfl (Nat.le_of_ble_eq_true rfl) dX4_areTypes_9 ⟨by decide, by decide⟩ (fun H locs hP hD hS => ?_)
      refine lv_aload_n hx hb dX4_areTypes_12 rfl (lv_at hl 0 rfl) ?_
      refine gC_Sig_types X hP kw31 dX4_areTypes_13 ?_
      refine lv_icmp_lt (tgt := 21) hx hb dX4_areTypes_16 (by decide) (fun c6 => ?_) (fun c6 => ?_)
      · have hf := it_t c6 hf
        refine lv_iinc (v := (x3 + 1)) (lv' := [(3, .int (x3 + 1)), (0, .ref (ad 1)), (1, .int x1), (2, .int x2)]) hx hb dX4_areTypes_21 hl (k := 3) rfl rfl (by decide) rfl (fun ls hl => ?_)
        refine lv_goto (tgt := 2) hx hb dX4_areTypes_24 (by decide) ?_
        exact ih x1 x2 (x3 + 1) s4 _ _ _ hf hP hD hS (lv_sub hl [1, 2, 3, 0] rfl)
      · have hf := it_f c6 hf
        refine lv_iconst (v := 0) hx hb dX4_areTypes_19 (by decide) ?_
        obtain ⟨b7, hf⟩ := ck_e hf
        obtain ⟨rfl, rfl⟩ := Prod.mk.inj (Option.some.inj hf)
        exact ret_z X b7 hP hD hS dX4_areTypes_20
set_option maxHeartbeats 4000000 in
set_option maxRecDepth 100000 in
theorem t_X4_areTypes_0  (X : Fx p s m meth c D cA A RX4 cX4_areTypes 4 (some .boolean))  {x1 x2 : Int32} { σ : St} {H : Heap} {locs : List Loc} {ls : Array Slot} (hf : F_X4_areTypes x1 x2 σ = some (r, σ')) (hP : va_P D vwCl (wC cA ad ta σ) H) (hD : va_D A (wC cA ad ta σ)) (hS : va_S A s.heap H locs) (hl : lv_has ls 4 [(0, .ref (ad 1)), (1, .int x1), (2, .int x2)]) : W p l e (rm_X4_areTypes) s m args below meth c H locs 0 0 (MQ below (QI D cA A (wC cA ad) r σ' ta) args s 0 0 A) (F0 m 0 ls []) := by
  obtain ⟨hx, hb, hr, hml, hown, hlk, hE, hK, hA⟩ := id X
  rw [F_X4_areTypes] at hf
  refine lv_iconst (v := 0) hx hb dX4_areTypes_0 (by decide) ?_
  refine lv_istore_n (lv' := [(3, .int 0), (0, .ref (ad 1)), (1, .int x1), (2, .int x2)]) hx hb dX4_areTypes_1 rfl hl (by decide) rfl (fun ls hl => ?_)
  exact t_X4_areTypes_2 X  5000 x1 x2 0 σ _ _ _ hf hP hD hS (lv_sub hl [1, 2, 3, 0] rfl)
end S_X4_areTypes
theorem c_X4_areTypes (l : Launch) (D : va_G) (cA : ClassId) (A : Nat → Prop) (ad : Nat → Nat) (ta : Nat) (σ : St) (x1 x2 : Int32) (r : Int32) (σ' : St) (hf : F_X4_areTypes x1 x2 σ = some (r, σ')) : MI l D cA A (wC cA ad) yX4_areTypes cX4_areTypes 4 (some .boolean) rm_X4_areTypes [.ref (ad 1), .int x1, .int x2] ta σ r σ' 0 0 := by
  refine enter (by decide) (Nat.le_of_ble_eq_true rfl) ?_
  intro p e s m below meth c ls X hnm hP hD hS hl
  exact t_X4_areTypes_0 X hf hP hD hS hl
abbrev rm_X4_addConstructor : Room := { frames := 2, cells := 0, slots := 0, locals := 44 }
def F_X4_addConstructor (x1 : Int32) (x2 : Int32) (x3 : Int32) (σ : St) : Rs :=
  if x1 < 0 then (some ((-1), σ)) else (if (gF σ 1) ≤ x1 then (some ((-1), σ)) else (if (gF σ 2) < 60 then (if x2 < 0 then (some ((-1), σ)) else (if 4 < x2 then (some ((-1), σ)) else (bo (F_X4_areTypes x2 x3 σ) (fun r6 s7 => if r6 = 0 then (some ((-1), s7)) else (bd (sA s7 9 (wr 60 (gA s7 9) (gF s7 2) x1)) (fun s10 => bd (sA s10 10 (wr 60 (gA s10 10) (gF s10 2) x2)) (fun s11 => bd (sA s11 11 (wr 60 (gA s11 11) (gF s11 2) x3)) (fun s12 => bd (sF s12 2 ((gF s12 2) + 1)) (fun s13 => some (((gF s13 2) - 1), s13)))))))))) else (some ((-1), σ))))
section S_X4_addConstructor
variable {p : Program} {l : Launch} {e : Env} {s : State} {m : MethodId} {args : Array Value} {below : List Frame} {meth : Method} {c : Code}
variable {D : va_G} {cA : ClassId} {A : Nat → Prop} {ad : Nat → Nat} {r : Int32} {σ' : St} {ta : Nat}
set_option maxHeartbeats 4000000 in
set_option maxRecDepth 100000 in
theorem t_X4_addConstructor_0  (X : Fx p s m meth c D cA A RX4 cX4_addConstructor 4 (some .int))  {x1 x2 x3 : Int32} { σ : St} {H : Heap} {locs : List Loc} {ls : Array Slot} (hf : F_X4_addConstructor x1 x2 x3 σ = some (r, σ')) (hP : va_P D vwCl (wC cA ad ta σ) H) (hD : va_D A (wC cA ad ta σ)) (hS : va_S A s.heap H locs) (hl : lv_has ls 4 [(0, .ref (ad 1)), (1, .int x1), (2, .int x2), (3, .int x3)]) : W p l e (rm_X4_addConstructor) s m args below meth c H locs 0 0 (MQ below (QI D cA A (wC cA ad) r σ' ta) args s 0 0 A) (F0 m 0 ls []) := by
  obtain ⟨hx, hb, hr, hml, hown, hlk, hE, hK, hA⟩ := id X
  rw [F_X4_addConstructor] at hf
  refine lv_iload_n hx hb dX4_addConstructor_0 rfl (lv_at hl 1 rfl) ?_
  refine lv_if_lt (tgt := 21) hx hb dX4_addConstructor_1 (by decide) (fun c1 => ?_) (fun c1 => ?_)
  · have hf := it_t c1 hf
    refine lv_iconst (v := -1) hx hb dX4_addConstructor_21 (by decide) ?_
    obtain ⟨rfl, rfl⟩ := Prod.mk.inj (Option.some.inj hf)
    exact ret_i X hP hD hS dX4_addConstructor_22
  · have hf := it_f c1 hf
    refine lv_iload_n hx hb dX4_addConstructor_4 rfl (lv_at hl 1 rfl) ?_
    refine lv_aload_n hx hb dX4_addConstructor_5 rfl (lv_at hl 0 rfl) ?_
    refine gC_Sig_types X hP kw31 dX4_addConstructor_6 ?_
    refine lv_icmp_ge (tgt := 21) hx hb dX4_addConstructor_9 (by decide) (fun c2 => ?_) (fun c2 => ?_)
    · have hf := it_t c2 hf
      refine lv_iconst (v := -1) hx hb dX4_addConstructor_21 (by decide) ?_
      obtain ⟨rfl, rfl⟩ := Prod.mk.inj (Option.some.inj hf)
      exact ret_i X hP hD hS dX4_addConstructor_22
    · have hf := it_f c2 hf
      refine lv_aload_n hx hb dX4_addConstructor_12 rfl (lv_at hl 0 rfl) ?_
      refine gC_Sig_made X hP kw33 dX4_addConstructor_13 ?_
      refine lv_bipush (v := 60) hx hb dX4_addConstructor_16 (by decide) ?_
      refine lv_icmp_lt (tgt := 23) hx hb dX4_addConstructor_18 (by decide) (fun c3 => ?_) (fun c3 => ?_)
      · have hf := it_t c3 hf
        refine lv_iload_n hx hb dX4_addConstructor_23 rfl (lv_at hl 2 rfl) ?_
        refine lv_if_lt (tgt := 41) hx hb dX4_addConstructor_24 (by decide) (fun c4 => ?_) (fun c4 => ?_)
        · have hf := it_t c4 hf
          refine lv_iconst (v := -1) hx hb dX4_addConstructor_41 (by decide) ?_
          obtain ⟨rfl, rfl⟩ := Prod.mk.inj (Option.some.inj hf)
          exact ret_i X hP hD hS dX4_addConstructor_42
        · have hf := it_f c4 hf
          refine lv_iload_n hx hb dX4_addConstructor_27 rfl (lv_at hl 2 rfl) ?_
          refine lv_iconst (v := 4) hx hb dX4_addConstructor_28 (by decide) ?_
          refine lv_icmp_gt (tgt := 41) hx hb dX4_addConstructor_29 (by decide) (fun c5 => ?_) (fun c5 => ?_)
          · have hf := it_t c5 hf
            refine lv_iconst (v := -1) hx hb dX4_addConstructor_41 (by decide) ?_
            obtain ⟨rfl, rfl⟩ := Prod.mk.inj (Option.some.inj hf)
            exact ret_i X hP hD hS dX4_addConstructor_42
          · have hf := it_f c5 hf
            refine lv_aload_n hx hb dX4_addConstructor_32 rfl (lv_at hl 0 rfl) ?_
            refine lv_iload_n hx hb dX4_addConstructor_33 rfl (lv_at hl 2 rfl) ?_
            refine lv_iload_n hx hb dX4_addConstructor_34 rfl (lv_at hl 3 rfl) ?_
            obtain ⟨r6, s7, h8, hf⟩ := bo_e hf
            refine callV_i X cv_X4_areTypes kw339 (c_X4_areTypes l D cA A ad ta σ x2 x3 r6 s7 h8) ⟨by decide, by decide⟩ ⟨rfl, rfl⟩ hP hD hS (q0 := 1) (ci := 4) rfl rfl rfl rfl hl rfl (Nat.le_of_ble_eq_true rfl) dX4_addConstructor_35 ⟨by decide, by decide⟩ (fun H locs hP hD hS => ?_)
            refine lv_if_ne (tgt := 43) hx hb dX4_addConstructor_38 (by decide) (fun c9 => ?_) (fun c9 => ?_)
            · have hf := it_f c9 hf
              refine lv_aload_n hx hb dX4_addConstructor_43 rfl (lv_at hl 0 rfl) ?_
              refine gC_Sig_ownTypes X hP kw28 dX4_addConstructor_44 ?_
              refine lv_aload_n hx hb dX4_addConstructor_47 rfl (lv_at hl 0 rfl) ?_
              refine gC_Sig_made X hP kw33 dX4_addConstructor_48 ?_
              refine lv_iload_n hx hb dX4_addConstructor_51 rfl (lv_at hl 1 rfl) ?_
              refine callSN_v X cs_X8_set kw346 (c_set l D cA A (wC cA ad) ta s7 9 (ad 9) 60 9 (gF s7 2) x1 (by decide) rfl (fun f => wC_a9 f)) ⟨by decide, by decide⟩ ⟨rfl, rfl⟩ hP hD hS rfl hl rfl (Nat.le_of_ble_eq_true rfl) dX4_addConstructor_52 ⟨by decide, by decide⟩ (fun H locs hP hD hS => ?_)
              obtain ⟨s10, es10, hf⟩ := bd_e hf
              rw [← es10] at hP hD
              refine lv_aload_n hx hb dX4_addConstructor_55 rfl (lv_at hl 0 rfl) ?_
              refine gC_Sig_arities X hP kw29 dX4_addConstructor_56 ?_
              refine lv_aload_n hx hb dX4_addConstructor_59 rfl (lv_at hl 0 rfl) ?_
              refine gC_Sig_made X hP kw33 dX4_addConstructor_60 ?_
              refine lv_iload_n hx hb dX4_addConstructor_63 rfl (lv_at hl 2 rfl) ?_
              refine callSN_v X cs_X8_set kw346 (c_set l D cA A (wC cA ad) ta s10 10 (ad 10) 60 10 (gF s10 2) x2 (by decide) rfl (fun f => wC_a10 f)) ⟨by decide, by decide⟩ ⟨rfl, rfl⟩ hP hD hS rfl hl rfl (Nat.le_of_ble_eq_true rfl) dX4_addConstructor_64 ⟨by decide, by decide⟩ (fun H locs hP hD hS => ?_)
              obtain ⟨s11, es11, hf⟩ := bd_e hf
              rw [← es11] at hP hD
              refine lv_aload_n hx hb dX4_addConstructor_67 rfl (lv_at hl 0 rfl) ?_
              refine gC_Sig_partTypes X hP kw30 dX4_addConstructor_68 ?_
              refine lv_aload_n hx hb dX4_addConstructor_71 rfl (lv_at hl 0 rfl) ?_
              refine gC_Sig_made X hP kw33 dX4_addConstructor_72 ?_
              refine lv_iload_n hx hb dX4_addConstructor_75 rfl (lv_at hl 3 rfl) ?_
              refine callSN_v X cs_X8_set kw346 (c_set l D cA A (wC cA ad) ta s11 11 (ad 11) 60 11 (gF s11 2) x3 (by decide) rfl (fun f => wC_a11 f)) ⟨by decide, by decide⟩ ⟨rfl, rfl⟩ hP hD hS rfl hl rfl (Nat.le_of_ble_eq_true rfl) dX4_addConstructor_76 ⟨by decide, by decide⟩ (fun H locs hP hD hS => ?_)
              obtain ⟨s12, es12, hf⟩ := bd_e hf
              rw [← es12] at hP hD
              refine lv_aload_n hx hb dX4_addConstructor_79 rfl (lv_at hl 0 rfl) ?_
              refine lv_dup hx hb dX4_addConstructor_80 rfl ?_
              refine gC_Sig_made X hP kw33 dX4_addConstructor_81 ?_
              refine lv_iconst (v := 1) hx hb dX4_addConstructor_84 (by decide) ?_
              refine lv_iadd hx hb dX4_addConstructor_85 ?_
              refine pC_Sig_made X hP hD hS kw33 dX4_addConstructor_86 (fun H locs hP hD hS => ?_)
              obtain ⟨s13, es13, hf⟩ := bd_e hf
              rw [← es13] at hP hD
              refine lv_aload_n hx hb dX4_addConstructor_89 rfl (lv_at hl 0 rfl) ?_
              refine gC_Sig_made X hP kw33 dX4_addConstructor_90 ?_
              refine lv_iconst (v := 1) hx hb dX4_addConstructor_93 (by decide) ?_
              refine lv_isub hx hb dX4_addConstructor_94 ?_
              obtain ⟨rfl, rfl⟩ := Prod.mk.inj (Option.some.inj hf)
              exact ret_i X hP hD hS dX4_addConstructor_95
            · have hf := it_t c9 hf
              refine lv_iconst (v := -1) hx hb dX4_addConstructor_41 (by decide) ?_
              obtain ⟨rfl, rfl⟩ := Prod.mk.inj (Option.some.inj hf)
              exact ret_i X hP hD hS dX4_addConstructor_42
      · have hf := it_f c3 hf
        refine lv_iconst (v := -1) hx hb dX4_addConstructor_21 (by decide) ?_
        obtain ⟨rfl, rfl⟩ := Prod.mk.inj (Option.some.inj hf)
        exact ret_i X hP hD hS dX4_addConstructor_22
end S_X4_addConstructor
theorem c_X4_addConstructor (l : Launch) (D : va_G) (cA : ClassId) (A : Nat → Prop) (ad : Nat → Nat) (ta : Nat) (σ : St) (x1 x2 x3 : Int32) (r : Int32) (σ' : St) (hf : F_X4_addConstructor x1 x2 x3 σ = some (r, σ')) : MI l D cA A (wC cA ad) yX4_addConstructor cX4_addConstructor 4 (some .int) rm_X4_addConstructor [.ref (ad 1), .int x1, .int x2, .int x3] ta σ r σ' 0 0 := by
  refine enter (by decide) (Nat.le_of_ble_eq_true rfl) ?_
  intro p e s m below meth c ls X hnm hP hD hS hl
  exact t_X4_addConstructor_0 X hf hP hD hS hl
abbrev rm_X4_setFunction : Room := { frames := 2, cells := 0, slots := 0, locals := 44 }
def F_X4_setFunction (x1 : Int32) (x2 : Int32) (σ : St) : Rs :=
  if x1 < 0 then (ck (isB 0) (some (0, σ))) else (if 6 < x1 then (ck (isB 0) (some (0, σ))) else (bo (F_X4_areTypes x1 x2 σ) (fun r5 s6 => if r5 = 0 then (ck (isB 0) (some (0, s6))) else (bd (sF s6 3 x1) (fun s9 => bd (sF s9 4 x2) (fun s10 => ck (isB 1) (some (1, s10))))))))
section S_X4_setFunction
variable {p : Program} {l : Launch} {e : Env} {s : State} {m : MethodId} {args : Array Value} {below : List Frame} {meth : Method} {c : Code}
variable {D : va_G} {cA : ClassId} {A : Nat → Prop} {ad : Nat → Nat} {r : Int32} {σ' : St} {ta : Nat}
set_option maxHeartbeats 4000000 in
set_option maxRecDepth 100000 in
theorem t_X4_setFunction_0  (X : Fx p s m meth c D cA A RX4 cX4_setFunction 3 (some .boolean))  {x1 x2 : Int32} { σ : St} {H : Heap} {locs : List Loc} {ls : Array Slot} (hf : F_X4_setFunction x1 x2 σ = some (r, σ')) (hP : va_P D vwCl (wC cA ad ta σ) H) (hD : va_D A (wC cA ad ta σ)) (hS : va_S A s.heap H locs) (hl : lv_has ls 3 [(0, .ref (ad 1)), (1, .int x1), (2, .int x2)]) : W p l e (rm_X4_setFunction) s m args below meth c H locs 0 0 (MQ below (QI D cA A (wC cA ad) r σ' ta) args s 0 0 A) (F0 m 0 ls []) := by
  obtain ⟨hx, hb, hr, hml, hown, hlk, hE, hK, hA⟩ := id X
  rw [F_X4_setFunction] at hf
  refine lv_iload_n hx hb dX4_setFunction_0 rfl (lv_at hl 1 rfl) ?_
  refine lv_if_lt (tgt := 19) hx hb dX4_setFunction_1 (by decide) (fun c1 => ?_) (fun c1 => ?_)
  · have hf := it_t c1 hf
    refine lv_iconst (v := 0) hx hb dX4_setFunction_19 (by decide) ?_
    obtain ⟨b2, hf⟩ := ck_e hf
    obtain ⟨rfl, rfl⟩ := Prod.mk.inj (Option.some.inj hf)
    exact ret_z X b2 hP hD hS dX4_setFunction_20
  · have hf := it_f c1 hf
    refine lv_iload_n hx hb dX4_setFunction_4 rfl (lv_at hl 1 rfl) ?_
    refine lv_bipush (v := 6) hx hb dX4_setFunction_5 (by decide) ?_
    refine lv_icmp_gt (tgt := 19) hx hb dX4_setFunction_7 (by decide) (fun c3 => ?_) (fun c3 => ?_)
    · have hf := it_t c3 hf
      refine lv_iconst (v := 0) hx hb dX4_setFunction_19 (by decide) ?_
      obtain ⟨b4, hf⟩ := ck_e hf
      obtain ⟨rfl, rfl⟩ := Prod.mk.inj (Option.some.inj hf)
      exact ret_z X b4 hP hD hS dX4_setFunction_20
    · have hf := it_f c3 hf
      refine lv_aload_n hx hb dX4_setFunction_10 rfl (lv_at hl 0 rfl) ?_
      refine lv_iload_n hx hb dX4_setFunction_11 rfl (lv_at hl 1 rfl) ?_
      refine lv_iload_n hx hb dX4_setFunction_12 rfl (lv_at hl 2 rfl) ?_
      obtain ⟨r5, s6, h7, hf⟩ := bo_e hf
      refine callV_i X cv_X4_areTypes kw339 (c_X4_areTypes l D cA A ad ta σ x1 x2 r5 s6 h7) ⟨by decide, by decide⟩ ⟨rfl, rfl⟩ hP hD hS (q0 := 1) (ci := 4) rfl rfl rfl rfl hl rfl (Nat.le_of_ble_eq_true rfl) dX4_setFunction_13 ⟨by decide, by decide⟩ (fun H locs hP hD hS => ?_)
      refine lv_if_ne (tgt := 21) hx hb dX4_setFunction_16 (by decide) (fun c8 => ?_) (fun c8 => ?_)
      · have hf := it_f c8 hf
        refine lv_aload_n hx hb dX4_setFunction_21 rfl (lv_at hl 0 rfl) ?_
        refine lv_iload_n hx hb dX4_setFunction_22 rfl (lv_at hl 1 rfl) ?_
        refine pC_Sig_arguments X hP hD hS kw35 dX4_setFunction_23 (fun H locs hP hD hS => ?_)
        obtain ⟨s9, es9, hf⟩ := bd_e hf
        rw [← es9] at hP hD
        refine lv_aload_n hx hb dX4_setFunction_26 rfl (lv_at hl 0 rfl) ?_
        refine lv_iload_n hx hb dX4_setFunction_27 rfl (lv_at hl 2 rfl) ?_
        refine pC_Sig_argumentTypes X hP hD hS kw37 dX4_setFunction_28 (fun H locs hP hD hS => ?_)
        obtain ⟨s10, es10, hf⟩ := bd_e hf
        rw [← es10] at hP hD
        refine lv_iconst (v := 1) hx hb dX4_setFunction_31 (by decide) ?_
        obtain ⟨b11, hf⟩ := ck_e hf
        obtain ⟨rfl, rfl⟩ := Prod.mk.inj (Option.some.inj hf)
        exact ret_z X b11 hP hD hS dX4_setFunction_32
      · have hf := it_t c8 hf
        refine lv_iconst (v := 0) hx hb dX4_setFunction_19 (by decide) ?_
        obtain ⟨b12, hf⟩ := ck_e hf
        obtain ⟨rfl, rfl⟩ := Prod.mk.inj (Option.some.inj hf)
        exact ret_z X b12 hP hD hS dX4_setFunction_20
end S_X4_setFunction
theorem c_X4_setFunction (l : Launch) (D : va_G) (cA : ClassId) (A : Nat → Prop) (ad : Nat → Nat) (ta : Nat) (σ : St) (x1 x2 : Int32) (r : Int32) (σ' : St) (hf : F_X4_setFunction x1 x2 σ = some (r, σ')) : MI l D cA A (wC cA ad) yX4_setFunction cX4_setFunction 3 (some .boolean) rm_X4_setFunction [.ref (ad 1), .int x1, .int x2] ta σ r σ' 0 0 := by
  refine enter (by decide) (Nat.le_of_ble_eq_true rfl) ?_
  intro p e s m below meth c ls X hnm hP hD hS hl
  exact t_X4_setFunction_0 X hf hP hD hS hl
abbrev rm_X4_hasFunction : Room := { frames := 0, cells := 0, slots := 0, locals := 0 }
def F_X4_hasFunction  (σ : St) : Rs :=
  if (gF σ 3) = (-1) then (ck (isB 0) (some (0, σ))) else (ck (isB 1) (some (1, σ)))
section S_X4_hasFunction
variable {p : Program} {l : Launch} {e : Env} {s : State} {m : MethodId} {args : Array Value} {below : List Frame} {meth : Method} {c : Code}
variable {D : va_G} {cA : ClassId} {A : Nat → Prop} {ad : Nat → Nat} {r : Int32} {σ' : St} {ta : Nat}
set_option maxHeartbeats 4000000 in
set_option maxRecDepth 100000 in
theorem t_X4_hasFunction_0  (X : Fx p s m meth c D cA A RX4 cX4_hasFunction 1 (some .boolean))  { σ : St} {H : Heap} {locs : List Loc} {ls : Array Slot} (hf : F_X4_hasFunction σ = some (r, σ')) (hP : va_P D vwCl (wC cA ad ta σ) H) (hD : va_D A (wC cA ad ta σ)) (hS : va_S A s.heap H locs) (hl : lv_has ls 1 [(0, .ref (ad 1))]) : W p l e (rm_X4_hasFunction) s m args below meth c H locs 0 0 (MQ below (QI D cA A (wC cA ad) r σ' ta) args s 0 0 A) (F0 m 0 ls []) := by
  obtain ⟨hx, hb, hr, hml, hown, hlk, hE, hK, hA⟩ := id X
  rw [F_X4_hasFunction] at hf
  refine lv_aload_n hx hb dX4_hasFunction_0 rfl (lv_at hl 0 rfl) ?_
  refine gC_Sig_arguments X hP kw35 dX4_hasFunction_1 ?_
  refine lv_iconst (v := -1) hx hb dX4_hasFunction_4 (by decide) ?_
  refine lv_icmp_eq (tgt := 12) hx hb dX4_hasFunction_5 (by decide) (fun c1 => ?_) (fun c1 => ?_)
  · have hf := it_t c1 hf
    refine lv_iconst (v := 0) hx hb dX4_hasFunction_12 (by decide) ?_
    obtain ⟨b2, hf⟩ := ck_e hf
    obtain ⟨rfl, rfl⟩ := Prod.mk.inj (Option.some.inj hf)
    exact ret_z X b2 hP hD hS dX4_hasFunction_13
  · have hf := it_f c1 hf
    refine lv_iconst (v := 1) hx hb dX4_hasFunction_8 (by decide) ?_
    refine lv_goto (tgt := 13) hx hb dX4_hasFunction_9 (by decide) ?_
    obtain ⟨b3, hf⟩ := ck_e hf
    obtain ⟨rfl, rfl⟩ := Prod.mk.inj (Option.some.inj hf)
    exact ret_z X b3 hP hD hS dX4_hasFunction_13
end S_X4_hasFunction
theorem c_X4_hasFunction (l : Launch) (D : va_G) (cA : ClassId) (A : Nat → Prop) (ad : Nat → Nat) (ta : Nat) (σ : St) (r : Int32) (σ' : St) (hf : F_X4_hasFunction σ = some (r, σ')) : MI l D cA A (wC cA ad) yX4_hasFunction cX4_hasFunction 1 (some .boolean) rm_X4_hasFunction [.ref (ad 1)] ta σ r σ' 0 0 := by
  refine enter (by decide) (Nat.le_of_ble_eq_true rfl) ?_
  intro p e s m below meth c ls X hnm hP hD hS hl
  exact t_X4_hasFunction_0 X hf hP hD hS hl
abbrev rm_X4_typeOf : Room := { frames := 1, cells := 0, slots := 0, locals := 21 }
def F_X4_typeOf (x1 : Int32) (σ : St) : Rs :=
  if (gF σ 2) ≤ x1 then (some ((-1), σ)) else (bd (rd 60 (gA σ 9) x1) (fun y2 => some (y2, σ)))
section S_X4_typeOf
variable {p : Program} {l : Launch} {e : Env} {s : State} {m : MethodId} {args : Array Value} {below : List Frame} {meth : Method} {c : Code}
variable {D : va_G} {cA : ClassId} {A : Nat → Prop} {ad : Nat → Nat} {r : Int32} {σ' : St} {ta : Nat}
set_option maxHeartbeats 4000000 in
set_option maxRecDepth 100000 in
theorem t_X4_typeOf_0  (X : Fx p s m meth c D cA A RX4 cX4_typeOf 2 (some .int))  {x1 : Int32} { σ : St} {H : Heap} {locs : List Loc} {ls : Array Slot} (hf : F_X4_typeOf x1 σ = some (r, σ')) (hP : va_P D vwCl (wC cA ad ta σ) H) (hD : va_D A (wC cA ad ta σ)) (hS : va_S A s.heap H locs) (hl : lv_has ls 2 [(0, .ref (ad 1)), (1, .int x1)]) : W p l e (rm_X4_typeOf) s m args below meth c H locs 0 0 (MQ below (QI D cA A (wC cA ad) r σ' ta) args s 0 0 A) (F0 m 0 ls []) := by
  obtain ⟨hx, hb, hr, hml, hown, hlk, hE, hK, hA⟩ := id X
  rw [F_X4_typeOf] at hf
  refine lv_iload_n hx hb dX4_typeOf_0 rfl (lv_at hl 1 rfl) ?_
  refine lv_aload_n hx hb dX4_typeOf_1 rfl (lv_at hl 0 rfl) ?_
  refine gC_Sig_made X hP kw33 dX4_typeOf_2 ?_
  refine lv_icmp_ge (tgt := 19) hx hb dX4_typeOf_5 (by decide) (fun c1 => ?_) (fun c1 => ?_)
  · have hf := it_t c1 hf
    refine lv_iconst (v := -1) hx hb dX4_typeOf_19 (by decide) ?_
    obtain ⟨rfl, rfl⟩ := Prod.mk.inj (Option.some.inj hf)
    exact ret_i X hP hD hS dX4_typeOf_20
  · have hf := it_f c1 hf
    refine lv_aload_n hx hb dX4_typeOf_8 rfl (lv_at hl 0 rfl) ?_
    refine gC_Sig_ownTypes X hP kw28 dX4_typeOf_9 ?_
    refine lv_iload_n hx hb dX4_typeOf_12 rfl (lv_at hl 1 rfl) ?_
    refine callSN_i X cs_X8_get kw412 (c_get l D cA A (wC cA ad) ta σ 9 (ad 9) 60 (gA σ 9) x1 (by decide) rfl) ⟨by decide, by decide⟩ ⟨rfl, rfl⟩ hP hD hS rfl hl rfl (Nat.le_of_ble_eq_true rfl) dX4_typeOf_13 ⟨by decide, by decide⟩ (fun H locs hP hD hS => ?_)
    refine lv_topi (fun y2 ey2 => ?_)
    have hf := bd_x ey2 hf
    refine lv_goto (tgt := 20) hx hb dX4_typeOf_16 (by decide) ?_
    obtain ⟨rfl, rfl⟩ := Prod.mk.inj (Option.some.inj hf)
    exact ret_i X hP hD hS dX4_typeOf_20
end S_X4_typeOf
theorem c_X4_typeOf (l : Launch) (D : va_G) (cA : ClassId) (A : Nat → Prop) (ad : Nat → Nat) (ta : Nat) (σ : St) (x1 : Int32) (r : Int32) (σ' : St) (hf : F_X4_typeOf x1 σ = some (r, σ')) : MI l D cA A (wC cA ad) yX4_typeOf cX4_typeOf 2 (some .int) rm_X4_typeOf [.ref (ad 1), .int x1] ta σ r σ' 0 0 := by
  refine enter (by decide) (Nat.le_of_ble_eq_true rfl) ?_
  intro p e s m below meth c ls X hnm hP hD hS hl
  exact t_X4_typeOf_0 X hf hP hD hS hl
abbrev rm_X4_parts : Room := { frames := 1, cells := 0, slots := 0, locals := 21 }
def F_X4_parts (x1 : Int32) (σ : St) : Rs :=
  if x1 = (-1) then (some ((gF σ 3), σ)) else (bd (rd 60 (gA σ 10) x1) (fun y2 => some (y2, σ)))
section S_X4_parts
variable {p : Program} {l : Launch} {e : Env} {s : State} {m : MethodId} {args : Array Value} {below : List Frame} {meth : Method} {c : Code}
variable {D : va_G} {cA : ClassId} {A : Nat → Prop} {ad : Nat → Nat} {r : Int32} {σ' : St} {ta : Nat}
set_option maxHeartbeats 4000000 in
set_option maxRecDepth 100000 in
theorem t_X4_parts_0  (X : Fx p s m meth c D cA A RX4 cX4_parts 2 (some .int))  {x1 : Int32} { σ : St} {H : Heap} {locs : List Loc} {ls : Array Slot} (hf : F_X4_parts x1 σ = some (r, σ')) (hP : va_P D vwCl (wC cA ad ta σ) H) (hD : va_D A (wC cA ad ta σ)) (hS : va_S A s.heap H locs) (hl : lv_has ls 2 [(0, .ref (ad 1)), (1, .int x1)]) : W p l e (rm_X4_parts) s m args below meth c H locs 0 0 (MQ below (QI D cA A (wC cA ad) r σ' ta) args s 0 0 A) (F0 m 0 ls []) := by
  obtain ⟨hx, hb, hr, hml, hown, hlk, hE, hK, hA⟩ := id X
  rw [F_X4_parts] at hf
  refine lv_iload_n hx hb dX4_parts_0 rfl (lv_at hl 1 rfl) ?_
  refine lv_iconst (v := -1) hx hb dX4_parts_1 (by decide) ?_
  refine lv_icmp_ne (tgt := 12) hx hb dX4_parts_2 (by decide) (fun c1 => ?_) (fun c1 => ?_)
  · have hf := it_f c1 hf
    refine lv_aload_n hx hb dX4_parts_12 rfl (lv_at hl 0 rfl) ?_
    refine gC_Sig_arities X hP kw29 dX4_parts_13 ?_
    refine lv_iload_n hx hb dX4_parts_16 rfl (lv_at hl 1 rfl) ?_
    refine callSN_i X cs_X8_get kw412 (c_get l D cA A (wC cA ad) ta σ 10 (ad 10) 60 (gA σ 10) x1 (by decide) rfl) ⟨by decide, by decide⟩ ⟨rfl, rfl⟩ hP hD hS rfl hl rfl (Nat.le_of_ble_eq_true rfl) dX4_parts_17 ⟨by decide, by decide⟩ (fun H locs hP hD hS => ?_)
    refine lv_topi (fun y2 ey2 => ?_)
    have hf := bd_x ey2 hf
    obtain ⟨rfl, rfl⟩ := Prod.mk.inj (Option.some.inj hf)
    exact ret_i X hP hD hS dX4_parts_20
  · have hf := it_t c1 hf
    refine lv_aload_n hx hb dX4_parts_5 rfl (lv_at hl 0 rfl) ?_
    refine gC_Sig_arguments X hP kw35 dX4_parts_6 ?_
    refine lv_goto (tgt := 20) hx hb dX4_parts_9 (by decide) ?_
    obtain ⟨rfl, rfl⟩ := Prod.mk.inj (Option.some.inj hf)
    exact ret_i X hP hD hS dX4_parts_20
end S_X4_parts
theorem c_X4_parts (l : Launch) (D : va_G) (cA : ClassId) (A : Nat → Prop) (ad : Nat → Nat) (ta : Nat) (σ : St) (x1 : Int32) (r : Int32) (σ' : St) (hf : F_X4_parts x1 σ = some (r, σ')) : MI l D cA A (wC cA ad) yX4_parts cX4_parts 2 (some .int) rm_X4_parts [.ref (ad 1), .int x1] ta σ r σ' 0 0 := by
  refine enter (by decide) (Nat.le_of_ble_eq_true rfl) ?_
  intro p e s m below meth c ls X hnm hP hD hS hl
  exact t_X4_parts_0 X hf hP hD hS hl
abbrev rm_X4_wanted : Room := { frames := 1, cells := 0, slots := 0, locals := 21 }
def F_X4_wanted_20 (x2 : Int32) (z0 : Int32) (σ : St) : Rs :=
  bo (F_X4_unpack z0 x2 σ) (fun r1 s2 => some (r1, s2))
def F_X4_wanted (x1 : Int32) (x2 : Int32) (σ : St) : Rs :=
  if x1 = (-1) then (F_X4_wanted_20 x2 (gF σ 4) σ) else (bd (rd 60 (gA σ 11) x1) (fun y2 => F_X4_wanted_20 x2 y2 σ))
section S_X4_wanted
variable {p : Program} {l : Launch} {e : Env} {s : State} {m : MethodId} {args : Array Value} {below : List Frame} {meth : Method} {c : Code}
variable {D : va_G} {cA : ClassId} {A : Nat → Prop} {ad : Nat → Nat} {r : Int32} {σ' : St} {ta : Nat}
set_option maxHeartbeats 4000000 in
set_option maxRecDepth 100000 in
theorem t_X4_wanted_20  (X : Fx p s m meth c D cA A RX4 cX4_wanted 3 (some .int))  {x2 z0 : Int32} { σ : St} {H : Heap} {locs : List Loc} {ls : Array Slot} (hf : F_X4_wanted_20 x2 z0 σ = some (r, σ')) (hP : va_P D vwCl (wC cA ad ta σ) H) (hD : va_D A (wC cA ad ta σ)) (hS : va_S A s.heap H locs) (hl : lv_has ls 3 [(2, .int x2)]) : W p l e (rm_X4_wanted) s m args below meth c H locs 0 0 (MQ below (QI D cA A (wC cA ad) r σ' ta) args s 0 0 A) (F0 m 20 ls [.int z0]) := by
  obtain ⟨hx, hb, hr, hml, hown, hlk, hE, hK, hA⟩ := id X
  rw [F_X4_wanted_20] at hf
  refine lv_iload_n hx hb dX4_wanted_20 rfl (lv_at hl 0 rfl) ?_
  obtain ⟨r1, s2, h3, hf⟩ := bo_e hf
  refine callS_i X cs_X4_unpack kw343 (c_X4_unpack l D cA A ad ta σ z0 x2 r1 s2 h3) ⟨by decide, by decide⟩ ⟨rfl, rfl⟩ hP hD hS rfl hl rfl (Nat.le_of_ble_eq_true rfl) dX4_wanted_21 ⟨by decide, by decide⟩ (fun H locs hP hD hS => ?_)
  obtain ⟨rfl, rfl⟩ := Prod.mk.inj (Option.some.inj hf)
  exact ret_i X hP hD hS dX4_wanted_24
set_option maxHeartbeats 4000000 in
set_option maxRecDepth 100000 in
theorem t_X4_wanted_0  (X : Fx p s m meth c D cA A RX4 cX4_wanted 3 (some .int))  {x1 x2 : Int32} { σ : St} {H : Heap} {locs : List Loc} {ls : Array Slot} (hf : F_X4_wanted x1 x2 σ = some (r, σ')) (hP : va_P D vwCl (wC cA ad ta σ) H) (hD : va_D A (wC cA ad ta σ)) (hS : va_S A s.heap H locs) (hl : lv_has ls 3 [(0, .ref (ad 1)), (1, .int x1), (2, .int x2)]) : W p l e (rm_X4_wanted) s m args below meth c H locs 0 0 (MQ below (QI D cA A (wC cA ad) r σ' ta) args s 0 0 A) (F0 m 0 ls []) := by
  obtain ⟨hx, hb, hr, hml, hown, hlk, hE, hK, hA⟩ := id X
  rw [F_X4_wanted] at hf
  refine lv_iload_n hx hb dX4_wanted_0 rfl (lv_at hl 1 rfl) ?_
  refine lv_iconst (v := -1) hx hb dX4_wanted_1 (by decide) ?_
  refine lv_icmp_ne (tgt := 12) hx hb dX4_wanted_2 (by decide) (fun c1 => ?_) (fun c1 => ?_)
  · have hf := it_f c1 hf
    refine lv_aload_n hx hb dX4_wanted_12 rfl (lv_at hl 0 rfl) ?_
    refine gC_Sig_partTypes X hP kw30 dX4_wanted_13 ?_
    refine lv_iload_n hx hb dX4_wanted_16 rfl (lv_at hl 1 rfl) ?_
    refine callSN_i X cs_X8_get kw412 (c_get l D cA A (wC cA ad) ta σ 11 (ad 11) 60 (gA σ 11) x1 (by decide) rfl) ⟨by decide, by decide⟩ ⟨rfl, rfl⟩ hP hD hS rfl hl rfl (Nat.le_of_ble_eq_true rfl) dX4_wanted_17 ⟨by decide, by decide⟩ (fun H locs hP hD hS => ?_)
    refine lv_topi (fun y2 ey2 => ?_)
    have hf := bd_x ey2 hf
    exact t_X4_wanted_20 X  hf hP hD hS (lv_sub hl [2] rfl)
  · have hf := it_t c1 hf
    refine lv_aload_n hx hb dX4_wanted_5 rfl (lv_at hl 0 rfl) ?_
    refine gC_Sig_argumentTypes X hP kw37 dX4_wanted_6 ?_
    refine lv_goto (tgt := 20) hx hb dX4_wanted_9 (by decide) ?_
    exact t_X4_wanted_20 X  hf hP hD hS (lv_sub hl [2] rfl)
end S_X4_wanted
theorem c_X4_wanted (l : Launch) (D : va_G) (cA : ClassId) (A : Nat → Prop) (ad : Nat → Nat) (ta : Nat) (σ : St) (x1 x2 : Int32) (r : Int32) (σ' : St) (hf : F_X4_wanted x1 x2 σ = some (r, σ')) : MI l D cA A (wC cA ad) yX4_wanted cX4_wanted 3 (some .int) rm_X4_wanted [.ref (ad 1), .int x1, .int x2] ta σ r σ' 0 0 := by
  refine enter (by decide) (Nat.le_of_ble_eq_true rfl) ?_
  intro p e s m below meth c ls X hnm hP hD hS hl
  exact t_X4_wanted_0 X hf hP hD hS hl
abbrev rm_X4_constructorsOf : Room := { frames := 1, cells := 0, slots := 0, locals := 21 }
def F_X4_constructorsOf_27 (k4 : Int32 → Int32 → Int32 → St → Rs) (x1 : Int32) (x2 : Int32) (x3 : Int32) (σ : St) : Rs :=
  k4 x1 x2 (x3 + 1) σ
def F_X4_constructorsOf_4  : Nat → Int32 → Int32 → Int32 → St → Rs
  | 0, _, _, _, _ => none
  | n + 1, x1, x2, x3, σ => if (gF σ 2) ≤ x3 then (some (x2, σ)) else (bd (rd 60 (gA σ 9) x3) (fun y2 => if y2 = x1 then (F_X4_constructorsOf_27 (F_X4_constructorsOf_4 n) x1 (x2 + 1) x3 σ) else (F_X4_constructorsOf_27 (F_X4_constructorsOf_4 n) x1 x2 x3 σ)))
def F_X4_constructorsOf (x1 : Int32) (σ : St) : Rs :=
  F_X4_constructorsOf_4 5000 x1 0 0 σ
section S_X4_constructorsOf
variable {p : Program} {l : Launch} {e : Env} {s : State} {m : MethodId} {args : Array Value} {below : List Frame} {meth : Method} {c : Code}
variable {D : va_G} {cA : ClassId} {A : Nat → Prop} {ad : Nat → Nat} {r : Int32} {σ' : St} {ta : Nat}
set_option maxHeartbeats 4000000 in
set_option maxRecDepth 100000 in
theorem t_X4_constructorsOf_27 {k4 : Int32 → Int32 → Int32 → St → Rs} (X : Fx p s m meth c D cA A RX4 cX4_constructorsOf 4 (some .int)) (K4 : ∀ (x1 x2 x3 : Int32) (σ : St) (H : Heap) (locs : List Loc) (ls : Array Slot), k4 x1 x2 x3 σ = some (r, σ') → va_P D vwCl (wC cA ad ta σ) H → va_D A (wC cA ad ta σ) → va_S A s.heap H locs → lv_has ls 4 [(0, .ref (ad 1)), (1, .int x1), (2, .int x2), (3, .int x3)] → W p l e (rm_X4_constructorsOf) s m args below meth c H locs 0 0 (MQ below (QI D cA A (wC cA ad) r σ' ta) args s 0 0 A) (F0 m 4 ls [])) {x1 x2 x3 : Int32} { σ : St} {H : Heap} {locs : List Loc} {ls : Array Slot} (hf : F_X4_constructorsOf_27 k4 x1 x2 x3 σ = some (r, σ')) (hP : va_P D vwCl (wC cA ad ta σ) H) (hD : va_D A (wC cA ad ta σ)) (hS : va_S A s.heap H locs) (hl : lv_has ls 4 [(0, .ref (ad 1)), (1, .int x1), (2, .int x2), (3, .int x3)]) : W p l e (rm_X4_constructorsOf) s m args below meth c H locs 0 0 (MQ below (QI D cA A (wC cA ad) r σ' ta) args s 0 0 A) (F0 m 27 ls []) := by
  obtain ⟨hx, hb, hr, hml, hown, hlk, hE, hK, hA⟩ := id X
  rw [F_X4_constructorsOf_27] at hf
  refine lv_iinc (v := (x3 + 1)) (lv' := [(3, .int (x3 + 1)), (0, .ref (ad 1)), (1, .int x1), (2, .int x2)]) hx hb dX4_constructorsOf_27 hl (k := 3) rfl rfl (by decide) rfl (fun ls hl => ?_)
  refine lv_goto (tgt := 4) hx hb dX4_constructorsOf_30 (by decide) ?_
  exact K4 x1 x2 (x3 + 1) σ _ _ _ hf hP hD hS (lv_sub hl [1, 2, 3, 0] rfl)
set_option maxHeartbeats 4000000 in
set_option maxRecDepth 100000 in
theorem t_X4_constructorsOf_4  (X : Fx p s m meth c D cA A RX4 cX4_constructorsOf 4 (some .int))  : ∀ (n : Nat) (x1 x2 x3 : Int32) (σ : St) (H : Heap) (locs : List Loc) (ls : Array Slot), F_X4_constructorsOf_4 n x1 x2 x3 σ = some (r, σ') → va_P D vwCl (wC cA ad ta σ) H → va_D A (wC cA ad ta σ) → va_S A s.heap H locs → lv_has ls 4 [(0, .ref (ad 1)), (1, .int x1), (2, .int x2), (3, .int x3)] → W p l e (rm_X4_constructorsOf) s m args below meth c H locs 0 0 (MQ below (QI D cA A (wC cA ad) r σ' ta) args s 0 0 A) (F0 m 4 ls []) := by
  obtain ⟨hx, hb, hr, hml, hown, hlk, hE, hK, hA⟩ := id X
  intro n
  induction n with
  | zero =>
    intro x1 x2 x3 σ H locs ls hf
    cases (show (none : Rs) = some _ from hf)
  | succ n ih =>
    intro x1 x2 x3 σ H locs ls hf hP hD hS hl
    rw [F_X4_constructorsOf_4] at hf
    refine lv_iload_n hx hb dX4_constructorsOf_4 rfl (lv_at hl 3 rfl) ?_
    refine lv_aload_n hx hb dX4_constructorsOf_5 rfl (lv_at hl 0 rfl) ?_
    refine gC_Sig_made X hP kw33 dX4_constructorsOf_6 ?_
    refine lv_icmp_ge (tgt := 33) hx hb dX4_constructorsOf_9 (by decide) (fun c1 => ?_) (fun c1 => ?_)
    · have hf := it_t c1 hf
      refine lv_iload_n hx hb dX4_constructorsOf_33 rfl (lv_at hl 2 rfl) ?_
      obtain ⟨rfl, rfl⟩ := Prod.mk.inj (Option.some.inj hf)
      exact ret_i X hP hD hS dX4_constructorsOf_34
    · have hf := it_f c1 hf
      refine lv_aload_n hx hb dX4_constructorsOf_12 rfl (lv_at hl 0 rfl) ?_
      refine gC_Sig_ownTypes X hP kw28 dX4_constructorsOf_13 ?_
      refine lv_iload_n hx hb dX4_constructorsOf_16 rfl (lv_at hl 3 rfl) ?_
      refine callSN_i X cs_X8_get kw412 (c_get l D cA A (wC cA ad) ta σ 9 (ad 9) 60 (gA σ 9) x3 (by decide) rfl) ⟨by decide, by decide⟩ ⟨rfl, rfl⟩ hP hD hS rfl hl rfl (Nat.le_of_ble_eq_true rfl) dX4_constructorsOf_17 ⟨by decide, by decide⟩ (fun H locs hP hD hS => ?_)
      refine lv_topi (fun y2 ey2 => ?_)
      have hf := bd_x ey2 hf
      refine lv_iload_n hx hb dX4_constructorsOf_20 rfl (lv_at hl 1 rfl) ?_
      refine lv_icmp_ne (tgt := 27) hx hb dX4_constructorsOf_21 (by decide) (fun c3 => ?_) (fun c3 => ?_)
      · have hf := it_f c3 hf
        exact t_X4_constructorsOf_27 X ih hf hP hD hS (lv_sub hl [0, 1, 2, 3] rfl)
      · have hf := it_t c3 hf
        refine lv_iinc (v := (x2 + 1)) (lv' := [(2, .int (x2 + 1)), (0, .ref (ad 1)), (1, .int x1), (3, .int x3)]) hx hb dX4_constructorsOf_24 hl (k := 2) rfl rfl (by decide) rfl (fun ls hl => ?_)
        exact t_X4_constructorsOf_27 X ih hf hP hD hS (lv_sub hl [1, 2, 0, 3] rfl)
set_option maxHeartbeats 4000000 in
set_option maxRecDepth 100000 in
theorem t_X4_constructorsOf_0  (X : Fx p s m meth c D cA A RX4 cX4_constructorsOf 4 (some .int))  {x1 : Int32} { σ : St} {H : Heap} {locs : List Loc} {ls : Array Slot} (hf : F_X4_constructorsOf x1 σ = some (r, σ')) (hP : va_P D vwCl (wC cA ad ta σ) H) (hD : va_D A (wC cA ad ta σ)) (hS : va_S A s.heap H locs) (hl : lv_has ls 4 [(0, .ref (ad 1)), (1, .int x1)]) : W p l e (rm_X4_constructorsOf) s m args below meth c H locs 0 0 (MQ below (QI D cA A (wC cA ad) r σ' ta) args s 0 0 A) (F0 m 0 ls []) := by
  obtain ⟨hx, hb, hr, hml, hown, hlk, hE, hK, hA⟩ := id X
  rw [F_X4_constructorsOf] at hf
  refine lv_iconst (v := 0) hx hb dX4_constructorsOf_0 (by decide) ?_
  refine lv_istore_n (lv' := [(2, .int 0), (0, .ref (ad 1)), (1, .int x1)]) hx hb dX4_constructorsOf_1 rfl hl (by decide) rfl (fun ls hl => ?_)
  refine lv_iconst (v := 0) hx hb dX4_constructorsOf_2 (by decide) ?_
  refine lv_istore_n (lv' := [(3, .int 0), (2, .int 0), (0, .ref (ad 1)), (1, .int x1)]) hx hb dX4_constructorsOf_3 rfl hl (by decide) rfl (fun ls hl => ?_)
  exact t_X4_constructorsOf_4 X  5000 x1 0 0 σ _ _ _ hf hP hD hS (lv_sub hl [2, 3, 1, 0] rfl)
end S_X4_constructorsOf
theorem c_X4_constructorsOf (l : Launch) (D : va_G) (cA : ClassId) (A : Nat → Prop) (ad : Nat → Nat) (ta : Nat) (σ : St) (x1 : Int32) (r : Int32) (σ' : St) (hf : F_X4_constructorsOf x1 σ = some (r, σ')) : MI l D cA A (wC cA ad) yX4_constructorsOf cX4_constructorsOf 4 (some .int) rm_X4_constructorsOf [.ref (ad 1), .int x1] ta σ r σ' 0 0 := by
  refine enter (by decide) (Nat.le_of_ble_eq_true rfl) ?_
  intro p e s m below meth c ls X hnm hP hD hS hl
  exact t_X4_constructorsOf_0 X hf hP hD hS hl
