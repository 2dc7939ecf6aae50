abbrev rm_X6_clear : Room := { frames := 0, cells := 0, slots := 0, locals := 0 }
def F_X6_clear  (σ : St) : Rs :=
  bd (sF σ 9 0) (fun s1 => some (0, s1))
section S_X6_clear
variable {p : Program} {l : Launch} {e : Env} {s : State} {m : MethodId} {args : Array Value} {below : List Frame} {meth : Method} {c : Code}
variable {D : va_G} {cA : ClassId} {A : Nat → Prop} {ad : Nat → Nat} {r : Int32} {σ' : St} {ta : Nat}
set_option maxHeartbeats 4000000 in
set_option maxRecDepth 100000 in
theorem t_X6_clear_0  (X : Fx p s m meth c D cA A RX6 cX6_clear 1 none)  { σ : St} {H : Heap} {locs : List Loc} {ls : Array Slot} (hf : F_X6_clear σ = some (r, σ')) (hP : va_P D vwCl (wC cA ad ta σ) H) (hD : va_D A (wC cA ad ta σ)) (hS : va_S A s.heap H locs) (hl : lv_has ls 1 [(0, .ref (ad 4))]) : W p l e (rm_X6_clear) s m args below meth c H locs 0 0 (MQ below (QV D cA A (wC cA ad) σ' ta) args s 0 0 A) (F0 m 0 ls []) := by
  obtain ⟨hx, hb, hr, hml, hown, hlk, hE, hK, hA⟩ := id X
  rw [F_X6_clear] at hf
  refine lv_aload_n hx hb dX6_clear_0 rfl (lv_at hl 0 rfl) ?_
  refine lv_iconst (v := 0) hx hb dX6_clear_1 (by decide) ?_
  refine pC_Tre_nodes X hP hD hS kw145 dX6_clear_2 (fun H locs hP hD hS => ?_)
  obtain ⟨s1, es1, hf⟩ := bd_e hf
  rw [← es1] at hP hD
  obtain ⟨rfl, rfl⟩ := Prod.mk.inj (Option.some.inj hf)
  exact ret_v X hP hD hS dX6_clear_5
end S_X6_clear
theorem c_X6_clear (l : Launch) (D : va_G) (cA : ClassId) (A : Nat → Prop) (ad : Nat → Nat) (ta : Nat) (σ : St) (r : Int32) (σ' : St) (hf : F_X6_clear σ = some (r, σ')) : MV l D cA A (wC cA ad) yX6_clear cX6_clear 1 none rm_X6_clear [.ref (ad 4)] ta σ σ' 0 0 := by
  refine enter (by decide) (Nat.le_of_ble_eq_true rfl) ?_
  intro p e s m below meth c ls X hnm hP hD hS hl
  exact t_X6_clear_0 X hf hP hD hS hl
abbrev rm_X6_add : Room := { frames := 1, cells := 0, slots := 0, locals := 22 }
def F_X6_add (x1 : Int32) (x2 : Int32) (x3 : Int32) (x4 : Int32) (x5 : Int32) (σ : St) : Rs :=
  if (gF σ 9) < 560 then (bd (sA σ 23 (wr 560 (gA σ 23) (gF σ 9) x1)) (fun s2 => bd (sA s2 24 (wr 560 (gA s2 24) (gF s2 9) x2)) (fun s3 => bd (sA s3 26 (wr 560 (gA s3 26) (gF s3 9) x3)) (fun s4 => bd (sA s4 27 (wr 560 (gA s4 27) (gF s4 9) x4)) (fun s5 => bd (sA s5 25 (wr 560 (gA s5 25) (gF s5 9) x5)) (fun s6 => bd (sF s6 9 ((gF s6 9) + 1)) (fun s7 => some (0, s7)))))))) else (some (0, σ))
section S_X6_add
variable {p : Program} {l : Launch} {e : Env} {s : State} {m : MethodId} {args : Array Value} {below : List Frame} {meth : Method} {c : Code}
variable {D : va_G} {cA : ClassId} {A : Nat → Prop} {ad : Nat → Nat} {r : Int32} {σ' : St} {ta : Nat}
set_option maxHeartbeats 4000000 in
set_option maxRecDepth 100000 in
theorem t_X6_add_0  (X : Fx p s m meth c D cA A RX6 cX6_add 6 none)  {x1 x2 x3 x4 x5 : Int32} { σ : St} {H : Heap} {locs : List Loc} {ls : Array Slot} (hf : F_X6_add x1 x2 x3 x4 x5 σ = some (r, σ')) (hP : va_P D vwCl (wC cA ad ta σ) H) (hD : va_D A (wC cA ad ta σ)) (hS : va_S A s.heap H locs) (hl : lv_has ls 6 [(0, .ref (ad 4)), (1, .int x1), (2, .int x2), (3, .int x3), (4, .int x4), (5, .int x5)]) : W p l e (rm_X6_add) s m args below meth c H locs 0 0 (MQ below (QV D cA A (wC cA ad) σ' ta) args s 0 0 A) (F0 m 0 ls []) := by
  obtain ⟨hx, hb, hr, hml, hown, hlk, hE, hK, hA⟩ := id X
  rw [F_X6_add] at hf
  refine lv_aload_n hx hb dX6_add_0 rfl (lv_at hl 0 rfl) ?_
  refine gC_Tre_nodes X hP kw145 dX6_add_1 ?_
  refine lv_sipush (v := 560) hx hb dX6_add_4 (by decide) ?_
  refine lv_icmp_lt (tgt := 11) hx hb dX6_add_7 (by decide) (fun c1 => ?_) (fun c1 => ?_)
  · have hf := it_t c1 hf
    refine lv_aload_n hx hb dX6_add_11 rfl (lv_at hl 0 rfl) ?_
    refine gC_Tre_kind X hP kw135 dX6_add_12 ?_
    refine lv_aload_n hx hb dX6_add_15 rfl (lv_at hl 0 rfl) ?_
    refine gC_Tre_nodes X hP kw145 dX6_add_16 ?_
    refine lv_iload_n hx hb dX6_add_19 rfl (lv_at hl 1 rfl) ?_
    refine callSN_v X cs_X8_set kw540 (c_set l D cA A (wC cA ad) ta σ 23 (ad 23) 560 23 (gF σ 9) x1 (by decide) rfl (fun f => wC_a23 f)) ⟨by decide, by decide⟩ ⟨rfl, rfl⟩ hP hD hS rfl hl rfl (Nat.le_of_ble_eq_true rfl) dX6_add_20 ⟨by decide, by decide⟩ (fun H locs hP hD hS => ?_)
    obtain ⟨s2, es2, hf⟩ := bd_e hf
    rw [← es2] at hP hD
    refine lv_aload_n hx hb dX6_add_23 rfl (lv_at hl 0 rfl) ?_
    refine gC_Tre_subject X hP kw137 dX6_add_24 ?_
    refine lv_aload_n hx hb dX6_add_27 rfl (lv_at hl 0 rfl) ?_
    refine gC_Tre_nodes X hP kw145 dX6_add_28 ?_
    refine lv_iload_n hx hb dX6_add_31 rfl (lv_at hl 2 rfl) ?_
    refine callSN_v X cs_X8_set kw540 (c_set l D cA A (wC cA ad) ta s2 24 (ad 24) 560 24 (gF s2 9) x2 (by decide) rfl (fun f => wC_a24 f)) ⟨by decide, by decide⟩ ⟨rfl, rfl⟩ hP hD hS rfl hl rfl (Nat.le_of_ble_eq_true rfl) dX6_add_32 ⟨by decide, by decide⟩ (fun H locs hP hD hS => ?_)
    obtain ⟨s3, es3, hf⟩ := bd_e hf
    rw [← es3] at hP hD
    refine lv_aload_n hx hb dX6_add_35 rfl (lv_at hl 0 rfl) ?_
    refine gC_Tre_label X hP kw140 dX6_add_36 ?_
    refine lv_aload_n hx hb dX6_add_39 rfl (lv_at hl 0 rfl) ?_
    refine gC_Tre_nodes X hP kw145 dX6_add_40 ?_
    refine lv_iload_n hx hb dX6_add_43 rfl (lv_at hl 3 rfl) ?_
    refine callSN_v X cs_X8_set kw540 (c_set l D cA A (wC cA ad) ta s3 26 (ad 26) 560 26 (gF s3 9) x3 (by decide) rfl (fun f => wC_a26 f)) ⟨by decide, by decide⟩ ⟨rfl, rfl⟩ hP hD hS rfl hl rfl (Nat.le_of_ble_eq_true rfl) dX6_add_44 ⟨by decide, by decide⟩ (fun H locs hP hD hS => ?_)
    obtain ⟨s4, es4, hf⟩ := bd_e hf
    rw [← es4] at hP hD
    refine lv_aload_n hx hb dX6_add_47 rfl (lv_at hl 0 rfl) ?_
    refine gC_Tre_depth X hP kw142 dX6_add_48 ?_
    refine lv_aload_n hx hb dX6_add_51 rfl (lv_at hl 0 rfl) ?_
    refine gC_Tre_nodes X hP kw145 dX6_add_52 ?_
    refine lv_iload hx hb dX6_add_55 (lv_at hl 4 rfl) ?_
    refine callSN_v X cs_X8_set kw540 (c_set l D cA A (wC cA ad) ta s4 27 (ad 27) 560 27 (gF s4 9) x4 (by decide) rfl (fun f => wC_a27 f)) ⟨by decide, by decide⟩ ⟨rfl, rfl⟩ hP hD hS rfl hl rfl (Nat.le_of_ble_eq_true rfl) dX6_add_57 ⟨by decide, by decide⟩ (fun H locs hP hD hS => ?_)
    obtain ⟨s5, es5, hf⟩ := bd_e hf
    rw [← es5] at hP hD
    refine lv_aload_n hx hb dX6_add_60 rfl (lv_at hl 0 rfl) ?_
    refine gC_Tre_children X hP kw139 dX6_add_61 ?_
    refine lv_aload_n hx hb dX6_add_64 rfl (lv_at hl 0 rfl) ?_
    refine gC_Tre_nodes X hP kw145 dX6_add_65 ?_
    refine lv_iload hx hb dX6_add_68 (lv_at hl 5 rfl) ?_
    refine callSN_v X cs_X8_set kw540 (c_set l D cA A (wC cA ad) ta s5 25 (ad 25) 560 25 (gF s5 9) x5 (by decide) rfl (fun f => wC_a25 f)) ⟨by decide, by decide⟩ ⟨rfl, rfl⟩ hP hD hS rfl hl rfl (Nat.le_of_ble_eq_true rfl) dX6_add_70 ⟨by decide, by decide⟩ (fun H locs hP hD hS => ?_)
    obtain ⟨s6, es6, hf⟩ := bd_e hf
    rw [← es6] at hP hD
    refine lv_aload_n hx hb dX6_add_73 rfl (lv_at hl 0 rfl) ?_
    refine lv_dup hx hb dX6_add_74 rfl ?_
    refine gC_Tre_nodes X hP kw145 dX6_add_75 ?_
    refine lv_iconst (v := 1) hx hb dX6_add_78 (by decide) ?_
    refine lv_iadd hx hb dX6_add_79 ?_
    refine pC_Tre_nodes X hP hD hS kw145 dX6_add_80 (fun H locs hP hD hS => ?_)
    obtain ⟨s7, es7, hf⟩ := bd_e hf
    rw [← es7] at hP hD
    obtain ⟨rfl, rfl⟩ := Prod.mk.inj (Option.some.inj hf)
    exact ret_v X hP hD hS dX6_add_83
  · have hf := it_f c1 hf
    obtain ⟨rfl, rfl⟩ := Prod.mk.inj (Option.some.inj hf)
    exact ret_v X hP hD hS dX6_add_10
end S_X6_add
theorem c_X6_add (l : Launch) (D : va_G) (cA : ClassId) (A : Nat → Prop) (ad : Nat → Nat) (ta : Nat) (σ : St) (x1 x2 x3 x4 x5 : Int32) (r : Int32) (σ' : St) (hf : F_X6_add x1 x2 x3 x4 x5 σ = some (r, σ')) : MV l D cA A (wC cA ad) yX6_add cX6_add 6 none rm_X6_add [.ref (ad 4), .int x1, .int x2, .int x3, .int x4, .int x5] ta σ σ' 0 0 := by
  refine enter (by decide) (Nat.le_of_ble_eq_true rfl) ?_
  intro p e s m below meth c ls X hnm hP hD hS hl
  exact t_X6_add_0 X hf hP hD hS hl
abbrev rm_X6_places : Room := { frames := 2, cells := 0, slots := 0, locals := 45 }
def F_X6_places (x2 : Int32) (σ : St) : Rs :=
  bd (rd 560 (gA σ 23) x2) (fun y1 => if y1 = 1 then (bd (rd 560 (gA σ 24) x2) (fun y3 => bo (F_X3_placesTo y3 σ) (fun r4 s5 => some (r4, s5)))) else (some (0, σ)))
section S_X6_places
variable {p : Program} {l : Launch} {e : Env} {s : State} {m : MethodId} {args : Array Value} {below : List Frame} {meth : Method} {c : Code}
variable {D : va_G} {cA : ClassId} {A : Nat → Prop} {ad : Nat → Nat} {r : Int32} {σ' : St} {ta : Nat}
set_option maxHeartbeats 4000000 in
set_option maxRecDepth 100000 in
theorem t_X6_places_0  (X : Fx p s m meth c D cA A RX6 cX6_places 3 (some .int))  {x2 : Int32} { σ : St} {H : Heap} {locs : List Loc} {ls : Array Slot} (hf : F_X6_places x2 σ = some (r, σ')) (hP : va_P D vwCl (wC cA ad ta σ) H) (hD : va_D A (wC cA ad ta σ)) (hS : va_S A s.heap H locs) (hl : lv_has ls 3 [(0, .ref (ad 4)), (1, .ref (ad 3)), (2, .int x2)]) : W p l e (rm_X6_places) s m args below meth c H locs 0 0 (MQ below (QI D cA A (wC cA ad) r σ' ta) args s 0 0 A) (F0 m 0 ls []) := by
  obtain ⟨hx, hb, hr, hml, hown, hlk, hE, hK, hA⟩ := id X
  rw [F_X6_places] at hf
  refine lv_aload_n hx hb dX6_places_0 rfl (lv_at hl 0 rfl) ?_
  refine gC_Tre_kind X hP kw135 dX6_places_1 ?_
  refine lv_iload_n hx hb dX6_places_4 rfl (lv_at hl 2 rfl) ?_
  refine callSN_i X cs_X8_get kw619 (c_get l D cA A (wC cA ad) ta σ 23 (ad 23) 560 (gA σ 23) x2 (by decide) rfl) ⟨by decide, by decide⟩ ⟨rfl, rfl⟩ hP hD hS rfl hl rfl (Nat.le_of_ble_eq_true rfl) dX6_places_5 ⟨by decide, by decide⟩ (fun H locs hP hD hS => ?_)
  refine lv_topi (fun y1 ey1 => ?_)
  have hf := bd_x ey1 hf
  refine lv_iconst (v := 1) hx hb dX6_places_8 (by decide) ?_
  refine lv_icmp_ne (tgt := 27) hx hb dX6_places_9 (by decide) (fun c2 => ?_) (fun c2 => ?_)
  · have hf := it_f c2 hf
    refine lv_iconst (v := 0) hx hb dX6_places_27 (by decide) ?_
    obtain ⟨rfl, rfl⟩ := Prod.mk.inj (Option.some.inj hf)
    exact ret_i X hP hD hS dX6_places_28
  · have hf := it_t c2 hf
    refine lv_aload_n hx hb dX6_places_12 rfl (lv_at hl 1 rfl) ?_
    refine lv_aload_n hx hb dX6_places_13 rfl (lv_at hl 0 rfl) ?_
    refine gC_Tre_subject X hP kw137 dX6_places_14 ?_
    refine lv_iload_n hx hb dX6_places_17 rfl (lv_at hl 2 rfl) ?_
    refine callSN_i X cs_X8_get kw619 (c_get l D cA A (wC cA ad) ta σ 24 (ad 24) 560 (gA σ 24) x2 (by decide) rfl) ⟨by decide, by decide⟩ ⟨rfl, rfl⟩ hP hD hS rfl hl rfl (Nat.le_of_ble_eq_true rfl) dX6_places_18 ⟨by decide, by decide⟩ (fun H locs hP hD hS => ?_)
    refine lv_topi (fun y3 ey3 => ?_)
    have hf := bd_x ey3 hf
    obtain ⟨r4, s5, h6, hf⟩ := bo_e hf
    refine callVN_i X cv_X3_placesTo kw624 (c_X3_placesTo l D cA A ad ta σ y3 r4 s5 h6) ⟨by decide, by decide⟩ ⟨rfl, rfl⟩ hP hD hS (q0 := 3) (ci := 3) rfl rfl rfl rfl hl rfl (Nat.le_of_ble_eq_true rfl) dX6_places_21 ⟨by decide, by decide⟩ (fun H locs hP hD hS => ?_)
    refine lv_goto (tgt := 28) hx hb dX6_places_24 (by decide) ?_
    obtain ⟨rfl, rfl⟩ := Prod.mk.inj (Option.some.inj hf)
    exact ret_i X hP hD hS dX6_places_28
end S_X6_places
theorem c_X6_places (l : Launch) (D : va_G) (cA : ClassId) (A : Nat → Prop) (ad : Nat → Nat) (ta : Nat) (σ : St) (x2 : Int32) (r : Int32) (σ' : St) (hf : F_X6_places x2 σ = some (r, σ')) : MI l D cA A (wC cA ad) yX6_places cX6_places 3 (some .int) rm_X6_places [.ref (ad 4), .ref (ad 3), .int x2] ta σ r σ' 0 0 := by
  refine enter (by decide) (Nat.le_of_ble_eq_true rfl) ?_
  intro p e s m below meth c ls X hnm hP hD hS hl
  exact t_X6_places_0 X hf hP hD hS hl
abbrev rm_X6_answer : Room := { frames := 3, cells := 0, slots := 0, locals := 69 }
def F_X6_answer (x2 : Int32) (x3 : Int32) (σ : St) : Rs :=
  if x2 < 0 then (some ((-9), σ)) else (if (gF σ 9) ≤ x2 then (some ((-9), σ)) else (if 0 ≤ x3 then (if x3 = 0 then (bd (rd 560 (gA σ 23) x2) (fun y5 => some (y5, σ))) else (if x3 = 1 then (bd (rd 560 (gA σ 23) x2) (fun y7 => if y7 = 0 then (bd (rd 560 (gA σ 24) x2) (fun y12 => some (y12, σ))) else (bo (F_X6_places x2 σ) (fun r9 s10 => some (r9, s10))))) else (if x3 = 2 then (bd (rd 560 (gA σ 25) x2) (fun y14 => some (y14, σ))) else (if x3 = 3 then (bd (rd 560 (gA σ 26) x2) (fun y16 => some (y16, σ))) else (if x3 = 4 then (bd (rd 560 (gA σ 27) x2) (fun y18 => some (y18, σ))) else (bd (x3 - 5) (fun y19 => bo (F_X6_places x2 σ) (fun r20 s21 => if r20 ≤ y19 then (some ((-9), s21)) else (bd (rd 560 (gA s21 24) x2) (fun y24 => bo (F_X3_placeOnWay y24 y19 s21) (fun r25 s26 => some (r25, s26)))))))))))) else (some ((-9), σ))))
section S_X6_answer
variable {p : Program} {l : Launch} {e : Env} {s : State} {m : MethodId} {args : Array Value} {below : List Frame} {meth : Method} {c : Code}
variable {D : va_G} {cA : ClassId} {A : Nat → Prop} {ad : Nat → Nat} {r : Int32} {σ' : St} {ta : Nat}
set_option maxHeartbeats 4000000 in
set_option maxRecDepth 100000 in
theorem t_X6_answer_0  (X : Fx p s m meth c D cA A RX6 cX6_answer 5 (some .int))  {x2 x3 : Int32} { σ : St} {H : Heap} {locs : List Loc} {ls : Array Slot} (hf : F_X6_answer x2 x3 σ = some (r, σ')) (hP : va_P D vwCl (wC cA ad ta σ) H) (hD : va_D A (wC cA ad ta σ)) (hS : va_S A s.heap H locs) (hl : lv_has ls 5 [(0, .ref (ad 4)), (1, .ref (ad 3)), (2, .int x2), (3, .int x3)]) : W p l e (rm_X6_answer) s m args below meth c H locs 0 0 (MQ below (QI D cA A (wC cA ad) r σ' ta) args s 0 0 A) (F0 m 0 ls []) := by
  obtain ⟨hx, hb, hr, hml, hown, hlk, hE, hK, hA⟩ := id X
  rw [F_X6_answer] at hf
  refine lv_iload_n hx hb dX6_answer_0 rfl (lv_at hl 2 rfl) ?_
  refine lv_if_lt (tgt := 16) hx hb dX6_answer_1 (by decide) (fun c1 => ?_) (fun c1 => ?_)
  · have hf := it_t c1 hf
    refine lv_bipush (v := -9) hx hb dX6_answer_16 (by decide) ?_
    obtain ⟨rfl, rfl⟩ := Prod.mk.inj (Option.some.inj hf)
    exact ret_i X hP hD hS dX6_answer_18
  · have hf := it_f c1 hf
    refine lv_iload_n hx hb dX6_answer_4 rfl (lv_at hl 2 rfl) ?_
    refine lv_aload_n hx hb dX6_answer_5 rfl (lv_at hl 0 rfl) ?_
    refine gC_Tre_nodes X hP kw145 dX6_answer_6 ?_
    refine lv_icmp_ge (tgt := 16) hx hb dX6_answer_9 (by decide) (fun c2 => ?_) (fun c2 => ?_)
    · have hf := it_t c2 hf
      refine lv_bipush (v := -9) hx hb dX6_answer_16 (by decide) ?_
      obtain ⟨rfl, rfl⟩ := Prod.mk.inj (Option.some.inj hf)
      exact ret_i X hP hD hS dX6_answer_18
    · have hf := it_f c2 hf
      refine lv_iload_n hx hb dX6_answer_12 rfl (lv_at hl 3 rfl) ?_
      refine lv_if_ge (tgt := 19) hx hb dX6_answer_13 (by decide) (fun c3 => ?_) (fun c3 => ?_)
      · have hf := it_t c3 hf
        refine lv_iload_n hx hb dX6_answer_19 rfl (lv_at hl 3 rfl) ?_
        by_cases c4 : x3 = 0
        · have hf := it_t c4 hf
          refine lv_tableIn (off := 36) (tgt := 56) hx hb dX6_answer_20 (by rw [c4]; decide) (by rw [c4]; decide) (by rw [c4]; decide) (by decide) ?_
          refine lv_aload_n hx hb dX6_answer_56 rfl (lv_at hl 0 rfl) ?_
          refine gC_Tre_kind X hP kw135 dX6_answer_57 ?_
          refine lv_iload_n hx hb dX6_answer_60 rfl (lv_at hl 2 rfl) ?_
          refine callSN_i X cs_X8_get kw619 (c_get l D cA A (wC cA ad) ta σ 23 (ad 23) 560 (gA σ 23) x2 (by decide) rfl) ⟨by decide, by decide⟩ ⟨rfl, rfl⟩ hP hD hS rfl hl rfl (Nat.le_of_ble_eq_true rfl) dX6_answer_61 ⟨by decide, by decide⟩ (fun H locs hP hD hS => ?_)
          refine lv_topi (fun y5 ey5 => ?_)
          have hf := bd_x ey5 hf
          obtain ⟨rfl, rfl⟩ := Prod.mk.inj (Option.some.inj hf)
          exact ret_i X hP hD hS dX6_answer_64
        have hf := it_f c4 hf
        by_cases c6 : x3 = 1
        · have hf := it_t c6 hf
          refine lv_tableIn (off := 45) (tgt := 65) hx hb dX6_answer_20 (by rw [c6]; decide) (by rw [c6]; decide) (by rw [c6]; decide) (by decide) ?_
          refine lv_aload_n hx hb dX6_answer_65 rfl (lv_at hl 0 rfl) ?_
          refine gC_Tre_kind X hP kw135 dX6_answer_66 ?_
          refine lv_iload_n hx hb dX6_answer_69 rfl (lv_at hl 2 rfl) ?_
          refine callSN_i X cs_X8_get kw619 (c_get l D cA A (wC cA ad) ta σ 23 (ad 23) 560 (gA σ 23) x2 (by decide) rfl) ⟨by decide, by decide⟩ ⟨rfl, rfl⟩ hP hD hS rfl hl rfl (Nat.le_of_ble_eq_true rfl) dX6_answer_70 ⟨by decide, by decide⟩ (fun H locs hP hD hS => ?_)
          refine lv_topi (fun y7 ey7 => ?_)
          have hf := bd_x ey7 hf
          refine lv_if_ne (tgt := 87) hx hb dX6_answer_73 (by decide) (fun c8 => ?_) (fun c8 => ?_)
          · have hf := it_f c8 hf
            refine lv_aload_n hx hb dX6_answer_87 rfl (lv_at hl 0 rfl) ?_
            refine lv_aload_n hx hb dX6_answer_88 rfl (lv_at hl 1 rfl) ?_
            refine lv_iload_n hx hb dX6_answer_89 rfl (lv_at hl 2 rfl) ?_
            obtain ⟨r9, s10, h11, hf⟩ := bo_e hf
            refine callV_i X cv_X6_places kw620 (c_X6_places l D cA A ad ta σ x2 r9 s10 h11) ⟨by decide, by decide⟩ ⟨rfl, rfl⟩ hP hD hS (q0 := 4) (ci := 6) rfl rfl rfl rfl hl rfl (Nat.le_of_ble_eq_true rfl) dX6_answer_90 ⟨by decide, by decide⟩ (fun H locs hP hD hS => ?_)
            obtain ⟨rfl, rfl⟩ := Prod.mk.inj (Option.some.inj hf)
            exact ret_i X hP hD hS dX6_answer_93
          · have hf := it_t c8 hf
            refine lv_aload_n hx hb dX6_answer_76 rfl (lv_at hl 0 rfl) ?_
            refine gC_Tre_subject X hP kw137 dX6_answer_77 ?_
            refine lv_iload_n hx hb dX6_answer_80 rfl (lv_at hl 2 rfl) ?_
            refine callSN_i X cs_X8_get kw619 (c_get l D cA A (wC cA ad) ta σ 24 (ad 24) 560 (gA σ 24) x2 (by decide) rfl) ⟨by decide, by decide⟩ ⟨rfl, rfl⟩ hP hD hS rfl hl rfl (Nat.le_of_ble_eq_true rfl) dX6_answer_81 ⟨by decide, by decide⟩ (fun H locs hP hD hS => ?_)
            refine lv_topi (fun y12 ey12 => ?_)
            have hf := bd_x ey12 hf
            refine lv_goto (tgt := 93) hx hb dX6_answer_84 (by decide) ?_
            obtain ⟨rfl, rfl⟩ := Prod.mk.inj (Option.some.inj hf)
            exact ret_i X hP hD hS dX6_answer_93
        have hf := it_f c6 hf
        by_cases c13 : x3 = 2
        · have hf := it_t c13 hf
          refine lv_tableIn (off := 74) (tgt := 94) hx hb dX6_answer_20 (by rw [c13]; decide) (by rw [c13]; decide) (by rw [c13]; decide) (by decide) ?_
          refine lv_aload_n hx hb dX6_answer_94 rfl (lv_at hl 0 rfl) ?_
          refine gC_Tre_children X hP kw139 dX6_answer_95 ?_
          refine lv_iload_n hx hb dX6_answer_98 rfl (lv_at hl 2 rfl) ?_
          refine callSN_i X cs_X8_get kw619 (c_get l D cA A (wC cA ad) ta σ 25 (ad 25) 560 (gA σ 25) x2 (by decide) rfl) ⟨by decide, by decide⟩ ⟨rfl, rfl⟩ hP hD hS rfl hl rfl (Nat.le_of_ble_eq_true rfl) dX6_answer_99 ⟨by decide, by decide⟩ (fun H locs hP hD hS => ?_)
          refine lv_topi (fun y14 ey14 => ?_)
          have hf := bd_x ey14 hf
          obtain ⟨rfl, rfl⟩ := Prod.mk.inj (Option.some.inj hf)
          exact ret_i X hP hD hS dX6_answer_102
        have hf := it_f c13 hf
        by_cases c15 : x3 = 3
        · have hf := it_t c15 hf
          refine lv_tableIn (off := 83) (tgt := 103) hx hb dX6_answer_20 (by rw [c15]; decide) (by rw [c15]; decide) (by rw [c15]; decide) (by decide) ?_
          refine lv_aload_n hx hb dX6_answer_103 rfl (lv_at hl 0 rfl) ?_
          refine gC_Tre_label X hP kw140 dX6_answer_104 ?_
          refine lv_iload_n hx hb dX6_answer_107 rfl (lv_at hl 2 rfl) ?_
          refine callSN_i X cs_X8_get kw619 (c_get l D cA A (wC cA ad) ta σ 26 (ad 26) 560 (gA σ 26) x2 (by decide) rfl) ⟨by decide, by decide⟩ ⟨rfl, rfl⟩ hP hD hS rfl hl rfl (Nat.le_of_ble_eq_true rfl) dX6_answer_108 ⟨by decide, by decide⟩ (fun H locs hP hD hS => ?_)
          refine lv_topi (fun y16 ey16 => ?_)
          have hf := bd_x ey16 hf
          obtain ⟨rfl, rfl⟩ := Prod.mk.inj (Option.some.inj hf)
          exact ret_i X hP hD hS dX6_answer_111
        have hf := it_f c15 hf
        by_cases c17 : x3 = 4
        · have hf := it_t c17 hf
          refine lv_tableIn (off := 92) (tgt := 112) hx hb dX6_answer_20 (by rw [c17]; decide) (by rw [c17]; decide) (by rw [c17]; decide) (by decide) ?_
          refine lv_aload_n hx hb dX6_answer_112 rfl (lv_at hl 0 rfl) ?_
          refine gC_Tre_depth X hP kw142 dX6_answer_113 ?_
          refine lv_iload_n hx hb dX6_answer_116 rfl (lv_at hl 2 rfl) ?_
          refine callSN_i X cs_X8_get kw619 (c_get l D cA A (wC cA ad) ta σ 27 (ad 27) 560 (gA σ 27) x2 (by decide) rfl) ⟨by decide, by decide⟩ ⟨rfl, rfl⟩ hP hD hS rfl hl rfl (Nat.le_of_ble_eq_true rfl) dX6_answer_117 ⟨by decide, by decide⟩ (fun H locs hP hD hS => ?_)
          refine lv_topi (fun y18 ey18 => ?_)
          have hf := bd_x ey18 hf
          obtain ⟨rfl, rfl⟩ := Prod.mk.inj (Option.some.inj hf)
          exact ret_i X hP hD hS dX6_answer_120
        have hf := it_f c17 hf
        refine lv_tableOut (tgt := 121) hx hb dX6_answer_20 (by have qc4 := lv_neT c4 (a := 0) rfl; have qc6 := lv_neT c6 (a := 1) rfl; have qc13 := lv_neT c13 (a := 2) rfl; have qc15 := lv_neT c15 (a := 3) rfl; have qc17 := lv_neT c17 (a := 4) rfl; omega) (by decide) ?_
        refine lv_iload_n hx hb dX6_answer_121 rfl (lv_at hl 3 rfl) ?_
        refine lv_iconst (v := 5) hx hb dX6_answer_122 (by decide) ?_
        refine lv_isub hx hb dX6_answer_123 ?_
        refine lv_topi (fun y19 ey19 => ?_)
        have hf := bd_x ey19 hf
        refine lv_istore (lv' := [(4, .int y19), (0, .ref (ad 4)), (1, .ref (ad 3)), (2, .int x2), (3, .int x3)]) hx hb dX6_answer_124 hl (by decide) rfl (fun ls hl => ?_)
        refine lv_iload hx hb dX6_answer_126 (lv_at hl 0 rfl) ?_
        refine lv_aload_n hx hb dX6_answer_128 rfl (lv_at hl 1 rfl) ?_
        refine lv_aload_n hx hb dX6_answer_129 rfl (lv_at hl 2 rfl) ?_
        refine lv_iload_n hx hb dX6_answer_130 rfl (lv_at hl 3 rfl) ?_
        obtain ⟨r20, s21, h22, hf⟩ := bo_e hf
        refine callV_i X cv_X6_places kw620 (c_X6_places l D cA A ad ta σ x2 r20 s21 h22) ⟨by decide, by decide⟩ ⟨rfl, rfl⟩ hP hD hS (q0 := 4) (ci := 6) rfl rfl rfl rfl hl rfl (Nat.le_of_ble_eq_true rfl) dX6_answer_131 ⟨by decide, by decide⟩ (fun H locs hP hD hS => ?_)
        refine lv_icmp_ge (tgt := 154) hx hb dX6_answer_134 (by decide) (fun c23 => ?_) (fun c23 => ?_)
        · have hf := it_t c23 hf
          refine lv_bipush (v := -9) hx hb dX6_answer_154 (by decide) ?_
          obtain ⟨rfl, rfl⟩ := Prod.mk.inj (Option.some.inj hf)
          exact ret_i X hP hD hS dX6_answer_156
        · have hf := it_f c23 hf
          refine lv_aload_n hx hb dX6_answer_137 rfl (lv_at hl 2 rfl) ?_
          refine lv_aload_n hx hb dX6_answer_138 rfl (lv_at hl 1 rfl) ?_
          refine gC_Tre_subject X hP kw137 dX6_answer_139 ?_
          refine lv_iload_n hx hb dX6_answer_142 rfl (lv_at hl 3 rfl) ?_
          refine callSN_i X cs_X8_get kw619 (c_get l D cA A (wC cA ad) ta s21 24 (ad 24) 560 (gA s21 24) x2 (by decide) rfl) ⟨by decide, by decide⟩ ⟨rfl, rfl⟩ hP hD hS rfl hl rfl (Nat.le_of_ble_eq_true rfl) dX6_answer_143 ⟨by decide, by decide⟩ (fun H locs hP hD hS => ?_)
          refine lv_topi (fun y24 ey24 => ?_)
          have hf := bd_x ey24 hf
          refine lv_iload hx hb dX6_answer_146 (lv_at hl 0 rfl) ?_
          obtain ⟨r25, s26, h27, hf⟩ := bo_e hf
          refine callVN_i X cv_X3_placeOnWay kw628 (c_X3_placeOnWay l D cA A ad ta s21 y24 y19 r25 s26 h27) ⟨by decide, by decide⟩ ⟨rfl, rfl⟩ hP hD hS (q0 := 3) (ci := 3) rfl rfl rfl rfl hl rfl (Nat.le_of_ble_eq_true rfl) dX6_answer_148 ⟨by decide, by decide⟩ (fun H locs hP hD hS => ?_)
          refine lv_goto (tgt := 156) hx hb dX6_answer_151 (by decide) ?_
          obtain ⟨rfl, rfl⟩ := Prod.mk.inj (Option.some.inj hf)
          exact ret_i X hP hD hS dX6_answer_156
      · have hf := it_f c3 hf
        refine lv_bipush (v := -9) hx hb dX6_answer_16 (by decide) ?_
        obtain ⟨rfl, rfl⟩ := Prod.mk.inj (Option.some.inj hf)
        exact ret_i X hP hD hS dX6_answer_18
end S_X6_answer
theorem c_X6_answer (l : Launch) (D : va_G) (cA : ClassId) (A : Nat → Prop) (ad : Nat → Nat) (ta : Nat) (σ : St) (x2 x3 : Int32) (r : Int32) (σ' : St) (hf : F_X6_answer x2 x3 σ = some (r, σ')) : MI l D cA A (wC cA ad) yX6_answer cX6_answer 5 (some .int) rm_X6_answer [.ref (ad 4), .ref (ad 3), .int x2, .int x3] ta σ r σ' 0 0 := by
  refine enter (by decide) (Nat.le_of_ble_eq_true rfl) ?_
  intro p e s m below meth c ls X hnm hP hD hS hl
  exact t_X6_answer_0 X hf hP hD hS hl
abbrev rm_X6_howMany : Room := { frames := 1, cells := 0, slots := 0, locals := 21 }
def F_X6_howMany_27 (k4 : Int32 → Int32 → Int32 → St → Rs) (x1 : Int32) (x2 : Int32) (x3 : Int32) (σ : St) : Rs :=
  k4 x1 x2 (x3 + 1) σ
def F_X6_howMany_4  : Nat → Int32 → Int32 → Int32 → St → Rs
  | 0, _, _, _, _ => none
  | n + 1, x1, x2, x3, σ => if (gF σ 9) ≤ x3 then (some (x2, σ)) else (bd (rd 560 (gA σ 23) x3) (fun y2 => if y2 = x1 then (F_X6_howMany_27 (F_X6_howMany_4 n) x1 (x2 + 1) x3 σ) else (F_X6_howMany_27 (F_X6_howMany_4 n) x1 x2 x3 σ)))
def F_X6_howMany (x1 : Int32) (σ : St) : Rs :=
  F_X6_howMany_4 5000 x1 0 0 σ
section S_X6_howMany
variable {p : Program} {l : Launch} {e : Env} {s : State} {m : MethodId} {args : Array Value} {below : List Frame} {meth : Method} {c : Code}
variable {D : va_G} {cA : ClassId} {A : Nat → Prop} {ad : Nat → Nat} {r : Int32} {σ' : St} {ta : Nat}
set_option maxHeartbeats 4000000 in
set_option maxRecDepth 100000 in
theorem t_X6_howMany_27 {k4 : Int32 → Int32 → Int32 → St → Rs} (X : Fx p s m meth c D cA A RX6 cX6_howMany 4 (some .int)) (K4 : ∀ (x1 x2 x3 : Int32) (σ : St) (H : Heap) (locs : List Loc) (ls : Array Slot), k4 x1 x2 x3 σ = some (r, σ') → va_P D vwCl (wC cA ad ta σ) H → va_D A (wC cA ad ta σ) → va_S A s.heap H locs → lv_has ls 4 [(0, .ref (ad 4)), (1, .int x1), (2, .int x2), (3, .int x3)] → W p l e (rm_X6_howMany) s m args below meth c H locs 0 0 (MQ below (QI D cA A (wC cA ad) r σ' ta) args s 0 0 A) (F0 m 4 ls [])) {x1 x2 x3 : Int32} { σ : St} {H : Heap} {locs : List Loc} {ls : Array Slot} (hf : F_X6_howMany_27 k4 x1 x2 x3 σ = some (r, σ')) (hP : va_P D vwCl (wC cA ad ta σ) H) (hD : va_D A (wC cA ad ta σ)) (hS : va_S A s.heap H locs) (hl : lv_has ls 4 [(0, .ref (ad 4)), (1, .int x1), (2, .int x2), (3, .int x3)]) : W p l e (rm_X6_howMany) s m args below meth c H locs 0 0 (MQ below (QI D cA A (wC cA ad) r σ' ta) args s 0 0 A) (F0 m 27 ls []) := by
  obtain ⟨hx, hb, hr, hml, hown, hlk, hE, hK, hA⟩ := id X
  rw [F_X6_howMany_27] at hf
  refine lv_iinc (v := (x3 + 1)) (lv' := [(3, .int (x3 + 1)), (0, .ref (ad 4)), (1, .int x1), (2, .int x2)]) hx hb dX6_howMany_27 hl (k := 3) rfl rfl (by decide) rfl (fun ls hl => ?_)
  refine lv_goto (tgt := 4) hx hb dX6_howMany_30 (by decide) ?_
  exact K4 x1 x2 (x3 + 1) σ _ _ _ hf hP hD hS (lv_sub hl [1, 2, 3, 0] rfl)
set_option maxHeartbeats 4000000 in
set_option maxRecDepth 100000 in
theorem t_X6_howMany_4  (X : Fx p s m meth c D cA A RX6 cX6_howMany 4 (some .int))  : ∀ (n : Nat) (x1 x2 x3 : Int32) (σ : St) (H : Heap) (locs : List Loc) (ls : Array Slot), F_X6_howMany_4 n x1 x2 x3 σ = some (r, σ') → va_P D vwCl (wC cA ad ta σ) H → va_D A (wC cA ad ta σ) → va_S A s.heap H locs → lv_has ls 4 [(0, .ref (ad 4)), (1, .int x1), (2, .int x2), (3, .int x3)] → W p l e (rm_X6_howMany) s m args below meth c H locs 0 0 (MQ below (QI D cA A (wC cA ad) r σ' ta) args s 0 0 A) (F0 m 4 ls []) := by
  obtain ⟨hx, hb, hr, hml, hown, hlk, hE, hK, hA⟩ := id X
  intro n
  induction n with
  | zero =>
    intro x1 x2 x3 σ H locs ls hf
    cases (show (none : Rs) = some _ from hf)
  | succ n ih =>
    intro x1 x2 x3 σ H locs ls hf hP hD hS hl
    rw [F_X6_howMany_4] at hf
    refine lv_iload_n hx hb dX6_howMany_4 rfl (lv_at hl 3 rfl) ?_
    refine lv_aload_n hx hb dX6_howMany_5 rfl (lv_at hl 0 rfl) ?_
    refine gC_Tre_nodes X hP kw145 dX6_howMany_6 ?_
    refine lv_icmp_ge (tgt := 33) hx hb dX6_howMany_9 (by decide) (fun c1 => ?_) (fun c1 => ?_)
    · have hf := it_t c1 hf
      refine lv_iload_n hx hb dX6_howMany_33 rfl (lv_at hl 2 rfl) ?_
      obtain ⟨rfl, rfl⟩ := Prod.mk.inj (Option.some.inj hf)
      exact ret_i X hP hD hS dX6_howMany_34
    · have hf := it_f c1 hf
      refine lv_aload_n hx hb dX6_howMany_12 rfl (lv_at hl 0 rfl) ?_
      refine gC_Tre_kind X hP kw135 dX6_howMany_13 ?_
      refine lv_iload_n hx hb dX6_howMany_16 rfl (lv_at hl 3 rfl) ?_
      refine callSN_i X cs_X8_get kw619 (c_get l D cA A (wC cA ad) ta σ 23 (ad 23) 560 (gA σ 23) x3 (by decide) rfl) ⟨by decide, by decide⟩ ⟨rfl, rfl⟩ hP hD hS rfl hl rfl (Nat.le_of_ble_eq_true rfl) dX6_howMany_17 ⟨by decide, by decide⟩ (fun H locs hP hD hS => ?_)
      refine lv_topi (fun y2 ey2 => ?_)
      have hf := bd_x ey2 hf
      refine lv_iload_n hx hb dX6_howMany_20 rfl (lv_at hl 1 rfl) ?_
      refine lv_icmp_ne (tgt := 27) hx hb dX6_howMany_21 (by decide) (fun c3 => ?_) (fun c3 => ?_)
      · have hf := it_f c3 hf
        exact t_X6_howMany_27 X ih hf hP hD hS (lv_sub hl [0, 1, 2, 3] rfl)
      · have hf := it_t c3 hf
        refine lv_iinc (v := (x2 + 1)) (lv' := [(2, .int (x2 + 1)), (0, .ref (ad 4)), (1, .int x1), (3, .int x3)]) hx hb dX6_howMany_24 hl (k := 2) rfl rfl (by decide) rfl (fun ls hl => ?_)
        exact t_X6_howMany_27 X ih hf hP hD hS (lv_sub hl [1, 2, 0, 3] rfl)
set_option maxHeartbeats 4000000 in
set_option maxRecDepth 100000 in
theorem t_X6_howMany_0  (X : Fx p s m meth c D cA A RX6 cX6_howMany 4 (some .int))  {x1 : Int32} { σ : St} {H : Heap} {locs : List Loc} {ls : Array Slot} (hf : F_X6_howMany x1 σ = some (r, σ')) (hP : va_P D vwCl (wC cA ad ta σ) H) (hD : va_D A (wC cA ad ta σ)) (hS : va_S A s.heap H locs) (hl : lv_has ls 4 [(0, .ref (ad 4)), (1, .int x1)]) : W p l e (rm_X6_howMany) s m args below meth c H locs 0 0 (MQ below (QI D cA A (wC cA ad) r σ' ta) args s 0 0 A) (F0 m 0 ls []) := by
  obtain ⟨hx, hb, hr, hml, hown, hlk, hE, hK, hA⟩ := id X
  rw [F_X6_howMany] at hf
  refine lv_iconst (v := 0) hx hb dX6_howMany_0 (by decide) ?_
  refine lv_istore_n (lv' := [(2, .int 0), (0, .ref (ad 4)), (1, .int x1)]) hx hb dX6_howMany_1 rfl hl (by decide) rfl (fun ls hl => ?_)
  refine lv_iconst (v := 0) hx hb dX6_howMany_2 (by decide) ?_
  refine lv_istore_n (lv' := [(3, .int 0), (2, .int 0), (0, .ref (ad 4)), (1, .int x1)]) hx hb dX6_howMany_3 rfl hl (by decide) rfl (fun ls hl => ?_)
  exact t_X6_howMany_4 X  5000 x1 0 0 σ _ _ _ hf hP hD hS (lv_sub hl [2, 3, 1, 0] rfl)
end S_X6_howMany
theorem c_X6_howMany (l : Launch) (D : va_G) (cA : ClassId) (A : Nat → Prop) (ad : Nat → Nat) (ta : Nat) (σ : St) (x1 : Int32) (r : Int32) (σ' : St) (hf : F_X6_howMany x1 σ = some (r, σ')) : MI l D cA A (wC cA ad) yX6_howMany cX6_howMany 4 (some .int) rm_X6_howMany [.ref (ad 4), .int x1] ta σ r σ' 0 0 := by
  refine enter (by decide) (Nat.le_of_ble_eq_true rfl) ?_
  intro p e s m below meth c ls X hnm hP hD hS hl
  exact t_X6_howMany_0 X hf hP hD hS hl
abbrev rm_X6_deepest : Room := { frames := 1, cells := 0, slots := 0, locals := 21 }
def F_X6_deepest_4  : Nat → Int32 → Int32 → St → Rs
  | 0, _, _, _ => none
  | n + 1, x1, x2, σ => if (gF σ 9) ≤ x2 then (some (x1, σ)) else (bd (rd 560 (gA σ 27) x2) (fun y2 => bd (if x1 < y2 then y2 else x1) (fun y3 => F_X6_deepest_4 n y3 (x2 + 1) σ)))
def F_X6_deepest  (σ : St) : Rs :=
  F_X6_deepest_4 5000 0 0 σ
section S_X6_deepest
variable {p : Program} {l : Launch} {e : Env} {s : State} {m : MethodId} {args : Array Value} {below : List Frame} {meth : Method} {c : Code}
variable {D : va_G} {cA : ClassId} {A : Nat → Prop} {ad : Nat → Nat} {r : Int32} {σ' : St} {ta : Nat}
set_option maxHeartbeats 4000000 in
set_option maxRecDepth 100000 in
theorem t_X6_deepest_4  (X : Fx p s m meth c D cA A RX6 cX6_deepest 3 (some .int))  : ∀ (n : Nat) (x1 x2 : Int32) (σ : St) (H : Heap) (locs : List Loc) (ls : Array Slot), F_X6_deepest_4 n x1 x2 σ = some (r, σ') → va_P D vwCl (wC cA ad ta σ) H → va_D A (wC cA ad ta σ) → va_S A s.heap H locs → lv_has ls 3 [(0, .ref (ad 4)), (1, .int x1), (2, .int x2)] → W p l e (rm_X6_deepest) s m args below meth c H locs 0 0 (MQ below (QI D cA A (wC cA ad) r σ' ta) args s 0 0 A) (F0 m 4 ls []) := by
  obtain ⟨hx, hb, hr, hml, hown, hlk, hE, hK, hA⟩ := id X
  intro n
  induction n with
  | zero =>
    intro x1 x2 σ H locs ls hf
    cases (show (none : Rs) = some _ from hf)
  | succ n ih =>
    intro x1 x2 σ H locs ls hf hP hD hS hl
    rw [F_X6_deepest_4] at hf
    refine lv_iload_n hx hb dX6_deepest_4 rfl (lv_at hl 2 rfl) ?_
    refine lv_aload_n hx hb dX6_deepest_5 rfl (lv_at hl 0 rfl) ?_
    refine gC_Tre_nodes X hP kw145 dX6_deepest_6 ?_
    refine lv_icmp_ge (tgt := 31) hx hb dX6_deepest_9 (by decide) (fun c1 => ?_) (fun c1 => ?_)
    · have hf := it_t c1 hf
      refine lv_iload_n hx hb dX6_deepest_31 rfl (lv_at hl 1 rfl) ?_
      obtain ⟨rfl, rfl⟩ := Prod.mk.inj (Option.some.inj hf)
      exact ret_i X hP hD hS dX6_deepest_32
    · have hf := it_f c1 hf
      refine lv_iload_n hx hb dX6_deepest_12 rfl (lv_at hl 1 rfl) ?_
      refine lv_aload_n hx hb dX6_deepest_13 rfl (lv_at hl 0 rfl) ?_
      refine gC_Tre_depth X hP kw142 dX6_deepest_14 ?_
      refine lv_iload_n hx hb dX6_deepest_17 rfl (lv_at hl 2 rfl) ?_
      refine callSN_i X cs_X8_get kw619 (c_get l D cA A (wC cA ad) ta σ 27 (ad 27) 560 (gA σ 27) x2 (by decide) rfl) ⟨by decide, by decide⟩ ⟨rfl, rfl⟩ hP hD hS rfl hl rfl (Nat.le_of_ble_eq_true rfl) dX6_deepest_18 ⟨by decide, by decide⟩ (fun H locs hP hD hS => ?_)
      refine lv_topi (fun y2 ey2 => ?_)
      have hf := bd_x ey2 hf
      refine va_mmax hx hb (hml.trans hl.1.symm) hown (hE.at args kw672) (hE.at args kw530) (hE.at args kw11) (hE.at args kw531) (by decide) (Nat.le_of_ble_eq_true rfl) (by decide) (by decide) dX6_deepest_21 ?_
      refine lv_topi (fun y3 ey3 => ?_)
      have hf := bd_x ey3 hf
      refine lv_istore_n (lv' := [(1, .int y3), (0, .ref (ad 4)), (2, .int x2)]) hx hb dX6_deepest_24 rfl hl (by decide) rfl (fun ls hl => ?_)
      refine lv_iinc (v := (x2 + 1)) (lv' := [(2, .int (x2 + 1)), (1, .int y3), (0, .ref (ad 4))]) hx hb dX6_deepest_25 hl (k := 2) rfl rfl (by decide) rfl (fun ls hl => ?_)
      refine lv_goto (tgt := 4) hx hb dX6_deepest_28 (by decide) ?_
      exact ih y3 (x2 + 1) σ _ _ _ hf hP hD hS (lv_sub hl [2, 1, 0] rfl)
set_option maxHeartbeats 4000000 in
set_option maxRecDepth 100000 in
theorem t_X6_deepest_0  (X : Fx p s m meth c D cA A RX6 cX6_deepest 3 (some .int))  { σ : St} {H : Heap} {locs : List Loc} {ls : Array Slot} (hf : F_X6_deepest σ = some (r, σ')) (hP : va_P D vwCl (wC cA ad ta σ) H) (hD : va_D A (wC cA ad ta σ)) (hS : va_S A s.heap H locs) (hl : lv_has ls 3 [(0, .ref (ad 4))]) : W p l e (rm_X6_deepest) s m args below meth c H locs 0 0 (MQ below (QI D cA A (wC cA ad) r σ' ta) args s 0 0 A) (F0 m 0 ls []) := by
  obtain ⟨hx, hb, hr, hml, hown, hlk, hE, hK, hA⟩ := id X
  rw [F_X6_deepest] at hf
  refine lv_iconst (v := 0) hx hb dX6_deepest_0 (by decide) ?_
  refine lv_istore_n (lv' := [(1, .int 0), (0, .ref (ad 4))]) hx hb dX6_deepest_1 rfl hl (by decide) rfl (fun ls hl => ?_)
  refine lv_iconst (v := 0) hx hb dX6_deepest_2 (by decide) ?_
  refine lv_istore_n (lv' := [(2, .int 0), (1, .int 0), (0, .ref (ad 4))]) hx hb dX6_deepest_3 rfl hl (by decide) rfl (fun ls hl => ?_)
  exact t_X6_deepest_4 X  5000 0 0 σ _ _ _ hf hP hD hS (lv_sub hl [2, 1, 0] rfl)
end S_X6_deepest
theorem c_X6_deepest (l : Launch) (D : va_G) (cA : ClassId) (A : Nat → Prop) (ad : Nat → Nat) (ta : Nat) (σ : St) (r : Int32) (σ' : St) (hf : F_X6_deepest σ = some (r, σ')) : MI l D cA A (wC cA ad) yX6_deepest cX6_deepest 3 (some .int) rm_X6_deepest [.ref (ad 4)] ta σ r σ' 0 0 := by
  refine enter (by decide) (Nat.le_of_ble_eq_true rfl) ?_
  intro p e s m below meth c ls X hnm hP hD hS hl
  exact t_X6_deepest_0 X hf hP hD hS hl
abbrev rm_X6_coversWith : Room := { frames := 2, cells := 0, slots := 0, locals := 44 }
def F_X6_coversWith (x1 : Int32) (x2 : Int32) (σ : St) : Rs :=
  bd (rd 560 (gA σ 23) x2) (fun y1 => if y1 = 0 then (ck (isB 1) (some (1, σ))) else (if y1 = 2 then (if x1 ≤ 0 then (ck (isB 0) (some (0, σ))) else (ck (isB 1) (some (1, σ)))) else (bd (rd 560 (gA σ 24) x2) (fun y8 => bd (rd 512 (gA σ 18) y8) (fun y9 => bo (F_X4_typeOf y9 σ) (fun r10 s11 => bo (F_X4_constructorsOf r10 s11) (fun r13 s14 => if x1 = r13 then (ck (isB 1) (some (1, s14))) else (ck (isB 0) (some (0, s14))))))))))
section S_X6_coversWith
variable {p : Program} {l : Launch} {e : Env} {s : State} {m : MethodId} {args : Array Value} {below : List Frame} {meth : Method} {c : Code}
variable {D : va_G} {cA : ClassId} {A : Nat → Prop} {ad : Nat → Nat} {r : Int32} {σ' : St} {ta : Nat}
set_option maxHeartbeats 4000000 in
set_option maxRecDepth 100000 in
theorem t_X6_coversWith_0  (X : Fx p s m meth c D cA A RX6 cX6_coversWith 6 (some .boolean))  {x1 x2 : Int32} { σ : St} {H : Heap} {locs : List Loc} {ls : Array Slot} (hf : F_X6_coversWith x1 x2 σ = some (r, σ')) (hP : va_P D vwCl (wC cA ad ta σ) H) (hD : va_D A (wC cA ad ta σ)) (hS : va_S A s.heap H locs) (hl : lv_has ls 6 [(0, .ref (ad 4)), (1, .int x1), (2, .int x2), (3, .ref (ad 3)), (4, .ref (ad 1))]) : W p l e (rm_X6_coversWith) s m args below meth c H locs 0 0 (MQ below (QI D cA A (wC cA ad) r σ' ta) args s 0 0 A) (F0 m 0 ls []) := by
  obtain ⟨hx, hb, hr, hml, hown, hlk, hE, hK, hA⟩ := id X
  rw [F_X6_coversWith] at hf
  refine lv_aload_n hx hb dX6_coversWith_0 rfl (lv_at hl 0 rfl) ?_
  refine gC_Tre_kind X hP kw135 dX6_coversWith_1 ?_
  refine lv_iload_n hx hb dX6_coversWith_4 rfl (lv_at hl 2 rfl) ?_
  refine callSN_i X cs_X8_get kw619 (c_get l D cA A (wC cA ad) ta σ 23 (ad 23) 560 (gA σ 23) x2 (by decide) rfl) ⟨by decide, by decide⟩ ⟨rfl, rfl⟩ hP hD hS rfl hl rfl (Nat.le_of_ble_eq_true rfl) dX6_coversWith_5 ⟨by decide, by decide⟩ (fun H locs hP hD hS => ?_)
  refine lv_topi (fun y1 ey1 => ?_)
  have hf := bd_x ey1 hf
  by_cases c2 : y1 = 0
  · have hf := it_t c2 hf
    refine lv_lookup (off := 28) (tgt := 36) hx hb dX6_coversWith_8 (by decide) (by rw [c2]; decide) (by decide) ?_
    refine lv_iconst (v := 1) hx hb dX6_coversWith_36 (by decide) ?_
    obtain ⟨b3, hf⟩ := ck_e hf
    obtain ⟨rfl, rfl⟩ := Prod.mk.inj (Option.some.inj hf)
    exact ret_z X b3 hP hD hS dX6_coversWith_37
  have hf := it_f c2 hf
  by_cases c4 : y1 = 2
  · have hf := it_t c4 hf
    refine lv_lookup (off := 30) (tgt := 38) hx hb dX6_coversWith_8 (by decide) (by rw [c4]; decide) (by decide) ?_
    refine lv_iload_n hx hb dX6_coversWith_38 rfl (lv_at hl 1 rfl) ?_
    refine lv_if_le (tgt := 46) hx hb dX6_coversWith_39 (by decide) (fun c5 => ?_) (fun c5 => ?_)
    · have hf := it_t c5 hf
      refine lv_iconst (v := 0) hx hb dX6_coversWith_46 (by decide) ?_
      obtain ⟨b6, hf⟩ := ck_e hf
      obtain ⟨rfl, rfl⟩ := Prod.mk.inj (Option.some.inj hf)
      exact ret_z X b6 hP hD hS dX6_coversWith_47
    · have hf := it_f c5 hf
      refine lv_iconst (v := 1) hx hb dX6_coversWith_42 (by decide) ?_
      refine lv_goto (tgt := 47) hx hb dX6_coversWith_43 (by decide) ?_
      obtain ⟨b7, hf⟩ := ck_e hf
      obtain ⟨rfl, rfl⟩ := Prod.mk.inj (Option.some.inj hf)
      exact ret_z X b7 hP hD hS dX6_coversWith_47
  have hf := it_f c4 hf
  refine lv_lookup (off := 40) (tgt := 48) hx hb dX6_coversWith_8 (by decide) (by show Op.lookupswitch.offset [(0, 28), (2, 30)] _ _ = _; rw [lv_osw c2 (a := 0) rfl, lv_osw c4 (a := 2) rfl]; rfl) (by decide) ?_
  refine lv_aload_n hx hb dX6_coversWith_48 rfl (lv_at hl 3 rfl) ?_
  refine gCN_Rul_symbol X hP kw100 dX6_coversWith_49 ?_
  refine lv_aload_n hx hb dX6_coversWith_52 rfl (lv_at hl 0 rfl) ?_
  refine gC_Tre_subject X hP kw137 dX6_coversWith_53 ?_
  refine lv_iload_n hx hb dX6_coversWith_56 rfl (lv_at hl 2 rfl) ?_
  refine callSN_i X cs_X8_get kw619 (c_get l D cA A (wC cA ad) ta σ 24 (ad 24) 560 (gA σ 24) x2 (by decide) rfl) ⟨by decide, by decide⟩ ⟨rfl, rfl⟩ hP hD hS rfl hl rfl (Nat.le_of_ble_eq_true rfl) dX6_coversWith_57 ⟨by decide, by decide⟩ (fun H locs hP hD hS => ?_)
  refine lv_topi (fun y8 ey8 => ?_)
  have hf := bd_x ey8 hf
  refine callSN_i X cs_X8_get kw619 (c_get l D cA A (wC cA ad) ta σ 18 (ad 18) 512 (gA σ 18) y8 (by decide) rfl) ⟨by decide, by decide⟩ ⟨rfl, rfl⟩ hP hD hS rfl hl rfl (Nat.le_of_ble_eq_true rfl) dX6_coversWith_60 ⟨by decide, by decide⟩ (fun H locs hP hD hS => ?_)
  refine lv_topi (fun y9 ey9 => ?_)
  have hf := bd_x ey9 hf
  refine lv_istore (lv' := [(5, .int y9), (0, .ref (ad 4)), (1, .int x1), (2, .int x2), (3, .ref (ad 3)), (4, .ref (ad 1))]) hx hb dX6_coversWith_63 hl (by decide) rfl (fun ls hl => ?_)
  refine lv_iload_n hx hb dX6_coversWith_65 rfl (lv_at hl 2 rfl) ?_
  refine lv_aload hx hb dX6_coversWith_66 (lv_at hl 5 rfl) ?_
  refine lv_aload hx hb dX6_coversWith_68 (lv_at hl 5 rfl) ?_
  refine lv_iload hx hb dX6_coversWith_70 (lv_at hl 0 rfl) ?_
  obtain ⟨r10, s11, h12, hf⟩ := bo_e hf
  refine callVN_i X cv_X4_typeOf kw646 (c_X4_typeOf l D cA A ad ta σ y9 r10 s11 h12) ⟨by decide, by decide⟩ ⟨rfl, rfl⟩ hP hD hS (q0 := 1) (ci := 4) rfl rfl rfl rfl hl rfl (Nat.le_of_ble_eq_true rfl) dX6_coversWith_72 ⟨by decide, by decide⟩ (fun H locs hP hD hS => ?_)
  obtain ⟨r13, s14, h15, hf⟩ := bo_e hf
  refine callVN_i X cv_X4_constructorsOf kw647 (c_X4_constructorsOf l D cA A ad ta s11 r10 r13 s14 h15) ⟨by decide, by decide⟩ ⟨rfl, rfl⟩ hP hD hS (q0 := 1) (ci := 4) rfl rfl rfl rfl hl rfl (Nat.le_of_ble_eq_true rfl) dX6_coversWith_75 ⟨by decide, by decide⟩ (fun H locs hP hD hS => ?_)
  refine lv_icmp_ne (tgt := 85) hx hb dX6_coversWith_78 (by decide) (fun c16 => ?_) (fun c16 => ?_)
  · have hf := it_f c16 hf
    refine lv_iconst (v := 0) hx hb dX6_coversWith_85 (by decide) ?_
    obtain ⟨b17, hf⟩ := ck_e hf
    obtain ⟨rfl, rfl⟩ := Prod.mk.inj (Option.some.inj hf)
    exact ret_z X b17 hP hD hS dX6_coversWith_86
  · have hf := it_t c16 hf
    refine lv_iconst (v := 1) hx hb dX6_coversWith_81 (by decide) ?_
    refine lv_goto (tgt := 86) hx hb dX6_coversWith_82 (by decide) ?_
    obtain ⟨b18, hf⟩ := ck_e hf
    obtain ⟨rfl, rfl⟩ := Prod.mk.inj (Option.some.inj hf)
    exact ret_z X b18 hP hD hS dX6_coversWith_86
end S_X6_coversWith
theorem c_X6_coversWith (l : Launch) (D : va_G) (cA : ClassId) (A : Nat → Prop) (ad : Nat → Nat) (ta : Nat) (σ : St) (x1 x2 : Int32) (r : Int32) (σ' : St) (hf : F_X6_coversWith x1 x2 σ = some (r, σ')) : MI l D cA A (wC cA ad) yX6_coversWith cX6_coversWith 6 (some .boolean) rm_X6_coversWith [.ref (ad 4), .int x1, .int x2, .ref (ad 3), .ref (ad 1)] ta σ r σ' 0 0 := by
  refine enter (by decide) (Nat.le_of_ble_eq_true rfl) ?_
  intro p e s m below meth c ls X hnm hP hD hS hl
  exact t_X6_coversWith_0 X hf hP hD hS hl
abbrev rm_X6_coversAll : Room := { frames := 3, cells := 0, slots := 0, locals := 69 }
def F_X6_coversAll_92  (σ : St) : Rs :=
  bd (rd 186 (gA σ 28) 0) (fun y1 => if y1 ≤ 0 then (ck (isB 0) (some (0, σ))) else (ck (isB 1) (some (1, σ))))
def F_X6_coversAll_86 (k15 : Int32 → St → Rs) (x3 : Int32) (σ : St) : Rs :=
  k15 (x3 + (-1)) σ
def F_X6_coversAll_15  : Nat → Int32 → St → Rs
  | 0, _, _ => none
  | n + 1, x3, σ => if x3 < 0 then (F_X6_coversAll_92 σ) else (bd (rd 560 (gA σ 27) x3) (fun y2 => bd (rd 186 (gA σ 28) (y2 + 1)) (fun y3 => bd (sA σ 28 (wr 186 (gA σ 28) (y2 + 1) 0)) (fun s4 => bo (F_X6_coversWith y3 x3 s4) (fun r5 s6 => if r5 = 0 then (F_X6_coversAll_86 (F_X6_coversAll_15 n) x3 s6) else (bd (rd 186 (gA s6 28) y2) (fun y9 => bd (sA s6 28 (wr 186 (gA s6 28) y2 (y9 + 1))) (fun s10 => F_X6_coversAll_86 (F_X6_coversAll_15 n) x3 s10))))))))
def F_X6_coversAll  (σ : St) : Rs :=
  bd (sA σ 28 (fl 186 (gA σ 28) 0)) (fun s1 => bd ((gF s1 9) - 1) (fun y2 => F_X6_coversAll_15 5000 y2 s1))
section S_X6_coversAll
variable {p : Program} {l : Launch} {e : Env} {s : State} {m : MethodId} {args : Array Value} {below : List Frame} {meth : Method} {c : Code}
variable {D : va_G} {cA : ClassId} {A : Nat → Prop} {ad : Nat → Nat} {r : Int32} {σ' : St} {ta : Nat}
set_option maxHeartbeats 4000000 in
set_option maxRecDepth 100000 in
theorem t_X6_coversAll_92  (X : Fx p s m meth c D cA A RX6 cX6_coversAll 6 (some .boolean))  { σ : St} {H : Heap} {locs : List Loc} {ls : Array Slot} (hf : F_X6_coversAll_92 σ = some (r, σ')) (hP : va_P D vwCl (wC cA ad ta σ) H) (hD : va_D A (wC cA ad ta σ)) (hS : va_S A s.heap H locs) (hl : lv_has ls 6 [(0, .ref (ad 4))]) : W p l e (rm_X6_coversAll) s m args below meth c H locs 0 0 (MQ below (QI D cA A (wC cA ad) r σ' ta) args s 0 0 A) (F0 m 92 ls []) := by
  obtain ⟨hx, hb, hr, hml, hown, hlk, hE, hK, hA⟩ := id X
  rw [F_X6_coversAll_92] at hf
  refine lv_aload_n hx hb dX6_coversAll_92 rfl (lv_at hl 0 rfl) ?_
  refine gC_Tre_covering X hP kw144 dX6_coversAll_93 ?_
  refine lv_iconst (v := 0) hx hb dX6_coversAll_96 (by decide) ?_
  refine callSN_i X cs_X8_get kw619 (c_get l D cA A (wC cA ad) ta σ 28 (ad 28) 186 (gA σ 28) 0 (by decide) rfl) ⟨by decide, by decide⟩ ⟨rfl, rfl⟩ hP hD hS rfl hl rfl (Nat.le_of_ble_eq_true rfl) dX6_coversAll_97 ⟨by decide, by decide⟩ (fun H locs hP hD hS => ?_)
  refine lv_topi (fun y1 ey1 => ?_)
  have hf := bd_x ey1 hf
  refine lv_if_le (tgt := 107) hx hb dX6_coversAll_100 (by decide) (fun c2 => ?_) (fun c2 => ?_)
  · have hf := it_t c2 hf
    refine lv_iconst (v := 0) hx hb dX6_coversAll_107 (by decide) ?_
    obtain ⟨b3, hf⟩ := ck_e hf
    obtain ⟨rfl, rfl⟩ := Prod.mk.inj (Option.some.inj hf)
    exact ret_z X b3 hP hD hS dX6_coversAll_108
  · have hf := it_f c2 hf
    refine lv_iconst (v := 1) hx hb dX6_coversAll_103 (by decide) ?_
    refine lv_goto (tgt := 108) hx hb dX6_coversAll_104 (by decide) ?_
    obtain ⟨b4, hf⟩ := ck_e hf
    obtain ⟨rfl, rfl⟩ := Prod.mk.inj (Option.some.inj hf)
    exact ret_z X b4 hP hD hS dX6_coversAll_108
set_option maxHeartbeats 4000000 in
set_option maxRecDepth 100000 in
theorem t_X6_coversAll_86 {k15 : Int32 → St → Rs} (X : Fx p s m meth c D cA A RX6 cX6_coversAll 6 (some .boolean)) (K15 : ∀ (x3 : Int32) (σ : St) (H : Heap) (locs : List Loc) (ls : Array Slot), k15 x3 σ = some (r, σ') → va_P D vwCl (wC cA ad ta σ) H → va_D A (wC cA ad ta σ) → va_S A s.heap H locs → lv_has ls 6 [(0, .ref (ad 4)), (1, .ref (ad 3)), (2, .ref (ad 1)), (3, .int x3)] → W p l e (rm_X6_coversAll) s m args below meth c H locs 0 0 (MQ below (QI D cA A (wC cA ad) r σ' ta) args s 0 0 A) (F0 m 15 ls [])) {x3 : Int32} { σ : St} {H : Heap} {locs : List Loc} {ls : Array Slot} (hf : F_X6_coversAll_86 k15 x3 σ = some (r, σ')) (hP : va_P D vwCl (wC cA ad ta σ) H) (hD : va_D A (wC cA ad ta σ)) (hS : va_S A s.heap H locs) (hl : lv_has ls 6 [(0, .ref (ad 4)), (1, .ref (ad 3)), (2, .ref (ad 1)), (3, .int x3)]) : W p l e (rm_X6_coversAll) s m args below meth c H locs 0 0 (MQ below (QI D cA A (wC cA ad) r σ' ta) args s 0 0 A) (F0 m 86 ls []) := by
  obtain ⟨hx, hb, hr, hml, hown, hlk, hE, hK, hA⟩ := id X
  rw [F_X6_coversAll_86] at hf
  refine lv_iinc (v := (x3 + (-1))) (lv' := [(3, .int (x3 + (-1))), (0, .ref (ad 4)), (1, .ref (ad 3)), (2, .ref (ad 1))]) hx hb dX6_coversAll_86 hl (k := 3) rfl rfl (by decide) rfl (fun ls hl => ?_)
  refine lv_goto (tgt := 15) hx hb dX6_coversAll_89 (by decide) ?_
  exact K15 (x3 + (-1)) σ _ _ _ hf hP hD hS (lv_sub hl [1, 2, 3, 0] rfl)
set_option maxHeartbeats 4000000 in
set_option maxRecDepth 100000 in
theorem t_X6_coversAll_15  (X : Fx p s m meth c D cA A RX6 cX6_coversAll 6 (some .boolean))  : ∀ (n : Nat) (x3 : Int32) (σ : St) (H : Heap) (locs : List Loc) (ls : Array Slot), F_X6_coversAll_15 n x3 σ = some (r, σ') → va_P D vwCl (wC cA ad ta σ) H → va_D A (wC cA ad ta σ) → va_S A s.heap H locs → lv_has ls 6 [(0, .ref (ad 4)), (1, .ref (ad 3)), (2, .ref (ad 1)), (3, .int x3)] → W p l e (rm_X6_coversAll) s m args below meth c H locs 0 0 (MQ below (QI D cA A (wC cA ad) r σ' ta) args s 0 0 A) (F0 m 15 ls []) := by
  obtain ⟨hx, hb, hr, hml, hown, hlk, hE, hK, hA⟩ := id X
  intro n
  induction n with
  | zero =>
    intro x3 σ H locs ls hf
    cases (show (none : Rs) = some _ from hf)
  | succ n ih =>
    intro x3 σ H locs ls hf hP hD hS hl
    rw [F_X6_coversAll_15] at hf
    refine lv_iload_n hx hb dX6_coversAll_15 rfl (lv_at hl 3 rfl) ?_
    refine lv_if_lt (tgt := 92) hx hb dX6_coversAll_16 (by decide) (fun c1 => ?_) (fun c1 => ?_)
    · have hf := it_t c1 hf
      exact t_X6_coversAll_92 X  hf hP hD hS (lv_sub hl [0] rfl)
    · have hf := it_f c1 hf
      refine lv_aload_n hx hb dX6_coversAll_19 rfl (lv_at hl 0 rfl) ?_
      refine gC_Tre_depth X hP kw142 dX6_coversAll_20 ?_
      refine lv_iload_n hx hb dX6_coversAll_23 rfl (lv_at hl 3 rfl) ?_
      refine callSN_i X cs_X8_get kw619 (c_get l D cA A (wC cA ad) ta σ 27 (ad 27) 560 (gA σ 27) x3 (by decide) rfl) ⟨by decide, by decide⟩ ⟨rfl, rfl⟩ hP hD hS rfl hl rfl (Nat.le_of_ble_eq_true rfl) dX6_coversAll_24 ⟨by decide, by decide⟩ (fun H locs hP hD hS => ?_)
      refine lv_topi (fun y2 ey2 => ?_)
      have hf := bd_x ey2 hf
      refine lv_istore (lv' := [(4, .int y2), (0, .ref (ad 4)), (1, .ref (ad 3)), (2, .ref (ad 1)), (3, .int x3)]) hx hb dX6_coversAll_27 hl (by decide) rfl (fun ls hl => ?_)
      refine lv_aload_n hx hb dX6_coversAll_29 rfl (lv_at hl 1 rfl) ?_
      refine gC_Tre_covering X hP kw144 dX6_coversAll_30 ?_
      refine lv_iload hx hb dX6_coversAll_33 (lv_at hl 0 rfl) ?_
      refine lv_iconst (v := 1) hx hb dX6_coversAll_35 (by decide) ?_
      refine lv_iadd hx hb dX6_coversAll_36 ?_
      refine callSN_i X cs_X8_get kw619 (c_get l D cA A (wC cA ad) ta σ 28 (ad 28) 186 (gA σ 28) (y2 + 1) (by decide) rfl) ⟨by decide, by decide⟩ ⟨rfl, rfl⟩ hP hD hS rfl hl rfl (Nat.le_of_ble_eq_true rfl) dX6_coversAll_37 ⟨by decide, by decide⟩ (fun H locs hP hD hS => ?_)
      refine lv_topi (fun y3 ey3 => ?_)
      have hf := bd_x ey3 hf
      refine lv_istore (lv' := [(5, .int y3), (4, .int y2), (0, .ref (ad 4)), (1, .ref (ad 3)), (2, .ref (ad 1)), (3, .int x3)]) hx hb dX6_coversAll_40 hl (by decide) rfl (fun ls hl => ?_)
      refine lv_aload_n hx hb dX6_coversAll_42 rfl (lv_at hl 2 rfl) ?_
      refine gC_Tre_covering X hP kw144 dX6_coversAll_43 ?_
      refine lv_iload hx hb dX6_coversAll_46 (lv_at hl 1 rfl) ?_
      refine lv_iconst (v := 1) hx hb dX6_coversAll_48 (by decide) ?_
      refine lv_iadd hx hb dX6_coversAll_49 ?_
      refine lv_iconst (v := 0) hx hb dX6_coversAll_50 (by decide) ?_
      refine callSN_v X cs_X8_set kw540 (c_set l D cA A (wC cA ad) ta σ 28 (ad 28) 186 28 (y2 + 1) 0 (by decide) rfl (fun f => wC_a28 f)) ⟨by decide, by decide⟩ ⟨rfl, rfl⟩ hP hD hS rfl hl rfl (Nat.le_of_ble_eq_true rfl) dX6_coversAll_51 ⟨by decide, by decide⟩ (fun H locs hP hD hS => ?_)
      obtain ⟨s4, es4, hf⟩ := bd_e hf
      rw [← es4] at hP hD
      refine lv_aload_n hx hb dX6_coversAll_54 rfl (lv_at hl 2 rfl) ?_
      refine lv_iload hx hb dX6_coversAll_55 (lv_at hl 0 rfl) ?_
      refine lv_iload_n hx hb dX6_coversAll_57 rfl (lv_at hl 5 rfl) ?_
      refine lv_aload_n hx hb dX6_coversAll_58 rfl (lv_at hl 3 rfl) ?_
      refine lv_aload_n hx hb dX6_coversAll_59 rfl (lv_at hl 4 rfl) ?_
      obtain ⟨r5, s6, h7, hf⟩ := bo_e hf
      refine callV_i X cv_X6_coversWith kw642 (c_X6_coversWith l D cA A ad ta s4 y3 x3 r5 s6 h7) ⟨by decide, by decide⟩ ⟨rfl, rfl⟩ hP hD hS (q0 := 4) (ci := 6) rfl rfl rfl rfl hl rfl (Nat.le_of_ble_eq_true rfl) dX6_coversAll_60 ⟨by decide, by decide⟩ (fun H locs hP hD hS => ?_)
      refine lv_if_eq (tgt := 86) hx hb dX6_coversAll_63 (by decide) (fun c8 => ?_) (fun c8 => ?_)
      · have hf := it_t c8 hf
        exact t_X6_coversAll_86 X ih hf hP hD hS (lv_sub hl [2, 3, 4, 5] rfl)
      · have hf := it_f c8 hf
        refine lv_aload_n hx hb dX6_coversAll_66 rfl (lv_at hl 2 rfl) ?_
        refine gC_Tre_covering X hP kw144 dX6_coversAll_67 ?_
        refine lv_iload hx hb dX6_coversAll_70 (lv_at hl 1 rfl) ?_
        refine lv_aload_n hx hb dX6_coversAll_72 rfl (lv_at hl 2 rfl) ?_
        refine gC_Tre_covering X hP kw144 dX6_coversAll_73 ?_
        refine lv_iload hx hb dX6_coversAll_76 (lv_at hl 1 rfl) ?_
        refine callSN_i X cs_X8_get kw619 (c_get l D cA A (wC cA ad) ta s6 28 (ad 28) 186 (gA s6 28) y2 (by decide) rfl) ⟨by decide, by decide⟩ ⟨rfl, rfl⟩ hP hD hS rfl hl rfl (Nat.le_of_ble_eq_true rfl) dX6_coversAll_78 ⟨by decide, by decide⟩ (fun H locs hP hD hS => ?_)
        refine lv_topi (fun y9 ey9 => ?_)
        have hf := bd_x ey9 hf
        refine lv_iconst (v := 1) hx hb dX6_coversAll_81 (by decide) ?_
        refine lv_iadd hx hb dX6_coversAll_82 ?_
        refine callSN_v X cs_X8_set kw540 (c_set l D cA A (wC cA ad) ta s6 28 (ad 28) 186 28 y2 (y9 + 1) (by decide) rfl (fun f => wC_a28 f)) ⟨by decide, by decide⟩ ⟨rfl, rfl⟩ hP hD hS rfl hl rfl (Nat.le_of_ble_eq_true rfl) dX6_coversAll_83 ⟨by decide, by decide⟩ (fun H locs hP hD hS => ?_)
        obtain ⟨s10, es10, hf⟩ := bd_e hf
        rw [← es10] at hP hD
        exact t_X6_coversAll_86 X ih hf hP hD hS (lv_sub hl [2, 3, 4, 5] rfl)
set_option maxHeartbeats 4000000 in
set_option maxRecDepth 100000 in
theorem t_X6_coversAll_0  (X : Fx p s m meth c D cA A RX6 cX6_coversAll 6 (some .boolean))  { σ : St} {H : Heap} {locs : List Loc} {ls : Array Slot} (hf : F_X6_coversAll σ = some (r, σ')) (hP : va_P D vwCl (wC cA ad ta σ) H) (hD : va_D A (wC cA ad ta σ)) (hS : va_S A s.heap H locs) (hl : lv_has ls 6 [(0, .ref (ad 4)), (1, .ref (ad 3)), (2, .ref (ad 1))]) : W p l e (rm_X6_coversAll) s m args below meth c H locs 0 0 (MQ below (QI D cA A (wC cA ad) r σ' ta) args s 0 0 A) (F0 m 0 ls []) := by
  obtain ⟨hx, hb, hr, hml, hown, hlk, hE, hK, hA⟩ := id X
  rw [F_X6_coversAll] at hf
  refine lv_aload_n hx hb dX6_coversAll_0 rfl (lv_at hl 0 rfl) ?_
  refine gC_Tre_covering X hP kw144 dX6_coversAll_1 ?_
  refine lv_iconst (v := 0) hx hb dX6_coversAll_4 (by decide) ?_
  refine callS_v X cs_J7_fill_53178 kw641 (c_fill l D cA A (wC cA ad) ta σ 28 (ad 28) 186 28 0 (by decide) (fun f => rfl) (fun g f => rfl) (sA_gA _ _)) ⟨by decide, by decide⟩ ⟨rfl, rfl⟩ hP hD hS rfl hl rfl (Nat.le_of_ble_eq_true rfl) dX6_coversAll_5 ⟨by decide, by decide⟩ (fun H locs hP hD hS => ?_)
  obtain ⟨s1, es1, hf⟩ := bd_e hf
  rw [← es1] at hP hD
  refine lv_aload_n hx hb dX6_coversAll_8 rfl (lv_at hl 0 rfl) ?_
  refine gC_Tre_nodes X hP kw145 dX6_coversAll_9 ?_
  refine lv_iconst (v := 1) hx hb dX6_coversAll_12 (by decide) ?_
  refine lv_isub hx hb dX6_coversAll_13 ?_
  refine lv_topi (fun y2 ey2 => ?_)
  have hf := bd_x ey2 hf
  refine lv_istore_n (lv' := [(3, .int y2), (0, .ref (ad 4)), (1, .ref (ad 3)), (2, .ref (ad 1))]) hx hb dX6_coversAll_14 rfl hl (by decide) rfl (fun ls hl => ?_)
  exact t_X6_coversAll_15 X  5000 y2 s1 _ _ _ hf hP hD hS (lv_sub hl [1, 2, 3, 0] rfl)
end S_X6_coversAll
theorem c_X6_coversAll (l : Launch) (D : va_G) (cA : ClassId) (A : Nat → Prop) (ad : Nat → Nat) (ta : Nat) (σ : St) (r : Int32) (σ' : St) (hf : F_X6_coversAll σ = some (r, σ')) : MI l D cA A (wC cA ad) yX6_coversAll cX6_coversAll 6 (some .boolean) rm_X6_coversAll [.ref (ad 4), .ref (ad 3), .ref (ad 1)] ta σ r σ' 0 0 := by
  refine enter (by decide) (Nat.le_of_ble_eq_true rfl) ?_
  intro p e s m below meth c ls X hnm hP hD hS hl
  exact t_X6_coversAll_0 X hf hP hD hS hl
