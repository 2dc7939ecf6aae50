abbrev rm_X8_type : Room := { frames := 1, cells := 0, slots := 0, locals := 20 }
def F_X8_type  (σ : St) : Rs :=
  bo (F_X4_addType  σ) (fun r1 s2 => some (r1, s2))
section S_X8_type
variable {p : Program} {l : Launch} {e : Env} {s : State} {m : MethodId} {args : Array Value} {below : List Frame} {meth : Method} {c : Code}
variable {D : va_G} {cA : ClassId} {A : Nat → Prop} {ad : Nat → Nat} {r : Int32} {σ' : St} {ta : Nat}
set_option maxHeartbeats 4000000 in
set_option maxRecDepth 100000 in
theorem t_X8_type_0  (X : Fx p s m meth c D cA A RX8 cX8_type 1 (some .int))  { σ : St} {H : Heap} {locs : List Loc} {ls : Array Slot} (hf : F_X8_type σ = some (r, σ')) (hP : va_P D vwCl (wC cA ad ta σ) H) (hD : va_D A (wC cA ad ta σ)) (hS : va_S A s.heap H locs) (hl : lv_has ls 1 [(0, .ref (ad 0))]) : W p l e (rm_X8_type) s m args below meth c H locs 0 0 (MQ below (QI D cA A (wC cA ad) r σ' ta) args s 0 0 A) (F0 m 0 ls []) := by
  obtain ⟨hx, hb, hr, hml, hown, hlk, hE, hK, hA⟩ := id X
  rw [F_X8_type] at hf
  refine lv_aload_n hx hb dX8_type_0 rfl (lv_at hl 0 rfl) ?_
  refine gC_Top_signature X hP kw295 dX8_type_1 ?_
  obtain ⟨r1, s2, h3, hf⟩ := bo_e hf
  refine callVN_i X cv_X4_addType kw327 (c_X4_addType l D cA A ad ta σ  r1 s2 h3) ⟨by decide, by decide⟩ ⟨rfl, rfl⟩ hP hD hS (q0 := 1) (ci := 4) rfl rfl rfl rfl hl rfl (Nat.le_of_ble_eq_true rfl) dX8_type_4 ⟨by decide, by decide⟩ (fun H locs hP hD hS => ?_)
  obtain ⟨rfl, rfl⟩ := Prod.mk.inj (Option.some.inj hf)
  exact ret_i X hP hD hS dX8_type_7
end S_X8_type
theorem c_X8_type (l : Launch) (D : va_G) (cA : ClassId) (A : Nat → Prop) (ad : Nat → Nat) (ta : Nat) (σ : St) (r : Int32) (σ' : St) (hf : F_X8_type σ = some (r, σ')) : MI l D cA A (wC cA ad) yX8_type cX8_type 1 (some .int) rm_X8_type [.ref (ad 0)] ta σ r σ' 0 0 := by
  refine enter (by decide) (Nat.le_of_ble_eq_true rfl) ?_
  intro p e s m below meth c ls X hnm hP hD hS hl
  exact t_X8_type_0 X hf hP hD hS hl
abbrev rm_X8_constructor : Room := { frames := 3, cells := 0, slots := 0, locals := 67 }
def F_X8_constructor (x1 : Int32) (x2 : Int32) (x3 : Int32) (σ : St) : Rs :=
  bo (F_X4_addConstructor x1 x2 x3 σ) (fun r1 s2 => if r1 = (-1) then (some (r1, s2)) else (bo (F_X0_clear  s2) (fun r5 s6 => some (r1, s6))))
section S_X8_constructor
variable {p : Program} {l : Launch} {e : Env} {s : State} {m : MethodId} {args : Array Value} {below : List Frame} {meth : Method} {c : Code}
variable {D : va_G} {cA : ClassId} {A : Nat → Prop} {ad : Nat → Nat} {r : Int32} {σ' : St} {ta : Nat}
set_option maxHeartbeats 4000000 in
set_option maxRecDepth 100000 in
theorem t_X8_constructor_0  (X : Fx p s m meth c D cA A RX8 cX8_constructor 5 (some .int))  {x1 x2 x3 : Int32} { σ : St} {H : Heap} {locs : List Loc} {ls : Array Slot} (hf : F_X8_constructor x1 x2 x3 σ = some (r, σ')) (hP : va_P D vwCl (wC cA ad ta σ) H) (hD : va_D A (wC cA ad ta σ)) (hS : va_S A s.heap H locs) (hl : lv_has ls 5 [(0, .ref (ad 0)), (1, .int x1), (2, .int x2), (3, .int x3)]) : W p l e (rm_X8_constructor) s m args below meth c H locs 0 0 (MQ below (QI D cA A (wC cA ad) r σ' ta) args s 0 0 A) (F0 m 0 ls []) := by
  obtain ⟨hx, hb, hr, hml, hown, hlk, hE, hK, hA⟩ := id X
  rw [F_X8_constructor] at hf
  refine lv_aload_n hx hb dX8_constructor_0 rfl (lv_at hl 0 rfl) ?_
  refine gC_Top_signature X hP kw295 dX8_constructor_1 ?_
  refine lv_iload_n hx hb dX8_constructor_4 rfl (lv_at hl 1 rfl) ?_
  refine lv_iload_n hx hb dX8_constructor_5 rfl (lv_at hl 2 rfl) ?_
  refine lv_iload_n hx hb dX8_constructor_6 rfl (lv_at hl 3 rfl) ?_
  obtain ⟨r1, s2, h3, hf⟩ := bo_e hf
  refine callVN_i X cv_X4_addConstructor kw335 (c_X4_addConstructor l D cA A ad ta σ x1 x2 x3 r1 s2 h3) ⟨by decide, by decide⟩ ⟨rfl, rfl⟩ hP hD hS (q0 := 1) (ci := 4) rfl rfl rfl rfl hl rfl (Nat.le_of_ble_eq_true rfl) dX8_constructor_7 ⟨by decide, by decide⟩ (fun H locs hP hD hS => ?_)
  refine lv_istore (lv' := [(4, .int r1), (0, .ref (ad 0)), (1, .int x1), (2, .int x2), (3, .int x3)]) hx hb dX8_constructor_10 hl (by decide) rfl (fun ls hl => ?_)
  refine lv_iload hx hb dX8_constructor_12 (lv_at hl 0 rfl) ?_
  refine lv_iconst (v := -1) hx hb dX8_constructor_14 (by decide) ?_
  refine lv_icmp_eq (tgt := 25) hx hb dX8_constructor_15 (by decide) (fun c4 => ?_) (fun c4 => ?_)
  · have hf := it_t c4 hf
    refine lv_iload hx hb dX8_constructor_25 (lv_at hl 0 rfl) ?_
    obtain ⟨rfl, rfl⟩ := Prod.mk.inj (Option.some.inj hf)
    exact ret_i X hP hD hS dX8_constructor_27
  · have hf := it_f c4 hf
    refine lv_aload_n hx hb dX8_constructor_18 rfl (lv_at hl 1 rfl) ?_
    refine gC_Top_outcomes X hP kw301 dX8_constructor_19 ?_
    obtain ⟨r5, s6, h7, hf⟩ := bo_e hf
    refine callVN_v X cv_X0_clear kw349 (c_X0_clear l D cA A ad ta s2  r5 s6 h7) ⟨by decide, by decide⟩ ⟨rfl, rfl⟩ hP hD hS (q0 := 7) (ci := 0) rfl rfl rfl rfl hl rfl (Nat.le_of_ble_eq_true rfl) dX8_constructor_22 ⟨by decide, by decide⟩ (fun H locs hP hD hS => ?_)
    refine lv_iload hx hb dX8_constructor_25 (lv_at hl 0 rfl) ?_
    obtain ⟨rfl, rfl⟩ := Prod.mk.inj (Option.some.inj hf)
    exact ret_i X hP hD hS dX8_constructor_27
end S_X8_constructor
theorem c_X8_constructor (l : Launch) (D : va_G) (cA : ClassId) (A : Nat → Prop) (ad : Nat → Nat) (ta : Nat) (σ : St) (x1 x2 x3 : Int32) (r : Int32) (σ' : St) (hf : F_X8_constructor x1 x2 x3 σ = some (r, σ')) : MI l D cA A (wC cA ad) yX8_constructor cX8_constructor 5 (some .int) rm_X8_constructor [.ref (ad 0), .int x1, .int x2, .int x3] ta σ r σ' 0 0 := by
  refine enter (by decide) (Nat.le_of_ble_eq_true rfl) ?_
  intro p e s m below meth c ls X hnm hP hD hS hl
  exact t_X8_constructor_0 X hf hP hD hS hl
abbrev rm_X8_begin : Room := { frames := 3, cells := 0, slots := 0, locals := 66 }
def F_X8_begin (x1 : Int32) (x2 : Int32) (σ : St) : Rs :=
  bo (F_X4_setFunction x1 x2 σ) (fun r1 s2 => if r1 = 0 then (ck (isB 0) (some (0, s2))) else (bo (F_X3_clear  s2) (fun r5 s6 => ck (isB 1) (bd (sF s6 0 1) (fun s9 => bo (F_X0_clear  s9) (fun r10 s11 => ck (isB 1) (some (1, s11))))))))
section S_X8_begin
variable {p : Program} {l : Launch} {e : Env} {s : State} {m : MethodId} {args : Array Value} {below : List Frame} {meth : Method} {c : Code}
variable {D : va_G} {cA : ClassId} {A : Nat → Prop} {ad : Nat → Nat} {r : Int32} {σ' : St} {ta : Nat}
set_option maxHeartbeats 4000000 in
set_option maxRecDepth 100000 in
theorem t_X8_begin_0  (X : Fx p s m meth c D cA A RX8 cX8_begin 3 (some .boolean))  {x1 x2 : Int32} { σ : St} {H : Heap} {locs : List Loc} {ls : Array Slot} (hf : F_X8_begin x1 x2 σ = some (r, σ')) (hP : va_P D vwCl (wC cA ad ta σ) H) (hD : va_D A (wC cA ad ta σ)) (hS : va_S A s.heap H locs) (hl : lv_has ls 3 [(0, .ref (ad 0)), (1, .int x1), (2, .int x2)]) : W p l e (rm_X8_begin) s m args below meth c H locs 0 0 (MQ below (QI D cA A (wC cA ad) r σ' ta) args s 0 0 A) (F0 m 0 ls []) := by
  obtain ⟨hx, hb, hr, hml, hown, hlk, hE, hK, hA⟩ := id X
  rw [F_X8_begin] at hf
  refine lv_aload_n hx hb dX8_begin_0 rfl (lv_at hl 0 rfl) ?_
  refine gC_Top_signature X hP kw295 dX8_begin_1 ?_
  refine lv_iload_n hx hb dX8_begin_4 rfl (lv_at hl 1 rfl) ?_
  refine lv_iload_n hx hb dX8_begin_5 rfl (lv_at hl 2 rfl) ?_
  obtain ⟨r1, s2, h3, hf⟩ := bo_e hf
  refine callVN_i X cv_X4_setFunction kw357 (c_X4_setFunction l D cA A ad ta σ x1 x2 r1 s2 h3) ⟨by decide, by decide⟩ ⟨rfl, rfl⟩ hP hD hS (q0 := 1) (ci := 4) rfl rfl rfl rfl hl rfl (Nat.le_of_ble_eq_true rfl) dX8_begin_6 ⟨by decide, by decide⟩ (fun H locs hP hD hS => ?_)
  refine lv_if_ne (tgt := 14) hx hb dX8_begin_9 (by decide) (fun c4 => ?_) (fun c4 => ?_)
  · have hf := it_f c4 hf
    refine lv_aload_n hx hb dX8_begin_14 rfl (lv_at hl 0 rfl) ?_
    refine gC_Top_rules X hP kw297 dX8_begin_15 ?_
    obtain ⟨r5, s6, h7, hf⟩ := bo_e hf
    refine callVN_v X cv_X3_clear kw361 (c_X3_clear l D cA A ad ta s2  r5 s6 h7) ⟨by decide, by decide⟩ ⟨rfl, rfl⟩ hP hD hS (q0 := 3) (ci := 3) rfl rfl rfl rfl hl rfl (Nat.le_of_ble_eq_true rfl) dX8_begin_18 ⟨by decide, by decide⟩ (fun H locs hP hD hS => ?_)
    refine lv_aload_n hx hb dX8_begin_21 rfl (lv_at hl 0 rfl) ?_
    refine lv_iconst (v := 1) hx hb dX8_begin_22 (by decide) ?_
    obtain ⟨b8, hf⟩ := ck_e hf
    refine pC_Top_treeIsOld X b8 hP hD hS kw303 dX8_begin_23 (fun H locs hP hD hS => ?_)
    obtain ⟨s9, es9, hf⟩ := bd_e hf
    rw [← es9] at hP hD
    refine lv_aload_n hx hb dX8_begin_26 rfl (lv_at hl 0 rfl) ?_
    refine gC_Top_outcomes X hP kw301 dX8_begin_27 ?_
    obtain ⟨r10, s11, h12, hf⟩ := bo_e hf
    refine callVN_v X cv_X0_clear kw349 (c_X0_clear l D cA A ad ta s9  r10 s11 h12) ⟨by decide, by decide⟩ ⟨rfl, rfl⟩ hP hD hS (q0 := 7) (ci := 0) rfl rfl rfl rfl hl rfl (Nat.le_of_ble_eq_true rfl) dX8_begin_30 ⟨by decide, by decide⟩ (fun H locs hP hD hS => ?_)
    refine lv_iconst (v := 1) hx hb dX8_begin_33 (by decide) ?_
    obtain ⟨b13, hf⟩ := ck_e hf
    obtain ⟨rfl, rfl⟩ := Prod.mk.inj (Option.some.inj hf)
    exact ret_z X b13 hP hD hS dX8_begin_34
  · have hf := it_t c4 hf
    refine lv_iconst (v := 0) hx hb dX8_begin_12 (by decide) ?_
    obtain ⟨b14, hf⟩ := ck_e hf
    obtain ⟨rfl, rfl⟩ := Prod.mk.inj (Option.some.inj hf)
    exact ret_z X b14 hP hD hS dX8_begin_13
end S_X8_begin
theorem c_X8_begin (l : Launch) (D : va_G) (cA : ClassId) (A : Nat → Prop) (ad : Nat → Nat) (ta : Nat) (σ : St) (x1 x2 : Int32) (r : Int32) (σ' : St) (hf : F_X8_begin x1 x2 σ = some (r, σ')) : MI l D cA A (wC cA ad) yX8_begin cX8_begin 3 (some .boolean) rm_X8_begin [.ref (ad 0), .int x1, .int x2] ta σ r σ' 0 0 := by
  refine enter (by decide) (Nat.le_of_ble_eq_true rfl) ?_
  intro p e s m below meth c ls X hnm hP hD hS hl
  exact t_X8_begin_0 X hf hP hD hS hl
abbrev rm_X8_put : Room := { frames := 2, cells := 0, slots := 0, locals := 43 }
def F_X8_put (x1 : Int32) (σ : St) : Rs :=
  bo (F_X2_add x1 σ) (fun r1 s2 => some (r1, s2))
section S_X8_put
variable {p : Program} {l : Launch} {e : Env} {s : State} {m : MethodId} {args : Array Value} {below : List Frame} {meth : Method} {c : Code}
variable {D : va_G} {cA : ClassId} {A : Nat → Prop} {ad : Nat → Nat} {r : Int32} {σ' : St} {ta : Nat}
set_option maxHeartbeats 4000000 in
set_option maxRecDepth 100000 in
theorem t_X8_put_0  (X : Fx p s m meth c D cA A RX8 cX8_put 2 (some .int))  {x1 : Int32} { σ : St} {H : Heap} {locs : List Loc} {ls : Array Slot} (hf : F_X8_put x1 σ = some (r, σ')) (hP : va_P D vwCl (wC cA ad ta σ) H) (hD : va_D A (wC cA ad ta σ)) (hS : va_S A s.heap H locs) (hl : lv_has ls 2 [(0, .ref (ad 0)), (1, .int x1)]) : W p l e (rm_X8_put) s m args below meth c H locs 0 0 (MQ below (QI D cA A (wC cA ad) r σ' ta) args s 0 0 A) (F0 m 0 ls []) := by
  obtain ⟨hx, hb, hr, hml, hown, hlk, hE, hK, hA⟩ := id X
  rw [F_X8_put] at hf
  refine lv_aload_n hx hb dX8_put_0 rfl (lv_at hl 0 rfl) ?_
  refine gC_Top_row X hP kw296 dX8_put_1 ?_
  refine lv_iload_n hx hb dX8_put_4 rfl (lv_at hl 1 rfl) ?_
  obtain ⟨r1, s2, h3, hf⟩ := bo_e hf
  refine callVN_i X cv_X2_add kw369 (c_X2_add l D cA A ad ta σ x1 r1 s2 h3) ⟨by decide, by decide⟩ ⟨rfl, rfl⟩ hP hD hS (q0 := 2) (ci := 2) rfl rfl rfl rfl hl rfl (Nat.le_of_ble_eq_true rfl) dX8_put_5 ⟨by decide, by decide⟩ (fun H locs hP hD hS => ?_)
  obtain ⟨rfl, rfl⟩ := Prod.mk.inj (Option.some.inj hf)
  exact ret_i X hP hD hS dX8_put_8
end S_X8_put
theorem c_X8_put (l : Launch) (D : va_G) (cA : ClassId) (A : Nat → Prop) (ad : Nat → Nat) (ta : Nat) (σ : St) (x1 : Int32) (r : Int32) (σ' : St) (hf : F_X8_put x1 σ = some (r, σ')) : MI l D cA A (wC cA ad) yX8_put cX8_put 2 (some .int) rm_X8_put [.ref (ad 0), .int x1] ta σ r σ' 0 0 := by
  refine enter (by decide) (Nat.le_of_ble_eq_true rfl) ?_
  intro p e s m below meth c ls X hnm hP hD hS hl
  exact t_X8_put_0 X hf hP hD hS hl
abbrev rm_X8_rule : Room := { frames := 4, cells := 0, slots := 0, locals := 92 }
def F_X8_rule  (σ : St) : Rs :=
  bo (F_X2_take  σ) (fun r1 s2 => bo (F_X4_hasFunction  s2) (fun r4 s5 => if r4 = 0 then (some ((-1), s5)) else (bo (F_X3_hasRoom r1 s5) (fun r8 s9 => if r8 = 0 then (some ((-1), s9)) else (bo (F_X2_firstWrong r1 0 s9) (fun r12 s13 => if r12 = (-1) then (bo (F_X3_add r1 s13) (fun r16 s17 => ck (isB 1) (bd (sF s17 0 1) (fun s20 => bo (F_X0_clear  s20) (fun r21 s22 => some (r16, s22)))))) else (some (((-2) - r12), s13))))))))
section S_X8_rule
variable {p : Program} {l : Launch} {e : Env} {s : State} {m : MethodId} {args : Array Value} {below : List Frame} {meth : Method} {c : Code}
variable {D : va_G} {cA : ClassId} {A : Nat → Prop} {ad : Nat → Nat} {r : Int32} {σ' : St} {ta : Nat}
set_option maxHeartbeats 4000000 in
set_option maxRecDepth 100000 in
theorem t_X8_rule_0  (X : Fx p s m meth c D cA A RX8 cX8_rule 4 (some .int))  { σ : St} {H : Heap} {locs : List Loc} {ls : Array Slot} (hf : F_X8_rule σ = some (r, σ')) (hP : va_P D vwCl (wC cA ad ta σ) H) (hD : va_D A (wC cA ad ta σ)) (hS : va_S A s.heap H locs) (hl : lv_has ls 4 [(0, .ref (ad 0))]) : W p l e (rm_X8_rule) s m args below meth c H locs 0 0 (MQ below (QI D cA A (wC cA ad) r σ' ta) args s 0 0 A) (F0 m 0 ls []) := by
  obtain ⟨hx, hb, hr, hml, hown, hlk, hE, hK, hA⟩ := id X
  rw [F_X8_rule] at hf
  refine lv_aload_n hx hb dX8_rule_0 rfl (lv_at hl 0 rfl) ?_
  refine gC_Top_row X hP kw296 dX8_rule_1 ?_
  obtain ⟨r1, s2, h3, hf⟩ := bo_e hf
  refine callVN_i X cv_X2_take kw378 (c_X2_take l D cA A ad ta σ  r1 s2 h3) ⟨by decide, by decide⟩ ⟨rfl, rfl⟩ hP hD hS (q0 := 2) (ci := 2) rfl rfl rfl rfl hl rfl (Nat.le_of_ble_eq_true rfl) dX8_rule_4 ⟨by decide, by decide⟩ (fun H locs hP hD hS => ?_)
  refine lv_istore_n (lv' := [(1, .int r1), (0, .ref (ad 0))]) hx hb dX8_rule_7 rfl hl (by decide) rfl (fun ls hl => ?_)
  refine lv_aload_n hx hb dX8_rule_8 rfl (lv_at hl 1 rfl) ?_
  refine gC_Top_signature X hP kw295 dX8_rule_9 ?_
  obtain ⟨r4, s5, h6, hf⟩ := bo_e hf
  refine callVN_i X cv_X4_hasFunction kw382 (c_X4_hasFunction l D cA A ad ta s2  r4 s5 h6) ⟨by decide, by decide⟩ ⟨rfl, rfl⟩ hP hD hS (q0 := 1) (ci := 4) rfl rfl rfl rfl hl rfl (Nat.le_of_ble_eq_true rfl) dX8_rule_12 ⟨by decide, by decide⟩ (fun H locs hP hD hS => ?_)
  refine lv_if_eq (tgt := 29) hx hb dX8_rule_15 (by decide) (fun c7 => ?_) (fun c7 => ?_)
  · have hf := it_t c7 hf
    refine lv_iconst (v := -1) hx hb dX8_rule_29 (by decide) ?_
    obtain ⟨rfl, rfl⟩ := Prod.mk.inj (Option.some.inj hf)
    exact ret_i X hP hD hS dX8_rule_30
  · have hf := it_f c7 hf
    refine lv_aload_n hx hb dX8_rule_18 rfl (lv_at hl 1 rfl) ?_
    refine gC_Top_rules X hP kw297 dX8_rule_19 ?_
    refine lv_iload_n hx hb dX8_rule_22 rfl (lv_at hl 0 rfl) ?_
    obtain ⟨r8, s9, h10, hf⟩ := bo_e hf
    refine callVN_i X cv_X3_hasRoom kw386 (c_X3_hasRoom l D cA A ad ta s5 r1 r8 s9 h10) ⟨by decide, by decide⟩ ⟨rfl, rfl⟩ hP hD hS (q0 := 3) (ci := 3) rfl rfl rfl rfl hl rfl (Nat.le_of_ble_eq_true rfl) dX8_rule_23 ⟨by decide, by decide⟩ (fun H locs hP hD hS => ?_)
    refine lv_if_ne (tgt := 31) hx hb dX8_rule_26 (by decide) (fun c11 => ?_) (fun c11 => ?_)
    · have hf := it_f c11 hf
      refine lv_aload_n hx hb dX8_rule_31 rfl (lv_at hl 1 rfl) ?_
      refine gC_Top_row X hP kw296 dX8_rule_32 ?_
      refine lv_iload_n hx hb dX8_rule_35 rfl (lv_at hl 0 rfl) ?_
      refine lv_aload_n hx hb dX8_rule_36 rfl (lv_at hl 1 rfl) ?_
      refine gC_Top_signature X hP kw295 dX8_rule_37 ?_
      refine lv_iconst (v := 0) hx hb dX8_rule_40 (by decide) ?_
      obtain ⟨r12, s13, h14, hf⟩ := bo_e hf
      refine callVN_i X cv_X2_firstWrong kw397 (c_X2_firstWrong l D cA A ad ta s9 r1 0 r12 s13 h14) ⟨by decide, by decide⟩ ⟨rfl, rfl⟩ hP hD hS (q0 := 2) (ci := 2) rfl rfl rfl rfl hl rfl (Nat.le_of_ble_eq_true rfl) dX8_rule_41 ⟨by decide, by decide⟩ (fun H locs hP hD hS => ?_)
      refine lv_istore_n (lv' := [(2, .int r12), (1, .int r1), (0, .ref (ad 0))]) hx hb dX8_rule_44 rfl hl (by decide) rfl (fun ls hl => ?_)
      refine lv_iload_n hx hb dX8_rule_45 rfl (lv_at hl 0 rfl) ?_
      refine lv_iconst (v := -1) hx hb dX8_rule_46 (by decide) ?_
      refine lv_icmp_eq (tgt := 55) hx hb dX8_rule_47 (by decide) (fun c15 => ?_) (fun c15 => ?_)
      · have hf := it_t c15 hf
        refine lv_aload_n hx hb dX8_rule_55 rfl (lv_at hl 2 rfl) ?_
        refine gC_Top_rules X hP kw297 dX8_rule_56 ?_
        refine lv_aload_n hx hb dX8_rule_59 rfl (lv_at hl 2 rfl) ?_
        refine gC_Top_row X hP kw296 dX8_rule_60 ?_
        refine lv_iload_n hx hb dX8_rule_63 rfl (lv_at hl 1 rfl) ?_
        obtain ⟨r16, s17, h18, hf⟩ := bo_e hf
        refine callVN_i X cv_X3_add kw438 (c_X3_add l D cA A ad ta s13 r1 r16 s17 h18) ⟨by decide, by decide⟩ ⟨rfl, rfl⟩ hP hD hS (q0 := 3) (ci := 3) rfl rfl rfl rfl hl rfl (Nat.le_of_ble_eq_true rfl) dX8_rule_64 ⟨by decide, by decide⟩ (fun H locs hP hD hS => ?_)
        refine lv_istore_n (lv' := [(3, .int r16), (2, .int r12), (1, .int r1), (0, .ref (ad 0))]) hx hb dX8_rule_67 rfl hl (by decide) rfl (fun ls hl => ?_)
        refine lv_aload_n hx hb dX8_rule_68 rfl (lv_at hl 3 rfl) ?_
        refine lv_iconst (v := 1) hx hb dX8_rule_69 (by decide) ?_
        obtain ⟨b19, hf⟩ := ck_e hf
        refine pC_Top_treeIsOld X b19 hP hD hS kw303 dX8_rule_70 (fun H locs hP hD hS => ?_)
        obtain ⟨s20, es20, hf⟩ := bd_e hf
        rw [← es20] at hP hD
        refine lv_aload_n hx hb dX8_rule_73 rfl (lv_at hl 3 rfl) ?_
        refine gC_Top_outcomes X hP kw301 dX8_rule_74 ?_
        obtain ⟨r21, s22, h23, hf⟩ := bo_e hf
        refine callVN_v X cv_X0_clear kw349 (c_X0_clear l D cA A ad ta s20  r21 s22 h23) ⟨by decide, by decide⟩ ⟨rfl, rfl⟩ hP hD hS (q0 := 7) (ci := 0) rfl rfl rfl rfl hl rfl (Nat.le_of_ble_eq_true rfl) dX8_rule_77 ⟨by decide, by decide⟩ (fun H locs hP hD hS => ?_)
        refine lv_iload_n hx hb dX8_rule_80 rfl (lv_at hl 0 rfl) ?_
        obtain ⟨rfl, rfl⟩ := Prod.mk.inj (Option.some.inj hf)
        exact ret_i X hP hD hS dX8_rule_81
      · have hf := it_f c15 hf
        refine lv_bipush (v := -2) hx hb dX8_rule_50 (by decide) ?_
        refine lv_iload_n hx hb dX8_rule_52 rfl (lv_at hl 0 rfl) ?_
        refine lv_isub hx hb dX8_rule_53 ?_
        obtain ⟨rfl, rfl⟩ := Prod.mk.inj (Option.some.inj hf)
        exact ret_i X hP hD hS dX8_rule_54
    · have hf := it_t c11 hf
      refine lv_iconst (v := -1) hx hb dX8_rule_29 (by decide) ?_
      obtain ⟨rfl, rfl⟩ := Prod.mk.inj (Option.some.inj hf)
      exact ret_i X hP hD hS dX8_rule_30
end S_X8_rule
theorem c_X8_rule (l : Launch) (D : va_G) (cA : ClassId) (A : Nat → Prop) (ad : Nat → Nat) (ta : Nat) (σ : St) (r : Int32) (σ' : St) (hf : F_X8_rule σ = some (r, σ')) : MI l D cA A (wC cA ad) yX8_rule cX8_rule 4 (some .int) rm_X8_rule [.ref (ad 0)] ta σ r σ' 0 0 := by
  refine enter (by decide) (Nat.le_of_ble_eq_true rfl) ?_
  intro p e s m below meth c ls X hnm hP hD hS hl
  exact t_X8_rule_0 X hf hP hD hS hl
abbrev rm_X8_outcome : Room := { frames := 2, cells := 0, slots := 0, locals := 44 }
def F_X8_outcome (x1 : Int32) (x2 : Int32) (σ : St) : Rs :=
  bo (F_X0_answer x1 x2 σ) (fun r1 s2 => some (r1, s2))
section S_X8_outcome
variable {p : Program} {l : Launch} {e : Env} {s : State} {m : MethodId} {args : Array Value} {below : List Frame} {meth : Method} {c : Code}
variable {D : va_G} {cA : ClassId} {A : Nat → Prop} {ad : Nat → Nat} {r : Int32} {σ' : St} {ta : Nat}
set_option maxHeartbeats 4000000 in
set_option maxRecDepth 100000 in
theorem t_X8_outcome_0  (X : Fx p s m meth c D cA A RX8 cX8_outcome 3 (some .int))  {x1 x2 : Int32} { σ : St} {H : Heap} {locs : List Loc} {ls : Array Slot} (hf : F_X8_outcome x1 x2 σ = some (r, σ')) (hP : va_P D vwCl (wC cA ad ta σ) H) (hD : va_D A (wC cA ad ta σ)) (hS : va_S A s.heap H locs) (hl : lv_has ls 3 [(0, .ref (ad 0)), (1, .int x1), (2, .int x2)]) : W p l e (rm_X8_outcome) s m args below meth c H locs 0 0 (MQ below (QI D cA A (wC cA ad) r σ' ta) args s 0 0 A) (F0 m 0 ls []) := by
  obtain ⟨hx, hb, hr, hml, hown, hlk, hE, hK, hA⟩ := id X
  rw [F_X8_outcome] at hf
  refine lv_aload_n hx hb dX8_outcome_0 rfl (lv_at hl 0 rfl) ?_
  refine gC_Top_outcomes X hP kw301 dX8_outcome_1 ?_
  refine lv_iload_n hx hb dX8_outcome_4 rfl (lv_at hl 1 rfl) ?_
  refine lv_iload_n hx hb dX8_outcome_5 rfl (lv_at hl 2 rfl) ?_
  obtain ⟨r1, s2, h3, hf⟩ := bo_e hf
  refine callVN_i X cv_X0_answer kw602 (c_X0_answer l D cA A ad ta σ x1 x2 r1 s2 h3) ⟨by decide, by decide⟩ ⟨rfl, rfl⟩ hP hD hS (q0 := 7) (ci := 0) rfl rfl rfl rfl hl rfl (Nat.le_of_ble_eq_true rfl) dX8_outcome_6 ⟨by decide, by decide⟩ (fun H locs hP hD hS => ?_)
  obtain ⟨rfl, rfl⟩ := Prod.mk.inj (Option.some.inj hf)
  exact ret_i X hP hD hS dX8_outcome_9
end S_X8_outcome
theorem c_X8_outcome (l : Launch) (D : va_G) (cA : ClassId) (A : Nat → Prop) (ad : Nat → Nat) (ta : Nat) (σ : St) (x1 x2 : Int32) (r : Int32) (σ' : St) (hf : F_X8_outcome x1 x2 σ = some (r, σ')) : MI l D cA A (wC cA ad) yX8_outcome cX8_outcome 3 (some .int) rm_X8_outcome [.ref (ad 0), .int x1, .int x2] ta σ r σ' 0 0 := by
  refine enter (by decide) (Nat.le_of_ble_eq_true rfl) ?_
  intro p e s m below meth c ls X hnm hP hD hS hl
  exact t_X8_outcome_0 X hf hP hD hS hl
abbrev rm_X8_refreshTree : Room := { frames := 6, cells := 0, slots := 0, locals := 137 }
def F_X8_refreshTree  (σ : St) : Rs :=
  if (gF σ 0) = 0 then (some (0, σ)) else (bo (F_X1_plant  σ) (fun r2 s3 => ck (isB 0) (bd (sF s3 0 0) (fun s6 => some (0, s6)))))
section S_X8_refreshTree
variable {p : Program} {l : Launch} {e : Env} {s : State} {m : MethodId} {args : Array Value} {below : List Frame} {meth : Method} {c : Code}
variable {D : va_G} {cA : ClassId} {A : Nat → Prop} {ad : Nat → Nat} {r : Int32} {σ' : St} {ta : Nat}
set_option maxHeartbeats 4000000 in
set_option maxRecDepth 100000 in
theorem t_X8_refreshTree_0  (X : Fx p s m meth c D cA A RX8 cX8_refreshTree 1 none)  { σ : St} {H : Heap} {locs : List Loc} {ls : Array Slot} (hf : F_X8_refreshTree σ = some (r, σ')) (hP : va_P D vwCl (wC cA ad ta σ) H) (hD : va_D A (wC cA ad ta σ)) (hS : va_S A s.heap H locs) (hl : lv_has ls 1 [(0, .ref (ad 0))]) : W p l e (rm_X8_refreshTree) s m args below meth c H locs 0 0 (MQ below (QV D cA A (wC cA ad) σ' ta) args s 0 0 A) (F0 m 0 ls []) := by
  obtain ⟨hx, hb, hr, hml, hown, hlk, hE, hK, hA⟩ := id X
  rw [F_X8_refreshTree] at hf
  refine lv_aload_n hx hb dX8_refreshTree_0 rfl (lv_at hl 0 rfl) ?_
  refine gC_Top_treeIsOld X hP kw303 dX8_refreshTree_1 ?_
  refine lv_if_eq (tgt := 19) hx hb dX8_refreshTree_4 (by decide) (fun c1 => ?_) (fun c1 => ?_)
  · have hf := it_t c1 hf
    obtain ⟨rfl, rfl⟩ := Prod.mk.inj (Option.some.inj hf)
    exact ret_v X hP hD hS dX8_refreshTree_19
  · have hf := it_f c1 hf
    refine lv_aload_n hx hb dX8_refreshTree_7 rfl (lv_at hl 0 rfl) ?_
    refine gC_Top_planter X hP kw299 dX8_refreshTree_8 ?_
    obtain ⟨r2, s3, h4, hf⟩ := bo_e hf
    refine callVN_v X cv_X1_plant kw457 (c_X1_plant l D cA A ad ta σ  r2 s3 h4) ⟨by decide, by decide⟩ ⟨rfl, rfl⟩ hP hD hS (q0 := 5) (ci := 1) rfl rfl rfl rfl hl rfl (Nat.le_of_ble_eq_true rfl) dX8_refreshTree_11 ⟨by decide, by decide⟩ (fun H locs hP hD hS => ?_)
    refine lv_aload_n hx hb dX8_refreshTree_14 rfl (lv_at hl 0 rfl) ?_
    refine lv_iconst (v := 0) hx hb dX8_refreshTree_15 (by decide) ?_
    obtain ⟨b5, hf⟩ := ck_e hf
    refine pC_Top_treeIsOld X b5 hP hD hS kw303 dX8_refreshTree_16 (fun H locs hP hD hS => ?_)
    obtain ⟨s6, es6, hf⟩ := bd_e hf
    rw [← es6] at hP hD
    obtain ⟨rfl, rfl⟩ := Prod.mk.inj (Option.some.inj hf)
    exact ret_v X hP hD hS dX8_refreshTree_19
end S_X8_refreshTree
theorem c_X8_refreshTree (l : Launch) (D : va_G) (cA : ClassId) (A : Nat → Prop) (ad : Nat → Nat) (ta : Nat) (σ : St) (r : Int32) (σ' : St) (hf : F_X8_refreshTree σ = some (r, σ')) : MV l D cA A (wC cA ad) yX8_refreshTree cX8_refreshTree 1 none rm_X8_refreshTree [.ref (ad 0)] ta σ σ' 0 0 := by
  refine enter (by decide) (Nat.le_of_ble_eq_true rfl) ?_
  intro p e s m below meth c ls X hnm hP hD hS hl
  exact t_X8_refreshTree_0 X hf hP hD hS hl
abbrev rm_X8_size : Room := { frames := 7, cells := 0, slots := 0, locals := 157 }
def F_X8_size  (σ : St) : Rs :=
  bo (F_X8_refreshTree  σ) (fun r1 s2 => some ((gF s2 9), s2))
section S_X8_size
variable {p : Program} {l : Launch} {e : Env} {s : State} {m : MethodId} {args : Array Value} {below : List Frame} {meth : Method} {c : Code}
variable {D : va_G} {cA : ClassId} {A : Nat → Prop} {ad : Nat → Nat} {r : Int32} {σ' : St} {ta : Nat}
set_option maxHeartbeats 4000000 in
set_option maxRecDepth 100000 in
theorem t_X8_size_0  (X : Fx p s m meth c D cA A RX8 cX8_size 1 (some .int))  { σ : St} {H : Heap} {locs : List Loc} {ls : Array Slot} (hf : F_X8_size σ = some (r, σ')) (hP : va_P D vwCl (wC cA ad ta σ) H) (hD : va_D A (wC cA ad ta σ)) (hS : va_S A s.heap H locs) (hl : lv_has ls 1 [(0, .ref (ad 0))]) : W p l e (rm_X8_size) s m args below meth c H locs 0 0 (MQ below (QI D cA A (wC cA ad) r σ' ta) args s 0 0 A) (F0 m 0 ls []) := by
  obtain ⟨hx, hb, hr, hml, hown, hlk, hE, hK, hA⟩ := id X
  rw [F_X8_size] at hf
  refine lv_aload_n hx hb dX8_size_0 rfl (lv_at hl 0 rfl) ?_
  obtain ⟨r1, s2, h3, hf⟩ := bo_e hf
  refine callV_v X cv_X8_refreshTree kw453 (c_X8_refreshTree l D cA A ad ta σ  r1 s2 h3) ⟨by decide, by decide⟩ ⟨rfl, rfl⟩ hP hD hS (q0 := 0) (ci := 8) rfl rfl rfl rfl hl rfl (Nat.le_of_ble_eq_true rfl) dX8_size_1 ⟨by decide, by decide⟩ (fun H locs hP hD hS => ?_)
  refine lv_aload_n hx hb dX8_size_4 rfl (lv_at hl 0 rfl) ?_
  refine gC_Top_tree X hP kw298 dX8_size_5 ?_
  refine gCN_Tre_nodes X hP kw147 dX8_size_8 ?_
  obtain ⟨rfl, rfl⟩ := Prod.mk.inj (Option.some.inj hf)
  exact ret_i X hP hD hS dX8_size_11
end S_X8_size
theorem c_X8_size (l : Launch) (D : va_G) (cA : ClassId) (A : Nat → Prop) (ad : Nat → Nat) (ta : Nat) (σ : St) (r : Int32) (σ' : St) (hf : F_X8_size σ = some (r, σ')) : MI l D cA A (wC cA ad) yX8_size cX8_size 1 (some .int) rm_X8_size [.ref (ad 0)] ta σ r σ' 0 0 := by
  refine enter (by decide) (Nat.le_of_ble_eq_true rfl) ?_
  intro p e s m below meth c ls X hnm hP hD hS hl
  exact t_X8_size_0 X hf hP hD hS hl
abbrev rm_X8_node : Room := { frames := 7, cells := 0, slots := 0, locals := 157 }
def F_X8_node (x1 : Int32) (x2 : Int32) (σ : St) : Rs :=
  bo (F_X8_refreshTree  σ) (fun r1 s2 => bo (F_X6_answer x1 x2 s2) (fun r4 s5 => some (r4, s5)))
section S_X8_node
variable {p : Program} {l : Launch} {e : Env} {s : State} {m : MethodId} {args : Array Value} {below : List Frame} {meth : Method} {c : Code}
variable {D : va_G} {cA : ClassId} {A : Nat → Prop} {ad : Nat → Nat} {r : Int32} {σ' : St} {ta : Nat}
set_option maxHeartbeats 4000000 in
set_option maxRecDepth 100000 in
theorem t_X8_node_0  (X : Fx p s m meth c D cA A RX8 cX8_node 3 (some .int))  {x1 x2 : Int32} { σ : St} {H : Heap} {locs : List Loc} {ls : Array Slot} (hf : F_X8_node x1 x2 σ = some (r, σ')) (hP : va_P D vwCl (wC cA ad ta σ) H) (hD : va_D A (wC cA ad ta σ)) (hS : va_S A s.heap H locs) (hl : lv_has ls 3 [(0, .ref (ad 0)), (1, .int x1), (2, .int x2)]) : W p l e (rm_X8_node) s m args below meth c H locs 0 0 (MQ below (QI D cA A (wC cA ad) r σ' ta) args s 0 0 A) (F0 m 0 ls []) := by
  obtain ⟨hx, hb, hr, hml, hown, hlk, hE, hK, hA⟩ := id X
  rw [F_X8_node] at hf
  refine lv_aload_n hx hb dX8_node_0 rfl (lv_at hl 0 rfl) ?_
  obtain ⟨r1, s2, h3, hf⟩ := bo_e hf
  refine callV_v X cv_X8_refreshTree kw453 (c_X8_refreshTree l D cA A ad ta σ  r1 s2 h3) ⟨by decide, by decide⟩ ⟨rfl, rfl⟩ hP hD hS (q0 := 0) (ci := 8) rfl rfl rfl rfl hl rfl (Nat.le_of_ble_eq_true rfl) dX8_node_1 ⟨by decide, by decide⟩ (fun H locs hP hD hS => ?_)
  refine lv_aload_n hx hb dX8_node_4 rfl (lv_at hl 0 rfl) ?_
  refine gC_Top_tree X hP kw298 dX8_node_5 ?_
  refine lv_aload_n hx hb dX8_node_8 rfl (lv_at hl 0 rfl) ?_
  refine gC_Top_rules X hP kw297 dX8_node_9 ?_
  refine lv_iload_n hx hb dX8_node_12 rfl (lv_at hl 1 rfl) ?_
  refine lv_iload_n hx hb dX8_node_13 rfl (lv_at hl 2 rfl) ?_
  obtain ⟨r4, s5, h6, hf⟩ := bo_e hf
  refine callVN_i X cv_X6_answer kw615 (c_X6_answer l D cA A ad ta s2 x1 x2 r4 s5 h6) ⟨by decide, by decide⟩ ⟨rfl, rfl⟩ hP hD hS (q0 := 4) (ci := 6) rfl rfl rfl rfl hl rfl (Nat.le_of_ble_eq_true rfl) dX8_node_14 ⟨by decide, by decide⟩ (fun H locs hP hD hS => ?_)
  obtain ⟨rfl, rfl⟩ := Prod.mk.inj (Option.some.inj hf)
  exact ret_i X hP hD hS dX8_node_17
end S_X8_node
theorem c_X8_node (l : Launch) (D : va_G) (cA : ClassId) (A : Nat → Prop) (ad : Nat → Nat) (ta : Nat) (σ : St) (x1 x2 : Int32) (r : Int32) (σ' : St) (hf : F_X8_node x1 x2 σ = some (r, σ')) : MI l D cA A (wC cA ad) yX8_node cX8_node 3 (some .int) rm_X8_node [.ref (ad 0), .int x1, .int x2] ta σ r σ' 0 0 := by
  refine enter (by decide) (Nat.le_of_ble_eq_true rfl) ?_
  intro p e s m below meth c ls X hnm hP hD hS hl
  exact t_X8_node_0 X hf hP hD hS hl
abbrev rm_X8_covers : Room := { frames := 7, cells := 0, slots := 0, locals := 157 }
def F_X8_covers  (σ : St) : Rs :=
  bo (F_X8_refreshTree  σ) (fun r1 s2 => bo (F_X6_coversAll  s2) (fun r4 s5 => ck (isB r4) (some (r4, s5))))
section S_X8_covers
variable {p : Program} {l : Launch} {e : Env} {s : State} {m : MethodId} {args : Array Value} {below : List Frame} {meth : Method} {c : Code}
variable {D : va_G} {cA : ClassId} {A : Nat → Prop} {ad : Nat → Nat} {r : Int32} {σ' : St} {ta : Nat}
set_option maxHeartbeats 4000000 in
set_option maxRecDepth 100000 in
theorem t_X8_covers_0  (X : Fx p s m meth c D cA A RX8 cX8_covers 1 (some .boolean))  { σ : St} {H : Heap} {locs : List Loc} {ls : Array Slot} (hf : F_X8_covers σ = some (r, σ')) (hP : va_P D vwCl (wC cA ad ta σ) H) (hD : va_D A (wC cA ad ta σ)) (hS : va_S A s.heap H locs) (hl : lv_has ls 1 [(0, .ref (ad 0))]) : W p l e (rm_X8_covers) s m args below meth c H locs 0 0 (MQ below (QI D cA A (wC cA ad) r σ' ta) args s 0 0 A) (F0 m 0 ls []) := by
  obtain ⟨hx, hb, hr, hml, hown, hlk, hE, hK, hA⟩ := id X
  rw [F_X8_covers] at hf
  refine lv_aload_n hx hb dX8_covers_0 rfl (lv_at hl 0 rfl) ?_
  obtain ⟨r1, s2, h3, hf⟩ := bo_e hf
  refine callV_v X cv_X8_refreshTree kw453 (c_X8_refreshTree l D cA A ad ta σ  r1 s2 h3) ⟨by decide, by decide⟩ ⟨rfl, rfl⟩ hP hD hS (q0 := 0) (ci := 8) rfl rfl rfl rfl hl rfl (Nat.le_of_ble_eq_true rfl) dX8_covers_1 ⟨by decide, by decide⟩ (fun H locs hP hD hS => ?_)
  refine lv_aload_n hx hb dX8_covers_4 rfl (lv_at hl 0 rfl) ?_
  refine gC_Top_tree X hP kw298 dX8_covers_5 ?_
  refine lv_aload_n hx hb dX8_covers_8 rfl (lv_at hl 0 rfl) ?_
  refine gC_Top_rules X hP kw297 dX8_covers_9 ?_
  refine lv_aload_n hx hb dX8_covers_12 rfl (lv_at hl 0 rfl) ?_
  refine gC_Top_signature X hP kw295 dX8_covers_13 ?_
  obtain ⟨r4, s5, h6, hf⟩ := bo_e hf
  refine callVN_i X cv_X6_coversAll kw637 (c_X6_coversAll l D cA A ad ta s2  r4 s5 h6) ⟨by decide, by decide⟩ ⟨rfl, rfl⟩ hP hD hS (q0 := 4) (ci := 6) rfl rfl rfl rfl hl rfl (Nat.le_of_ble_eq_true rfl) dX8_covers_16 ⟨by decide, by decide⟩ (fun H locs hP hD hS => ?_)
  obtain ⟨b7, hf⟩ := ck_e hf
  obtain ⟨rfl, rfl⟩ := Prod.mk.inj (Option.some.inj hf)
  exact ret_z X b7 hP hD hS dX8_covers_19
end S_X8_covers
theorem c_X8_covers (l : Launch) (D : va_G) (cA : ClassId) (A : Nat → Prop) (ad : Nat → Nat) (ta : Nat) (σ : St) (r : Int32) (σ' : St) (hf : F_X8_covers σ = some (r, σ')) : MI l D cA A (wC cA ad) yX8_covers cX8_covers 1 (some .boolean) rm_X8_covers [.ref (ad 0)] ta σ r σ' 0 0 := by
  refine enter (by decide) (Nat.le_of_ble_eq_true rfl) ?_
  intro p e s m below meth c ls X hnm hP hD hS hl
  exact t_X8_covers_0 X hf hP hD hS hl
abbrev rm_X8_clash : Room := { frames := 3, cells := 0, slots := 0, locals := 67 }
def F_X8_clash (x1 : Int32) (x2 : Int32) (σ : St) : Rs :=
  bo (F_X3_meet x1 x2 σ) (fun r1 s2 => ck (isB r1) (some (r1, s2)))
section S_X8_clash
variable {p : Program} {l : Launch} {e : Env} {s : State} {m : MethodId} {args : Array Value} {below : List Frame} {meth : Method} {c : Code}
variable {D : va_G} {cA : ClassId} {A : Nat → Prop} {ad : Nat → Nat} {r : Int32} {σ' : St} {ta : Nat}
set_option maxHeartbeats 4000000 in
set_option maxRecDepth 100000 in
theorem t_X8_clash_0  (X : Fx p s m meth c D cA A RX8 cX8_clash 3 (some .boolean))  {x1 x2 : Int32} { σ : St} {H : Heap} {locs : List Loc} {ls : Array Slot} (hf : F_X8_clash x1 x2 σ = some (r, σ')) (hP : va_P D vwCl (wC cA ad ta σ) H) (hD : va_D A (wC cA ad ta σ)) (hS : va_S A s.heap H locs) (hl : lv_has ls 3 [(0, .ref (ad 0)), (1, .int x1), (2, .int x2)]) : W p l e (rm_X8_clash) s m args below meth c H locs 0 0 (MQ below (QI D cA A (wC cA ad) r σ' ta) args s 0 0 A) (F0 m 0 ls []) := by
  obtain ⟨hx, hb, hr, hml, hown, hlk, hE, hK, hA⟩ := id X
  rw [F_X8_clash] at hf
  refine lv_aload_n hx hb dX8_clash_0 rfl (lv_at hl 0 rfl) ?_
  refine gC_Top_rules X hP kw297 dX8_clash_1 ?_
  refine lv_iload_n hx hb dX8_clash_4 rfl (lv_at hl 1 rfl) ?_
  refine lv_iload_n hx hb dX8_clash_5 rfl (lv_at hl 2 rfl) ?_
  obtain ⟨r1, s2, h3, hf⟩ := bo_e hf
  refine callVN_i X cv_X3_meet kw655 (c_X3_meet l D cA A ad ta σ x1 x2 r1 s2 h3) ⟨by decide, by decide⟩ ⟨rfl, rfl⟩ hP hD hS (q0 := 3) (ci := 3) rfl rfl rfl rfl hl rfl (Nat.le_of_ble_eq_true rfl) dX8_clash_6 ⟨by decide, by decide⟩ (fun H locs hP hD hS => ?_)
  obtain ⟨b4, hf⟩ := ck_e hf
  obtain ⟨rfl, rfl⟩ := Prod.mk.inj (Option.some.inj hf)
  exact ret_z X b4 hP hD hS dX8_clash_9
end S_X8_clash
theorem c_X8_clash (l : Launch) (D : va_G) (cA : ClassId) (A : Nat → Prop) (ad : Nat → Nat) (ta : Nat) (σ : St) (x1 x2 : Int32) (r : Int32) (σ' : St) (hf : F_X8_clash x1 x2 σ = some (r, σ')) : MI l D cA A (wC cA ad) yX8_clash cX8_clash 3 (some .boolean) rm_X8_clash [.ref (ad 0), .int x1, .int x2] ta σ r σ' 0 0 := by
  refine enter (by decide) (Nat.le_of_ble_eq_true rfl) ?_
  intro p e s m below meth c ls X hnm hP hD hS hl
  exact t_X8_clash_0 X hf hP hD hS hl
abbrev rm_X8_count : Room := { frames := 7, cells := 0, slots := 0, locals := 157 }
def F_X8_count (x1 : Int32) (σ : St) : Rs :=
  bo (F_X8_refreshTree  σ) (fun r1 s2 => if x1 = 0 then (some ((gF s2 1), s2)) else (if x1 = 1 then (some ((gF s2 2), s2)) else (if x1 = 2 then (some ((gF s2 8), s2)) else (if x1 = 3 then (some ((gF s2 3), s2)) else (if x1 = 4 then (some ((gF s2 5), s2)) else (if x1 = 5 then (some ((gF s2 15), s2)) else (if x1 = 6 then (bo (F_X6_howMany 2 s2) (fun r11 s12 => some (r11, s12))) else (if x1 = 7 then (bo (F_X6_howMany 1 s2) (fun r15 s16 => some (r15, s16))) else (if x1 = 8 then (bo (F_X6_deepest  s2) (fun r19 s20 => some (r19, s20))) else (some ((-9), s2)))))))))))
section S_X8_count
variable {p : Program} {l : Launch} {e : Env} {s : State} {m : MethodId} {args : Array Value} {below : List Frame} {meth : Method} {c : Code}
variable {D : va_G} {cA : ClassId} {A : Nat → Prop} {ad : Nat → Nat} {r : Int32} {σ' : St} {ta : Nat}
set_option maxHeartbeats 4000000 in
set_option maxRecDepth 100000 in
theorem t_X8_count_0  (X : Fx p s m meth c D cA A RX8 cX8_count 2 (some .int))  {x1 : Int32} { σ : St} {H : Heap} {locs : List Loc} {ls : Array Slot} (hf : F_X8_count x1 σ = some (r, σ')) (hP : va_P D vwCl (wC cA ad ta σ) H) (hD : va_D A (wC cA ad ta σ)) (hS : va_S A s.heap H locs) (hl : lv_has ls 2 [(0, .ref (ad 0)), (1, .int x1)]) : W p l e (rm_X8_count) s m args below meth c H locs 0 0 (MQ below (QI D cA A (wC cA ad) r σ' ta) args s 0 0 A) (F0 m 0 ls []) := by
  obtain ⟨hx, hb, hr, hml, hown, hlk, hE, hK, hA⟩ := id X
  rw [F_X8_count] at hf
  refine lv_aload_n hx hb dX8_count_0 rfl (lv_at hl 0 rfl) ?_
  obtain ⟨r1, s2, h3, hf⟩ := bo_e hf
  refine callV_v X cv_X8_refreshTree kw453 (c_X8_refreshTree l D cA A ad ta σ  r1 s2 h3) ⟨by decide, by decide⟩ ⟨rfl, rfl⟩ hP hD hS (q0 := 0) (ci := 8) rfl rfl rfl rfl hl rfl (Nat.le_of_ble_eq_true rfl) dX8_count_1 ⟨by decide, by decide⟩ (fun H locs hP hD hS => ?_)
  refine lv_iload_n hx hb dX8_count_4 rfl (lv_at hl 1 rfl) ?_
  by_cases c4 : x1 = 0
  · have hf := it_t c4 hf
    refine lv_tableIn (off := 51) (tgt := 56) hx hb dX8_count_5 (by rw [c4]; decide) (by rw [c4]; decide) (by rw [c4]; decide) (by decide) ?_
    refine lv_aload_n hx hb dX8_count_56 rfl (lv_at hl 0 rfl) ?_
    refine gC_Top_signature X hP kw295 dX8_count_57 ?_
    refine gCN_Sig_types X hP kw32 dX8_count_60 ?_
    obtain ⟨rfl, rfl⟩ := Prod.mk.inj (Option.some.inj hf)
    exact ret_i X hP hD hS dX8_count_63
  have hf := it_f c4 hf
  by_cases c5 : x1 = 1
  · have hf := it_t c5 hf
    refine lv_tableIn (off := 59) (tgt := 64) hx hb dX8_count_5 (by rw [c5]; decide) (by rw [c5]; decide) (by rw [c5]; decide) (by decide) ?_
    refine lv_aload_n hx hb dX8_count_64 rfl (lv_at hl 0 rfl) ?_
    refine gC_Top_signature X hP kw295 dX8_count_65 ?_
    refine gCN_Sig_made X hP kw34 dX8_count_68 ?_
    obtain ⟨rfl, rfl⟩ := Prod.mk.inj (Option.some.inj hf)
    exact ret_i X hP hD hS dX8_count_71
  have hf := it_f c5 hf
  by_cases c6 : x1 = 2
  · have hf := it_t c6 hf
    refine lv_tableIn (off := 67) (tgt := 72) hx hb dX8_count_5 (by rw [c6]; decide) (by rw [c6]; decide) (by rw [c6]; decide) (by decide) ?_
    refine lv_aload_n hx hb dX8_count_72 rfl (lv_at hl 0 rfl) ?_
    refine gC_Top_rules X hP kw297 dX8_count_73 ?_
    refine gCN_Rul_many X hP kw113 dX8_count_76 ?_
    obtain ⟨rfl, rfl⟩ := Prod.mk.inj (Option.some.inj hf)
    exact ret_i X hP hD hS dX8_count_79
  have hf := it_f c6 hf
  by_cases c7 : x1 = 3
  · have hf := it_t c7 hf
    refine lv_tableIn (off := 75) (tgt := 80) hx hb dX8_count_5 (by rw [c7]; decide) (by rw [c7]; decide) (by rw [c7]; decide) (by decide) ?_
    refine lv_aload_n hx hb dX8_count_80 rfl (lv_at hl 0 rfl) ?_
    refine gC_Top_signature X hP kw295 dX8_count_81 ?_
    refine gCN_Sig_arguments X hP kw36 dX8_count_84 ?_
    obtain ⟨rfl, rfl⟩ := Prod.mk.inj (Option.some.inj hf)
    exact ret_i X hP hD hS dX8_count_87
  have hf := it_f c7 hf
  by_cases c8 : x1 = 4
  · have hf := it_t c8 hf
    refine lv_tableIn (off := 83) (tgt := 88) hx hb dX8_count_5 (by rw [c8]; decide) (by rw [c8]; decide) (by rw [c8]; decide) (by decide) ?_
    refine lv_aload_n hx hb dX8_count_88 rfl (lv_at hl 0 rfl) ?_
    refine gC_Top_row X hP kw296 dX8_count_89 ?_
    refine gCN_Row_length X hP kw72 dX8_count_92 ?_
    obtain ⟨rfl, rfl⟩ := Prod.mk.inj (Option.some.inj hf)
    exact ret_i X hP hD hS dX8_count_95
  have hf := it_f c8 hf
  by_cases c9 : x1 = 5
  · have hf := it_t c9 hf
    refine lv_tableIn (off := 91) (tgt := 96) hx hb dX8_count_5 (by rw [c9]; decide) (by rw [c9]; decide) (by rw [c9]; decide) (by decide) ?_
    refine lv_aload_n hx hb dX8_count_96 rfl (lv_at hl 0 rfl) ?_
    refine gC_Top_outcomes X hP kw301 dX8_count_97 ?_
    refine gCN_Out_many X hP kw250 dX8_count_100 ?_
    obtain ⟨rfl, rfl⟩ := Prod.mk.inj (Option.some.inj hf)
    exact ret_i X hP hD hS dX8_count_103
  have hf := it_f c9 hf
  by_cases c10 : x1 = 6
  · have hf := it_t c10 hf
    refine lv_tableIn (off := 99) (tgt := 104) hx hb dX8_count_5 (by rw [c10]; decide) (by rw [c10]; decide) (by rw [c10]; decide) (by decide) ?_
    refine lv_aload_n hx hb dX8_count_104 rfl (lv_at hl 0 rfl) ?_
    refine gC_Top_tree X hP kw298 dX8_count_105 ?_
    refine lv_iconst (v := 2) hx hb dX8_count_108 (by decide) ?_
    obtain ⟨r11, s12, h13, hf⟩ := bo_e hf
    refine callVN_i X cv_X6_howMany kw664 (c_X6_howMany l D cA A ad ta s2 2 r11 s12 h13) ⟨by decide, by decide⟩ ⟨rfl, rfl⟩ hP hD hS (q0 := 4) (ci := 6) rfl rfl rfl rfl hl rfl (Nat.le_of_ble_eq_true rfl) dX8_count_109 ⟨by decide, by decide⟩ (fun H locs hP hD hS => ?_)
    obtain ⟨rfl, rfl⟩ := Prod.mk.inj (Option.some.inj hf)
    exact ret_i X hP hD hS dX8_count_112
  have hf := it_f c10 hf
  by_cases c14 : x1 = 7
  · have hf := it_t c14 hf
    refine lv_tableIn (off := 108) (tgt := 113) hx hb dX8_count_5 (by rw [c14]; decide) (by rw [c14]; decide) (by rw [c14]; decide) (by decide) ?_
    refine lv_aload_n hx hb dX8_count_113 rfl (lv_at hl 0 rfl) ?_
    refine gC_Top_tree X hP kw298 dX8_count_114 ?_
    refine lv_iconst (v := 1) hx hb dX8_count_117 (by decide) ?_
    obtain ⟨r15, s16, h17, hf⟩ := bo_e hf
    refine callVN_i X cv_X6_howMany kw664 (c_X6_howMany l D cA A ad ta s2 1 r15 s16 h17) ⟨by decide, by decide⟩ ⟨rfl, rfl⟩ hP hD hS (q0 := 4) (ci := 6) rfl rfl rfl rfl hl rfl (Nat.le_of_ble_eq_true rfl) dX8_count_118 ⟨by decide, by decide⟩ (fun H locs hP hD hS => ?_)
    obtain ⟨rfl, rfl⟩ := Prod.mk.inj (Option.some.inj hf)
    exact ret_i X hP hD hS dX8_count_121
  have hf := it_f c14 hf
  by_cases c18 : x1 = 8
  · have hf := it_t c18 hf
    refine lv_tableIn (off := 117) (tgt := 122) hx hb dX8_count_5 (by rw [c18]; decide) (by rw [c18]; decide) (by rw [c18]; decide) (by decide) ?_
    refine lv_aload_n hx hb dX8_count_122 rfl (lv_at hl 0 rfl) ?_
    refine gC_Top_tree X hP kw298 dX8_count_123 ?_
    obtain ⟨r19, s20, h21, hf⟩ := bo_e hf
    refine callVN_i X cv_X6_deepest kw668 (c_X6_deepest l D cA A ad ta s2  r19 s20 h21) ⟨by decide, by decide⟩ ⟨rfl, rfl⟩ hP hD hS (q0 := 4) (ci := 6) rfl rfl rfl rfl hl rfl (Nat.le_of_ble_eq_true rfl) dX8_count_126 ⟨by decide, by decide⟩ (fun H locs hP hD hS => ?_)
    obtain ⟨rfl, rfl⟩ := Prod.mk.inj (Option.some.inj hf)
    exact ret_i X hP hD hS dX8_count_129
  have hf := it_f c18 hf
  refine lv_tableOut (tgt := 130) hx hb dX8_count_5 (by have qc4 := lv_neT c4 (a := 0) rfl; have qc5 := lv_neT c5 (a := 1) rfl; have qc6 := lv_neT c6 (a := 2) rfl; have qc7 := lv_neT c7 (a := 3) rfl; have qc8 := lv_neT c8 (a := 4) rfl; have qc9 := lv_neT c9 (a := 5) rfl; have qc10 := lv_neT c10 (a := 6) rfl; have qc14 := lv_neT c14 (a := 7) rfl; have qc18 := lv_neT c18 (a := 8) rfl; omega) (by decide) ?_
  refine lv_bipush (v := -9) hx hb dX8_count_130 (by decide) ?_
  obtain ⟨rfl, rfl⟩ := Prod.mk.inj (Option.some.inj hf)
  exact ret_i X hP hD hS dX8_count_132
end S_X8_count
theorem c_X8_count (l : Launch) (D : va_G) (cA : ClassId) (A : Nat → Prop) (ad : Nat → Nat) (ta : Nat) (σ : St) (x1 : Int32) (r : Int32) (σ' : St) (hf : F_X8_count x1 σ = some (r, σ')) : MI l D cA A (wC cA ad) yX8_count cX8_count 2 (some .int) rm_X8_count [.ref (ad 0), .int x1] ta σ r σ' 0 0 := by
  refine enter (by decide) (Nat.le_of_ble_eq_true rfl) ?_
  intro p e s m below meth c ls X hnm hP hD hS hl
  exact t_X8_count_0 X hf hP hD hS hl
