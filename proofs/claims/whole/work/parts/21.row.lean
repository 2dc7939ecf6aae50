abbrev rm_X2_add : Room := { frames := 1, cells := 0, slots := 0, locals := 22 }
def F_X2_add (x1 : Int32) (σ : St) : Rs :=
  if (gF σ 5) < 160 then (bd (sA σ 12 (wr 160 (gA σ 12) (gF σ 5) x1)) (fun s2 => bd (sF s2 5 ((gF s2 5) + 1)) (fun s3 => some ((gF s3 5), s3)))) else (some ((-1), σ))
section S_X2_add
variable {p : Program} {l : Launch} {e : Env} {s : State} {m : MethodId} {args : Array Value} {below : List Frame} {meth : Method} {c : Code}
variable {D : va_G} {cA : ClassId} {A : Nat → Prop} {ad : Nat → Nat} {r : Int32} {σ' : St} {ta : Nat}
set_option maxHeartbeats 4000000 in
set_option maxRecDepth 100000 in
theorem t_X2_add_0  (X : Fx p s m meth c D cA A RX2 cX2_add 2 (some .int))  {x1 : Int32} { σ : St} {H : Heap} {locs : List Loc} {ls : Array Slot} (hf : F_X2_add x1 σ = some (r, σ')) (hP : va_P D vwCl (wC cA ad ta σ) H) (hD : va_D A (wC cA ad ta σ)) (hS : va_S A s.heap H locs) (hl : lv_has ls 2 [(0, .ref (ad 2)), (1, .int x1)]) : W p l e (rm_X2_add) s m args below meth c H locs 0 0 (MQ below (QI D cA A (wC cA ad) r σ' ta) args s 0 0 A) (F0 m 0 ls []) := by
  obtain ⟨hx, hb, hr, hml, hown, hlk, hE, hK, hA⟩ := id X
  rw [F_X2_add] at hf
  refine lv_aload_n hx hb dX2_add_0 rfl (lv_at hl 0 rfl) ?_
  refine gC_Row_length X hP kw71 dX2_add_1 ?_
  refine lv_sipush (v := 160) hx hb dX2_add_4 (by decide) ?_
  refine lv_icmp_lt (tgt := 12) hx hb dX2_add_7 (by decide) (fun c1 => ?_) (fun c1 => ?_)
  · have hf := it_t c1 hf
    refine lv_aload_n hx hb dX2_add_12 rfl (lv_at hl 0 rfl) ?_
    refine gC_Row_numbers X hP kw60 dX2_add_13 ?_
    refine lv_aload_n hx hb dX2_add_16 rfl (lv_at hl 0 rfl) ?_
    refine gC_Row_length X hP kw71 dX2_add_17 ?_
    refine lv_iload_n hx hb dX2_add_20 rfl (lv_at hl 1 rfl) ?_
    refine callSN_v X cs_X8_set kw373 (c_set l D cA A (wC cA ad) ta σ 12 (ad 12) 160 12 (gF σ 5) x1 (by decide) rfl (fun f => wC_a12 f)) ⟨by decide, by decide⟩ ⟨rfl, rfl⟩ hP hD hS rfl hl rfl (Nat.le_of_ble_eq_true rfl) dX2_add_21 ⟨by decide, by decide⟩ (fun H locs hP hD hS => ?_)
    obtain ⟨s2, es2, hf⟩ := bd_e hf
    rw [← es2] at hP hD
    refine lv_aload_n hx hb dX2_add_24 rfl (lv_at hl 0 rfl) ?_
    refine lv_dup hx hb dX2_add_25 rfl ?_
    refine gC_Row_length X hP kw71 dX2_add_26 ?_
    refine lv_iconst (v := 1) hx hb dX2_add_29 (by decide) ?_
    refine lv_iadd hx hb dX2_add_30 ?_
    refine pC_Row_length X hP hD hS kw71 dX2_add_31 (fun H locs hP hD hS => ?_)
    obtain ⟨s3, es3, hf⟩ := bd_e hf
    rw [← es3] at hP hD
    refine lv_aload_n hx hb dX2_add_34 rfl (lv_at hl 0 rfl) ?_
    refine gC_Row_length X hP kw71 dX2_add_35 ?_
    obtain ⟨rfl, rfl⟩ := Prod.mk.inj (Option.some.inj hf)
    exact ret_i X hP hD hS dX2_add_38
  · have hf := it_f c1 hf
    refine lv_iconst (v := -1) hx hb dX2_add_10 (by decide) ?_
    obtain ⟨rfl, rfl⟩ := Prod.mk.inj (Option.some.inj hf)
    exact ret_i X hP hD hS dX2_add_11
end S_X2_add
theorem c_X2_add (l : Launch) (D : va_G) (cA : ClassId) (A : Nat → Prop) (ad : Nat → Nat) (ta : Nat) (σ : St) (x1 : Int32) (r : Int32) (σ' : St) (hf : F_X2_add x1 σ = some (r, σ')) : MI l D cA A (wC cA ad) yX2_add cX2_add 2 (some .int) rm_X2_add [.ref (ad 2), .int x1] ta σ r σ' 0 0 := by
  refine enter (by decide) (Nat.le_of_ble_eq_true rfl) ?_
  intro p e s m below meth c ls X hnm hP hD hS hl
  exact t_X2_add_0 X hf hP hD hS hl
abbrev rm_X2_take : Room := { frames := 0, cells := 0, slots := 0, locals := 0 }
def F_X2_take  (σ : St) : Rs :=
  bd (gF σ 5) (fun y1 => bd (sF σ 5 0) (fun s2 => some (y1, s2)))
section S_X2_take
variable {p : Program} {l : Launch} {e : Env} {s : State} {m : MethodId} {args : Array Value} {below : List Frame} {meth : Method} {c : Code}
variable {D : va_G} {cA : ClassId} {A : Nat → Prop} {ad : Nat → Nat} {r : Int32} {σ' : St} {ta : Nat}
set_option maxHeartbeats 4000000 in
set_option maxRecDepth 100000 in
theorem t_X2_take_0  (X : Fx p s m meth c D cA A RX2 cX2_take 2 (some .int))  { σ : St} {H : Heap} {locs : List Loc} {ls : Array Slot} (hf : F_X2_take σ = some (r, σ')) (hP : va_P D vwCl (wC cA ad ta σ) H) (hD : va_D A (wC cA ad ta σ)) (hS : va_S A s.heap H locs) (hl : lv_has ls 2 [(0, .ref (ad 2))]) : W p l e (rm_X2_take) s m args below meth c H locs 0 0 (MQ below (QI D cA A (wC cA ad) r σ' ta) args s 0 0 A) (F0 m 0 ls []) := by
  obtain ⟨hx, hb, hr, hml, hown, hlk, hE, hK, hA⟩ := id X
  rw [F_X2_take] at hf
  refine lv_aload_n hx hb dX2_take_0 rfl (lv_at hl 0 rfl) ?_
  refine gC_Row_length X hP kw71 dX2_take_1 ?_
  refine lv_topi (fun y1 ey1 => ?_)
  have hf := bd_x ey1 hf
  refine lv_istore_n (lv' := [(1, .int y1), (0, .ref (ad 2))]) hx hb dX2_take_4 rfl hl (by decide) rfl (fun ls hl => ?_)
  refine lv_aload_n hx hb dX2_take_5 rfl (lv_at hl 1 rfl) ?_
  refine lv_iconst (v := 0) hx hb dX2_take_6 (by decide) ?_
  refine pC_Row_length X hP hD hS kw71 dX2_take_7 (fun H locs hP hD hS => ?_)
  obtain ⟨s2, es2, hf⟩ := bd_e hf
  rw [← es2] at hP hD
  refine lv_iload_n hx hb dX2_take_10 rfl (lv_at hl 0 rfl) ?_
  obtain ⟨rfl, rfl⟩ := Prod.mk.inj (Option.some.inj hf)
  exact ret_i X hP hD hS dX2_take_11
end S_X2_take
theorem c_X2_take (l : Launch) (D : va_G) (cA : ClassId) (A : Nat → Prop) (ad : Nat → Nat) (ta : Nat) (σ : St) (r : Int32) (σ' : St) (hf : F_X2_take σ = some (r, σ')) : MI l D cA A (wC cA ad) yX2_take cX2_take 2 (some .int) rm_X2_take [.ref (ad 2)] ta σ r σ' 0 0 := by
  refine enter (by decide) (Nat.le_of_ble_eq_true rfl) ?_
  intro p e s m below meth c ls X hnm hP hD hS hl
  exact t_X2_take_0 X hf hP hD hS hl
abbrev rm_X2_isWhole : Room := { frames := 2, cells := 0, slots := 0, locals := 42 }
def F_X2_isWhole  (σ : St) : Rs :=
  if (gF σ 6) = (-1) then (bo (F_X4_parts (-1) σ) (fun r3 s4 => if (gF σ 7) < r3 then (ck (isB 0) (some (0, s4))) else (ck (isB 1) (some (1, s4))))) else (ck (isB 0) (some (0, σ)))
section S_X2_isWhole
variable {p : Program} {l : Launch} {e : Env} {s : State} {m : MethodId} {args : Array Value} {below : List Frame} {meth : Method} {c : Code}
variable {D : va_G} {cA : ClassId} {A : Nat → Prop} {ad : Nat → Nat} {r : Int32} {σ' : St} {ta : Nat}
set_option maxHeartbeats 4000000 in
set_option maxRecDepth 100000 in
theorem t_X2_isWhole_0  (X : Fx p s m meth c D cA A RX2 cX2_isWhole 2 (some .boolean))  { σ : St} {H : Heap} {locs : List Loc} {ls : Array Slot} (hf : F_X2_isWhole σ = some (r, σ')) (hP : va_P D vwCl (wC cA ad ta σ) H) (hD : va_D A (wC cA ad ta σ)) (hS : va_S A s.heap H locs) (hl : lv_has ls 2 [(0, .ref (ad 2)), (1, .ref (ad 1))]) : W p l e (rm_X2_isWhole) s m args below meth c H locs 0 0 (MQ below (QI D cA A (wC cA ad) r σ' ta) args s 0 0 A) (F0 m 0 ls []) := by
  obtain ⟨hx, hb, hr, hml, hown, hlk, hE, hK, hA⟩ := id X
  rw [F_X2_isWhole] at hf
  refine lv_aload_n hx hb dX2_isWhole_0 rfl (lv_at hl 0 rfl) ?_
  refine gC_Row_holder X hP kw73 dX2_isWhole_1 ?_
  refine lv_iconst (v := -1) hx hb dX2_isWhole_4 (by decide) ?_
  refine lv_icmp_ne (tgt := 24) hx hb dX2_isWhole_5 (by decide) (fun c1 => ?_) (fun c1 => ?_)
  · have hf := it_f c1 hf
    refine lv_iconst (v := 0) hx hb dX2_isWhole_24 (by decide) ?_
    obtain ⟨b2, hf⟩ := ck_e hf
    obtain ⟨rfl, rfl⟩ := Prod.mk.inj (Option.some.inj hf)
    exact ret_z X b2 hP hD hS dX2_isWhole_25
  · have hf := it_t c1 hf
    refine lv_aload_n hx hb dX2_isWhole_8 rfl (lv_at hl 0 rfl) ?_
    refine gC_Row_next X hP kw74 dX2_isWhole_9 ?_
    refine lv_aload_n hx hb dX2_isWhole_12 rfl (lv_at hl 1 rfl) ?_
    refine lv_iconst (v := -1) hx hb dX2_isWhole_13 (by decide) ?_
    obtain ⟨r3, s4, h5, hf⟩ := bo_e hf
    refine callVN_i X cv_X4_parts kw408 (c_X4_parts l D cA A ad ta σ (-1) r3 s4 h5) ⟨by decide, by decide⟩ ⟨rfl, rfl⟩ hP hD hS (q0 := 1) (ci := 4) rfl rfl rfl rfl hl rfl (Nat.le_of_ble_eq_true rfl) dX2_isWhole_14 ⟨by decide, by decide⟩ (fun H locs hP hD hS => ?_)
    refine lv_icmp_lt (tgt := 24) hx hb dX2_isWhole_17 (by decide) (fun c6 => ?_) (fun c6 => ?_)
    · have hf := it_t c6 hf
      refine lv_iconst (v := 0) hx hb dX2_isWhole_24 (by decide) ?_
      obtain ⟨b7, hf⟩ := ck_e hf
      obtain ⟨rfl, rfl⟩ := Prod.mk.inj (Option.some.inj hf)
      exact ret_z X b7 hP hD hS dX2_isWhole_25
    · have hf := it_f c6 hf
      refine lv_iconst (v := 1) hx hb dX2_isWhole_20 (by decide) ?_
      refine lv_goto (tgt := 25) hx hb dX2_isWhole_21 (by decide) ?_
      obtain ⟨b8, hf⟩ := ck_e hf
      obtain ⟨rfl, rfl⟩ := Prod.mk.inj (Option.some.inj hf)
      exact ret_z X b8 hP hD hS dX2_isWhole_25
end S_X2_isWhole
theorem c_X2_isWhole (l : Launch) (D : va_G) (cA : ClassId) (A : Nat → Prop) (ad : Nat → Nat) (ta : Nat) (σ : St) (r : Int32) (σ' : St) (hf : F_X2_isWhole σ = some (r, σ')) : MI l D cA A (wC cA ad) yX2_isWhole cX2_isWhole 2 (some .boolean) rm_X2_isWhole [.ref (ad 2), .ref (ad 1)] ta σ r σ' 0 0 := by
  refine enter (by decide) (Nat.le_of_ble_eq_true rfl) ?_
  intro p e s m below meth c ls X hnm hP hD hS hl
  exact t_X2_isWhole_0 X hf hP hD hS hl
abbrev rm_X2_holding : Room := { frames := 1, cells := 0, slots := 0, locals := 21 }
def F_X2_holding  (σ : St) : Rs :=
  if (gF σ 6) = (-1) then (some ((-1), σ)) else (bd (rd 160 (gA σ 12) (gF σ 6)) (fun y2 => some (y2, σ)))
section S_X2_holding
variable {p : Program} {l : Launch} {e : Env} {s : State} {m : MethodId} {args : Array Value} {below : List Frame} {meth : Method} {c : Code}
variable {D : va_G} {cA : ClassId} {A : Nat → Prop} {ad : Nat → Nat} {r : Int32} {σ' : St} {ta : Nat}
set_option maxHeartbeats 4000000 in
set_option maxRecDepth 100000 in
theorem t_X2_holding_0  (X : Fx p s m meth c D cA A RX2 cX2_holding 1 (some .int))  { σ : St} {H : Heap} {locs : List Loc} {ls : Array Slot} (hf : F_X2_holding σ = some (r, σ')) (hP : va_P D vwCl (wC cA ad ta σ) H) (hD : va_D A (wC cA ad ta σ)) (hS : va_S A s.heap H locs) (hl : lv_has ls 1 [(0, .ref (ad 2))]) : W p l e (rm_X2_holding) s m args below meth c H locs 0 0 (MQ below (QI D cA A (wC cA ad) r σ' ta) args s 0 0 A) (F0 m 0 ls []) := by
  obtain ⟨hx, hb, hr, hml, hown, hlk, hE, hK, hA⟩ := id X
  rw [F_X2_holding] at hf
  refine lv_aload_n hx hb dX2_holding_0 rfl (lv_at hl 0 rfl) ?_
  refine gC_Row_holder X hP kw73 dX2_holding_1 ?_
  refine lv_iconst (v := -1) hx hb dX2_holding_4 (by decide) ?_
  refine lv_icmp_ne (tgt := 12) hx hb dX2_holding_5 (by decide) (fun c1 => ?_) (fun c1 => ?_)
  · have hf := it_f c1 hf
    refine lv_aload_n hx hb dX2_holding_12 rfl (lv_at hl 0 rfl) ?_
    refine gC_Row_numbers X hP kw60 dX2_holding_13 ?_
    refine lv_aload_n hx hb dX2_holding_16 rfl (lv_at hl 0 rfl) ?_
    refine gC_Row_holder X hP kw73 dX2_holding_17 ?_
    refine callSN_i X cs_X8_get kw417 (c_get l D cA A (wC cA ad) ta σ 12 (ad 12) 160 (gA σ 12) (gF σ 6) (by decide) rfl) ⟨by decide, by decide⟩ ⟨rfl, rfl⟩ hP hD hS rfl hl rfl (Nat.le_of_ble_eq_true rfl) dX2_holding_20 ⟨by decide, by decide⟩ (fun H locs hP hD hS => ?_)
    refine lv_topi (fun y2 ey2 => ?_)
    have hf := bd_x ey2 hf
    obtain ⟨rfl, rfl⟩ := Prod.mk.inj (Option.some.inj hf)
    exact ret_i X hP hD hS dX2_holding_23
  · have hf := it_t c1 hf
    refine lv_iconst (v := -1) hx hb dX2_holding_8 (by decide) ?_
    refine lv_goto (tgt := 23) hx hb dX2_holding_9 (by decide) ?_
    obtain ⟨rfl, rfl⟩ := Prod.mk.inj (Option.some.inj hf)
    exact ret_i X hP hD hS dX2_holding_23
end S_X2_holding
theorem c_X2_holding (l : Launch) (D : va_G) (cA : ClassId) (A : Nat → Prop) (ad : Nat → Nat) (ta : Nat) (σ : St) (r : Int32) (σ' : St) (hf : F_X2_holding σ = some (r, σ')) : MI l D cA A (wC cA ad) yX2_holding cX2_holding 1 (some .int) rm_X2_holding [.ref (ad 2)] ta σ r σ' 0 0 := by
  refine enter (by decide) (Nat.le_of_ble_eq_true rfl) ?_
  intro p e s m below meth c ls X hnm hP hD hS hl
  exact t_X2_holding_0 X hf hP hD hS hl
abbrev rm_X2_fits : Room := { frames := 2, cells := 0, slots := 0, locals := 42 }
def F_X2_fits_72 (x2 : Int32) (x5 : Int32) (σ : St) : Rs :=
  bd (rd 8 (gA σ 16) x5) (fun y1 => if y1 = x2 then (ck (isB 1) (some (1, σ))) else (ck (isB 0) (some (0, σ))))
def F_X2_fits (x1 : Int32) (x2 : Int32) (x4 : Int32) (σ : St) : Rs :=
  if x1 < 0 then (if x4 = 0 then (if x1 = (-1) then (ck (isB 1) (some (1, σ))) else (ck (isB 0) (some (0, σ)))) else (bd ((-1) - x1) (fun y3 => if y3 < 8 then (bd (rd 8 (gA σ 16) y3) (fun y5 => if y5 = (-1) then (bd (sA σ 16 (wr 8 (gA σ 16) y3 x2)) (fun s7 => F_X2_fits_72 x2 y3 s7)) else (F_X2_fits_72 x2 y3 σ))) else (ck (isB 0) (some (0, σ)))))) else (bo (F_X4_typeOf x1 σ) (fun r12 s13 => if r12 = x2 then (ck (isB 1) (some (1, s13))) else (ck (isB 0) (some (0, s13)))))
section S_X2_fits
variable {p : Program} {l : Launch} {e : Env} {s : State} {m : MethodId} {args : Array Value} {below : List Frame} {meth : Method} {c : Code}
variable {D : va_G} {cA : ClassId} {A : Nat → Prop} {ad : Nat → Nat} {r : Int32} {σ' : St} {ta : Nat}
set_option maxHeartbeats 4000000 in
set_option maxRecDepth 100000 in
theorem t_X2_fits_72  (X : Fx p s m meth c D cA A RX2 cX2_fits 6 (some .boolean))  {x2 x5 : Int32} { σ : St} {H : Heap} {locs : List Loc} {ls : Array Slot} (hf : F_X2_fits_72 x2 x5 σ = some (r, σ')) (hP : va_P D vwCl (wC cA ad ta σ) H) (hD : va_D A (wC cA ad ta σ)) (hS : va_S A s.heap H locs) (hl : lv_has ls 6 [(0, .ref (ad 2)), (2, .int x2), (5, .int x5)]) : W p l e (rm_X2_fits) s m args below meth c H locs 0 0 (MQ below (QI D cA A (wC cA ad) r σ' ta) args s 0 0 A) (F0 m 72 ls []) := by
  obtain ⟨hx, hb, hr, hml, hown, hlk, hE, hK, hA⟩ := id X
  rw [F_X2_fits_72] at hf
  refine lv_aload_n hx hb dX2_fits_72 rfl (lv_at hl 0 rfl) ?_
  refine gC_Row_nameTypes X hP kw70 dX2_fits_73 ?_
  refine lv_iload hx hb dX2_fits_76 (lv_at hl 2 rfl) ?_
  refine callSN_i X cs_X8_get kw417 (c_get l D cA A (wC cA ad) ta σ 16 (ad 16) 8 (gA σ 16) x5 (by decide) rfl) ⟨by decide, by decide⟩ ⟨rfl, rfl⟩ hP hD hS rfl hl rfl (Nat.le_of_ble_eq_true rfl) dX2_fits_78 ⟨by decide, by decide⟩ (fun H locs hP hD hS => ?_)
  refine lv_topi (fun y1 ey1 => ?_)
  have hf := bd_x ey1 hf
  refine lv_iload_n hx hb dX2_fits_81 rfl (lv_at hl 1 rfl) ?_
  refine lv_icmp_ne (tgt := 89) hx hb dX2_fits_82 (by decide) (fun c2 => ?_) (fun c2 => ?_)
  · have hf := it_f c2 hf
    refine lv_iconst (v := 0) hx hb dX2_fits_89 (by decide) ?_
    obtain ⟨b3, hf⟩ := ck_e hf
    obtain ⟨rfl, rfl⟩ := Prod.mk.inj (Option.some.inj hf)
    exact ret_z X b3 hP hD hS dX2_fits_90
  · have hf := it_t c2 hf
    refine lv_iconst (v := 1) hx hb dX2_fits_85 (by decide) ?_
    refine lv_goto (tgt := 90) hx hb dX2_fits_86 (by decide) ?_
    obtain ⟨b4, hf⟩ := ck_e hf
    obtain ⟨rfl, rfl⟩ := Prod.mk.inj (Option.some.inj hf)
    exact ret_z X b4 hP hD hS dX2_fits_90
set_option maxHeartbeats 4000000 in
set_option maxRecDepth 100000 in
theorem t_X2_fits_0  (X : Fx p s m meth c D cA A RX2 cX2_fits 6 (some .boolean))  {x1 x2 x4 : Int32} { σ : St} {H : Heap} {locs : List Loc} {ls : Array Slot} (hf : F_X2_fits x1 x2 x4 σ = some (r, σ')) (hP : va_P D vwCl (wC cA ad ta σ) H) (hD : va_D A (wC cA ad ta σ)) (hS : va_S A s.heap H locs) (hl : lv_has ls 6 [(0, .ref (ad 2)), (1, .int x1), (2, .int x2), (3, .ref (ad 1)), (4, .int x4)]) : W p l e (rm_X2_fits) s m args below meth c H locs 0 0 (MQ below (QI D cA A (wC cA ad) r σ' ta) args s 0 0 A) (F0 m 0 ls []) := by
  obtain ⟨hx, hb, hr, hml, hown, hlk, hE, hK, hA⟩ := id X
  rw [F_X2_fits] at hf
  refine lv_iload_n hx hb dX2_fits_0 rfl (lv_at hl 1 rfl) ?_
  refine lv_if_lt (tgt := 19) hx hb dX2_fits_1 (by decide) (fun c1 => ?_) (fun c1 => ?_)
  · have hf := it_t c1 hf
    refine lv_iload hx hb dX2_fits_19 (lv_at hl 4 rfl) ?_
    refine lv_if_ne (tgt := 35) hx hb dX2_fits_21 (by decide) (fun c2 => ?_) (fun c2 => ?_)
    · have hf := it_f c2 hf
      refine lv_iconst (v := -1) hx hb dX2_fits_35 (by decide) ?_
      refine lv_iload_n hx hb dX2_fits_36 rfl (lv_at hl 1 rfl) ?_
      refine lv_isub hx hb dX2_fits_37 ?_
      refine lv_topi (fun y3 ey3 => ?_)
      have hf := bd_x ey3 hf
      refine lv_istore (lv' := [(5, .int y3), (0, .ref (ad 2)), (1, .int x1), (2, .int x2), (3, .ref (ad 1)), (4, .int x4)]) hx hb dX2_fits_38 hl (by decide) rfl (fun ls hl => ?_)
      refine lv_iload hx hb dX2_fits_40 (lv_at hl 0 rfl) ?_
      refine lv_bipush (v := 8) hx hb dX2_fits_42 (by decide) ?_
      refine lv_icmp_lt (tgt := 49) hx hb dX2_fits_44 (by decide) (fun c4 => ?_) (fun c4 => ?_)
      · have hf := it_t c4 hf
        refine lv_aload_n hx hb dX2_fits_49 rfl (lv_at hl 1 rfl) ?_
        refine gC_Row_nameTypes X hP kw70 dX2_fits_50 ?_
        refine lv_iload hx hb dX2_fits_53 (lv_at hl 0 rfl) ?_
        refine callSN_i X cs_X8_get kw417 (c_get l D cA A (wC cA ad) ta σ 16 (ad 16) 8 (gA σ 16) y3 (by decide) rfl) ⟨by decide, by decide⟩ ⟨rfl, rfl⟩ hP hD hS rfl hl rfl (Nat.le_of_ble_eq_true rfl) dX2_fits_55 ⟨by decide, by decide⟩ (fun H locs hP hD hS => ?_)
        refine lv_topi (fun y5 ey5 => ?_)
        have hf := bd_x ey5 hf
        refine lv_iconst (v := -1) hx hb dX2_fits_58 (by decide) ?_
        refine lv_icmp_ne (tgt := 72) hx hb dX2_fits_59 (by decide) (fun c6 => ?_) (fun c6 => ?_)
        · have hf := it_f c6 hf
          exact t_X2_fits_72 X  hf hP hD hS (lv_sub hl [1, 3, 0] rfl)
        · have hf := it_t c6 hf
          refine lv_aload_n hx hb dX2_fits_62 rfl (lv_at hl 1 rfl) ?_
          refine gC_Row_nameTypes X hP kw70 dX2_fits_63 ?_
          refine lv_iload hx hb dX2_fits_66 (lv_at hl 0 rfl) ?_
          refine lv_iload_n hx hb dX2_fits_68 rfl (lv_at hl 3 rfl) ?_
          refine callSN_v X cs_X8_set kw373 (c_set l D cA A (wC cA ad) ta σ 16 (ad 16) 8 16 y3 x2 (by decide) rfl (fun f => wC_a16 f)) ⟨by decide, by decide⟩ ⟨rfl, rfl⟩ hP hD hS rfl hl rfl (Nat.le_of_ble_eq_true rfl) dX2_fits_69 ⟨by decide, by decide⟩ (fun H locs hP hD hS => ?_)
          obtain ⟨s7, es7, hf⟩ := bd_e hf
          rw [← es7] at hP hD
          exact t_X2_fits_72 X  hf hP hD hS (lv_sub hl [1, 3, 0] rfl)
      · have hf := it_f c4 hf
        refine lv_iconst (v := 0) hx hb dX2_fits_47 (by decide) ?_
        obtain ⟨b8, hf⟩ := ck_e hf
        obtain ⟨rfl, rfl⟩ := Prod.mk.inj (Option.some.inj hf)
        exact ret_z X b8 hP hD hS dX2_fits_48
    · have hf := it_t c2 hf
      refine lv_iload_n hx hb dX2_fits_24 rfl (lv_at hl 1 rfl) ?_
      refine lv_iconst (v := -1) hx hb dX2_fits_25 (by decide) ?_
      refine lv_icmp_ne (tgt := 33) hx hb dX2_fits_26 (by decide) (fun c9 => ?_) (fun c9 => ?_)
      · have hf := it_f c9 hf
        refine lv_iconst (v := 0) hx hb dX2_fits_33 (by decide) ?_
        obtain ⟨b10, hf⟩ := ck_e hf
        obtain ⟨rfl, rfl⟩ := Prod.mk.inj (Option.some.inj hf)
        exact ret_z X b10 hP hD hS dX2_fits_34
      · have hf := it_t c9 hf
        refine lv_iconst (v := 1) hx hb dX2_fits_29 (by decide) ?_
        refine lv_goto (tgt := 34) hx hb dX2_fits_30 (by decide) ?_
        obtain ⟨b11, hf⟩ := ck_e hf
        obtain ⟨rfl, rfl⟩ := Prod.mk.inj (Option.some.inj hf)
        exact ret_z X b11 hP hD hS dX2_fits_34
  · have hf := it_f c1 hf
    refine lv_aload_n hx hb dX2_fits_4 rfl (lv_at hl 3 rfl) ?_
    refine lv_iload_n hx hb dX2_fits_5 rfl (lv_at hl 1 rfl) ?_
    obtain ⟨r12, s13, h14, hf⟩ := bo_e hf
    refine callVN_i X cv_X4_typeOf kw426 (c_X4_typeOf l D cA A ad ta σ x1 r12 s13 h14) ⟨by decide, by decide⟩ ⟨rfl, rfl⟩ hP hD hS (q0 := 1) (ci := 4) rfl rfl rfl rfl hl rfl (Nat.le_of_ble_eq_true rfl) dX2_fits_6 ⟨by decide, by decide⟩ (fun H locs hP hD hS => ?_)
    refine lv_iload_n hx hb dX2_fits_9 rfl (lv_at hl 2 rfl) ?_
    refine lv_icmp_ne (tgt := 17) hx hb dX2_fits_10 (by decide) (fun c15 => ?_) (fun c15 => ?_)
    · have hf := it_f c15 hf
      refine lv_iconst (v := 0) hx hb dX2_fits_17 (by decide) ?_
      obtain ⟨b16, hf⟩ := ck_e hf
      obtain ⟨rfl, rfl⟩ := Prod.mk.inj (Option.some.inj hf)
      exact ret_z X b16 hP hD hS dX2_fits_18
    · have hf := it_t c15 hf
      refine lv_iconst (v := 1) hx hb dX2_fits_13 (by decide) ?_
      refine lv_goto (tgt := 18) hx hb dX2_fits_14 (by decide) ?_
      obtain ⟨b17, hf⟩ := ck_e hf
      obtain ⟨rfl, rfl⟩ := Prod.mk.inj (Option.some.inj hf)
      exact ret_z X b17 hP hD hS dX2_fits_18
end S_X2_fits
theorem c_X2_fits (l : Launch) (D : va_G) (cA : ClassId) (A : Nat → Prop) (ad : Nat → Nat) (ta : Nat) (σ : St) (x1 x2 x4 : Int32) (r : Int32) (σ' : St) (hf : F_X2_fits x1 x2 x4 σ = some (r, σ')) : MI l D cA A (wC cA ad) yX2_fits cX2_fits 6 (some .boolean) rm_X2_fits [.ref (ad 2), .int x1, .int x2, .ref (ad 1), .int x4] ta σ r σ' 0 0 := by
  refine enter (by decide) (Nat.le_of_ble_eq_true rfl) ?_
  intro p e s m below meth c ls X hnm hP hD hS hl
  exact t_X2_fits_0 X hf hP hD hS hl
abbrev rm_X2_hang : Room := { frames := 1, cells := 0, slots := 0, locals := 22 }
def F_X2_hang (x1 : Int32) (σ : St) : Rs :=
  bd (sA σ 13 (wr 160 (gA σ 13) x1 (gF σ 6))) (fun s1 => bd (sA s1 14 (wr 160 (gA s1 14) x1 (gF s1 7))) (fun s2 => bd (rd 160 (gA s2 12) x1) (fun y3 => if y3 < 0 then (bd (sA s2 15 (wr 160 (gA s2 15) x1 (x1 + 1))) (fun s5 => bd (sF s5 7 ((gF s5 7) + 1)) (fun s6 => some (0, s6)))) else (bd (sF s2 6 x1) (fun s7 => bd (sF s7 7 0) (fun s8 => some (0, s8)))))))
section S_X2_hang
variable {p : Program} {l : Launch} {e : Env} {s : State} {m : MethodId} {args : Array Value} {below : List Frame} {meth : Method} {c : Code}
variable {D : va_G} {cA : ClassId} {A : Nat → Prop} {ad : Nat → Nat} {r : Int32} {σ' : St} {ta : Nat}
set_option maxHeartbeats 4000000 in
set_option maxRecDepth 100000 in
theorem t_X2_hang_0  (X : Fx p s m meth c D cA A RX2 cX2_hang 2 none)  {x1 : Int32} { σ : St} {H : Heap} {locs : List Loc} {ls : Array Slot} (hf : F_X2_hang x1 σ = some (r, σ')) (hP : va_P D vwCl (wC cA ad ta σ) H) (hD : va_D A (wC cA ad ta σ)) (hS : va_S A s.heap H locs) (hl : lv_has ls 2 [(0, .ref (ad 2)), (1, .int x1)]) : W p l e (rm_X2_hang) s m args below meth c H locs 0 0 (MQ below (QV D cA A (wC cA ad) σ' ta) args s 0 0 A) (F0 m 0 ls []) := by
  obtain ⟨hx, hb, hr, hml, hown, hlk, hE, hK, hA⟩ := id X
  rw [F_X2_hang] at hf
  refine lv_aload_n hx hb dX2_hang_0 rfl (lv_at hl 0 rfl) ?_
  refine gC_Row_up X hP kw63 dX2_hang_1 ?_
  refine lv_iload_n hx hb dX2_hang_4 rfl (lv_at hl 1 rfl) ?_
  refine lv_aload_n hx hb dX2_hang_5 rfl (lv_at hl 0 rfl) ?_
  refine gC_Row_holder X hP kw73 dX2_hang_6 ?_
  refine callSN_v X cs_X8_set kw373 (c_set l D cA A (wC cA ad) ta σ 13 (ad 13) 160 13 x1 (gF σ 6) (by decide) rfl (fun f => wC_a13 f)) ⟨by decide, by decide⟩ ⟨rfl, rfl⟩ hP hD hS rfl hl rfl (Nat.le_of_ble_eq_true rfl) dX2_hang_9 ⟨by decide, by decide⟩ (fun H locs hP hD hS => ?_)
  obtain ⟨s1, es1, hf⟩ := bd_e hf
  rw [← es1] at hP hD
  refine lv_aload_n hx hb dX2_hang_12 rfl (lv_at hl 0 rfl) ?_
  refine gC_Row_place X hP kw65 dX2_hang_13 ?_
  refine lv_iload_n hx hb dX2_hang_16 rfl (lv_at hl 1 rfl) ?_
  refine lv_aload_n hx hb dX2_hang_17 rfl (lv_at hl 0 rfl) ?_
  refine gC_Row_next X hP kw74 dX2_hang_18 ?_
  refine callSN_v X cs_X8_set kw373 (c_set l D cA A (wC cA ad) ta s1 14 (ad 14) 160 14 x1 (gF s1 7) (by decide) rfl (fun f => wC_a14 f)) ⟨by decide, by decide⟩ ⟨rfl, rfl⟩ hP hD hS rfl hl rfl (Nat.le_of_ble_eq_true rfl) dX2_hang_21 ⟨by decide, by decide⟩ (fun H locs hP hD hS => ?_)
  obtain ⟨s2, es2, hf⟩ := bd_e hf
  rw [← es2] at hP hD
  refine lv_aload_n hx hb dX2_hang_24 rfl (lv_at hl 0 rfl) ?_
  refine gC_Row_numbers X hP kw60 dX2_hang_25 ?_
  refine lv_iload_n hx hb dX2_hang_28 rfl (lv_at hl 1 rfl) ?_
  refine callSN_i X cs_X8_get kw417 (c_get l D cA A (wC cA ad) ta s2 12 (ad 12) 160 (gA s2 12) x1 (by decide) rfl) ⟨by decide, by decide⟩ ⟨rfl, rfl⟩ hP hD hS rfl hl rfl (Nat.le_of_ble_eq_true rfl) dX2_hang_29 ⟨by decide, by decide⟩ (fun H locs hP hD hS => ?_)
  refine lv_topi (fun y3 ey3 => ?_)
  have hf := bd_x ey3 hf
  refine lv_if_lt (tgt := 48) hx hb dX2_hang_32 (by decide) (fun c4 => ?_) (fun c4 => ?_)
  · have hf := it_t c4 hf
    refine lv_aload_n hx hb dX2_hang_48 rfl (lv_at hl 0 rfl) ?_
    refine gC_Row_end X hP kw67 dX2_hang_49 ?_
    refine lv_iload_n hx hb dX2_hang_52 rfl (lv_at hl 1 rfl) ?_
    refine lv_iload_n hx hb dX2_hang_53 rfl (lv_at hl 1 rfl) ?_
    refine lv_iconst (v := 1) hx hb dX2_hang_54 (by decide) ?_
    refine lv_iadd hx hb dX2_hang_55 ?_
    refine callSN_v X cs_X8_set kw373 (c_set l D cA A (wC cA ad) ta s2 15 (ad 15) 160 15 x1 (x1 + 1) (by decide) rfl (fun f => wC_a15 f)) ⟨by decide, by decide⟩ ⟨rfl, rfl⟩ hP hD hS rfl hl rfl (Nat.le_of_ble_eq_true rfl) dX2_hang_56 ⟨by decide, by decide⟩ (fun H locs hP hD hS => ?_)
    obtain ⟨s5, es5, hf⟩ := bd_e hf
    rw [← es5] at hP hD
    refine lv_aload_n hx hb dX2_hang_59 rfl (lv_at hl 0 rfl) ?_
    refine lv_dup hx hb dX2_hang_60 rfl ?_
    refine gC_Row_next X hP kw74 dX2_hang_61 ?_
    refine lv_iconst (v := 1) hx hb dX2_hang_64 (by decide) ?_
    refine lv_iadd hx hb dX2_hang_65 ?_
    refine pC_Row_next X hP hD hS kw74 dX2_hang_66 (fun H locs hP hD hS => ?_)
    obtain ⟨s6, es6, hf⟩ := bd_e hf
    rw [← es6] at hP hD
    obtain ⟨rfl, rfl⟩ := Prod.mk.inj (Option.some.inj hf)
    exact ret_v X hP hD hS dX2_hang_69
  · have hf := it_f c4 hf
    refine lv_aload_n hx hb dX2_hang_35 rfl (lv_at hl 0 rfl) ?_
    refine lv_iload_n hx hb dX2_hang_36 rfl (lv_at hl 1 rfl) ?_
    refine pC_Row_holder X hP hD hS kw73 dX2_hang_37 (fun H locs hP hD hS => ?_)
    obtain ⟨s7, es7, hf⟩ := bd_e hf
    rw [← es7] at hP hD
    refine lv_aload_n hx hb dX2_hang_40 rfl (lv_at hl 0 rfl) ?_
    refine lv_iconst (v := 0) hx hb dX2_hang_41 (by decide) ?_
    refine pC_Row_next X hP hD hS kw74 dX2_hang_42 (fun H locs hP hD hS => ?_)
    obtain ⟨s8, es8, hf⟩ := bd_e hf
    rw [← es8] at hP hD
    refine lv_goto (tgt := 69) hx hb dX2_hang_45 (by decide) ?_
    obtain ⟨rfl, rfl⟩ := Prod.mk.inj (Option.some.inj hf)
    exact ret_v X hP hD hS dX2_hang_69
end S_X2_hang
theorem c_X2_hang (l : Launch) (D : va_G) (cA : ClassId) (A : Nat → Prop) (ad : Nat → Nat) (ta : Nat) (σ : St) (x1 : Int32) (r : Int32) (σ' : St) (hf : F_X2_hang x1 σ = some (r, σ')) : MV l D cA A (wC cA ad) yX2_hang cX2_hang 2 none rm_X2_hang [.ref (ad 2), .int x1] ta σ σ' 0 0 := by
  refine enter (by decide) (Nat.le_of_ble_eq_true rfl) ?_
  intro p e s m below meth c ls X hnm hP hD hS hl
  exact t_X2_hang_0 X hf hP hD hS hl
abbrev rm_X2_closeWhole : Room := { frames := 2, cells := 0, slots := 0, locals := 42 }
def F_X2_closeWhole_2  : Nat → Int32 → Int32 → St → Rs
  | 0, _, _, _ => none
  | n + 1, x1, x3, σ => if 160 ≤ x3 then (some (0, σ)) else (if (gF σ 6) = (-1) then (some (0, σ)) else (bo (F_X2_holding  σ) (fun r3 s4 => bo (F_X4_parts r3 s4) (fun r6 s7 => if r6 ≤ (gF σ 7) then (bd (sA s7 15 (wr 160 (gA s7 15) (gF s7 6) x1)) (fun s10 => bd (rd 160 (gA s10 14) (gF s10 6)) (fun y11 => bd (sF s10 7 (y11 + 1)) (fun s12 => bd (rd 160 (gA s12 13) (gF s12 6)) (fun y13 => bd (sF s12 6 y13) (fun s14 => F_X2_closeWhole_2 n x1 (x3 + 1) s14)))))) else (some (0, s7))))))
def F_X2_closeWhole (x1 : Int32) (σ : St) : Rs :=
  F_X2_closeWhole_2 5000 x1 0 σ
section S_X2_closeWhole
variable {p : Program} {l : Launch} {e : Env} {s : State} {m : MethodId} {args : Array Value} {below : List Frame} {meth : Method} {c : Code}
variable {D : va_G} {cA : ClassId} {A : Nat → Prop} {ad : Nat → Nat} {r : Int32} {σ' : St} {ta : Nat}
set_option maxHeartbeats 4000000 in
set_option maxRecDepth 100000 in
theorem t_X2_closeWhole_2  (X : Fx p s m meth c D cA A RX2 cX2_closeWhole 4 none)  : ∀ (n : Nat) (x1 x3 : Int32) (σ : St) (H : Heap) (locs : List Loc) (ls : Array Slot), F_X2_closeWhole_2 n x1 x3 σ = some (r, σ') → va_P D vwCl (wC cA ad ta σ) H → va_D A (wC cA ad ta σ) → va_S A s.heap H locs → lv_has ls 4 [(0, .ref (ad 2)), (1, .int x1), (2, .ref (ad 1)), (3, .int x3)] → W p l e (rm_X2_closeWhole) s m args below meth c H locs 0 0 (MQ below (QV D cA A (wC cA ad) σ' ta) args s 0 0 A) (F0 m 2 ls []) := by
  obtain ⟨hx, hb, hr, hml, hown, hlk, hE, hK, hA⟩ := id X
  intro n
  induction n with
  | zero =>
    intro x1 x3 σ H locs ls hf
    cases (show (none : Rs) = some _ from hf)
  | succ n ih =>
    intro x1 x3 σ H locs ls hf hP hD hS hl
    rw [F_X2_closeWhole_2] at hf
    refine lv_iload_n hx hb dX2_closeWhole_2 rfl (lv_at hl 3 rfl) ?_
    refine lv_sipush (v := 160) hx hb dX2_closeWhole_3 (by decide) ?_
    refine lv_icmp_ge (tgt := 83) hx hb dX2_closeWhole_6 (by decide) (fun c1 => ?_) (fun c1 => ?_)
    · have hf := it_t c1 hf
      obtain ⟨rfl, rfl⟩ := Prod.mk.inj (Option.some.inj hf)
      exact ret_v X hP hD hS dX2_closeWhole_83
    · have hf := it_f c1 hf
      refine lv_aload_n hx hb dX2_closeWhole_9 rfl (lv_at hl 0 rfl) ?_
      refine gC_Row_holder X hP kw73 dX2_closeWhole_10 ?_
      refine lv_iconst (v := -1) hx hb dX2_closeWhole_13 (by decide) ?_
      refine lv_icmp_eq (tgt := 32) hx hb dX2_closeWhole_14 (by decide) (fun c2 => ?_) (fun c2 => ?_)
      · have hf := it_t c2 hf
        obtain ⟨rfl, rfl⟩ := Prod.mk.inj (Option.some.inj hf)
        exact ret_v X hP hD hS dX2_closeWhole_32
      · have hf := it_f c2 hf
        refine lv_aload_n hx hb dX2_closeWhole_17 rfl (lv_at hl 0 rfl) ?_
        refine gC_Row_next X hP kw74 dX2_closeWhole_18 ?_
        refine lv_aload_n hx hb dX2_closeWhole_21 rfl (lv_at hl 2 rfl) ?_
        refine lv_aload_n hx hb dX2_closeWhole_22 rfl (lv_at hl 0 rfl) ?_
        obtain ⟨r3, s4, h5, hf⟩ := bo_e hf
        refine callV_i X cv_X2_holding kw413 (c_X2_holding l D cA A ad ta σ  r3 s4 h5) ⟨by decide, by decide⟩ ⟨rfl, rfl⟩ hP hD hS (q0 := 2) (ci := 2) rfl rfl rfl rfl hl rfl (Nat.le_of_ble_eq_true rfl) dX2_closeWhole_23 ⟨by decide, by decide⟩ (fun H locs hP hD hS => ?_)
        obtain ⟨r6, s7, h8, hf⟩ := bo_e hf
        refine callVN_i X cv_X4_parts kw408 (c_X4_parts l D cA A ad ta s4 r3 r6 s7 h8) ⟨by decide, by decide⟩ ⟨rfl, rfl⟩ hP hD hS (q0 := 1) (ci := 4) rfl rfl rfl rfl hl rfl (Nat.le_of_ble_eq_true rfl) dX2_closeWhole_26 ⟨by decide, by decide⟩ (fun H locs hP hD hS => ?_)
        refine lv_icmp_ge (tgt := 33) hx hb dX2_closeWhole_29 (by decide) (fun c9 => ?_) (fun c9 => ?_)
        · have hf := it_t c9 hf
          refine lv_aload_n hx hb dX2_closeWhole_33 rfl (lv_at hl 0 rfl) ?_
          refine gC_Row_end X hP kw67 dX2_closeWhole_34 ?_
          refine lv_aload_n hx hb dX2_closeWhole_37 rfl (lv_at hl 0 rfl) ?_
          refine gC_Row_holder X hP kw73 dX2_closeWhole_38 ?_
          refine lv_iload_n hx hb dX2_closeWhole_41 rfl (lv_at hl 1 rfl) ?_
          refine callSN_v X cs_X8_set kw373 (c_set l D cA A (wC cA ad) ta s7 15 (ad 15) 160 15 (gF s7 6) x1 (by decide) rfl (fun f => wC_a15 f)) ⟨by decide, by decide⟩ ⟨rfl, rfl⟩ hP hD hS rfl hl rfl (Nat.le_of_ble_eq_true rfl) dX2_closeWhole_42 ⟨by decide, by decide⟩ (fun H locs hP hD hS => ?_)
          obtain ⟨s10, es10, hf⟩ := bd_e hf
          rw [← es10] at hP hD
          refine lv_aload_n hx hb dX2_closeWhole_45 rfl (lv_at hl 0 rfl) ?_
          refine lv_aload_n hx hb dX2_closeWhole_46 rfl (lv_at hl 0 rfl) ?_
          refine gC_Row_place X hP kw65 dX2_closeWhole_47 ?_
          refine lv_aload_n hx hb dX2_closeWhole_50 rfl (lv_at hl 0 rfl) ?_
          refine gC_Row_holder X hP kw73 dX2_closeWhole_51 ?_
          refine callSN_i X cs_X8_get kw417 (c_get l D cA A (wC cA ad) ta s10 14 (ad 14) 160 (gA s10 14) (gF s10 6) (by decide) rfl) ⟨by decide, by decide⟩ ⟨rfl, rfl⟩ hP hD hS rfl hl rfl (Nat.le_of_ble_eq_true rfl) dX2_closeWhole_54 ⟨by decide, by decide⟩ (fun H locs hP hD hS => ?_)
          refine lv_topi (fun y11 ey11 => ?_)
          have hf := bd_x ey11 hf
          refine lv_iconst (v := 1) hx hb dX2_closeWhole_57 (by decide) ?_
          refine lv_iadd hx hb dX2_closeWhole_58 ?_
          refine pC_Row_next X hP hD hS kw74 dX2_closeWhole_59 (fun H locs hP hD hS => ?_)
          obtain ⟨s12, es12, hf⟩ := bd_e hf
          rw [← es12] at hP hD
          refine lv_aload_n hx hb dX2_closeWhole_62 rfl (lv_at hl 0 rfl) ?_
          refine lv_aload_n hx hb dX2_closeWhole_63 rfl (lv_at hl 0 rfl) ?_
          refine gC_Row_up X hP kw63 dX2_closeWhole_64 ?_
          refine lv_aload_n hx hb dX2_closeWhole_67 rfl (lv_at hl 0 rfl) ?_
          refine gC_Row_holder X hP kw73 dX2_closeWhole_68 ?_
          refine callSN_i X cs_X8_get kw417 (c_get l D cA A (wC cA ad) ta s12 13 (ad 13) 160 (gA s12 13) (gF s12 6) (by decide) rfl) ⟨by decide, by decide⟩ ⟨rfl, rfl⟩ hP hD hS rfl hl rfl (Nat.le_of_ble_eq_true rfl) dX2_closeWhole_71 ⟨by decide, by decide⟩ (fun H locs hP hD hS => ?_)
          refine lv_topi (fun y13 ey13 => ?_)
          have hf := bd_x ey13 hf
          refine pC_Row_holder X hP hD hS kw73 dX2_closeWhole_74 (fun H locs hP hD hS => ?_)
          obtain ⟨s14, es14, hf⟩ := bd_e hf
          rw [← es14] at hP hD
          refine lv_iinc (v := (x3 + 1)) (lv' := [(3, .int (x3 + 1)), (0, .ref (ad 2)), (1, .int x1), (2, .ref (ad 1))]) hx hb dX2_closeWhole_77 hl (k := 3) rfl rfl (by decide) rfl (fun ls hl => ?_)
          refine lv_goto (tgt := 2) hx hb dX2_closeWhole_80 (by decide) ?_
          exact ih x1 (x3 + 1) s14 _ _ _ hf hP hD hS (lv_sub hl [1, 2, 3, 0] rfl)
        · have hf := it_f c9 hf
          obtain ⟨rfl, rfl⟩ := Prod.mk.inj (Option.some.inj hf)
          exact ret_v X hP hD hS dX2_closeWhole_32
set_option maxHeartbeats 4000000 in
set_option maxRecDepth 100000 in
theorem t_X2_closeWhole_0  (X : Fx p s m meth c D cA A RX2 cX2_closeWhole 4 none)  {x1 : Int32} { σ : St} {H : Heap} {locs : List Loc} {ls : Array Slot} (hf : F_X2_closeWhole x1 σ = some (r, σ')) (hP : va_P D vwCl (wC cA ad ta σ) H) (hD : va_D A (wC cA ad ta σ)) (hS : va_S A s.heap H locs) (hl : lv_has ls 4 [(0, .ref (ad 2)), (1, .int x1), (2, .ref (ad 1))]) : W p l e (rm_X2_closeWhole) s m args below meth c H locs 0 0 (MQ below (QV D cA A (wC cA ad) σ' ta) args s 0 0 A) (F0 m 0 ls []) := by
  obtain ⟨hx, hb, hr, hml, hown, hlk, hE, hK, hA⟩ := id X
  rw [F_X2_closeWhole] at hf
  refine lv_iconst (v := 0) hx hb dX2_closeWhole_0 (by decide) ?_
  refine lv_istore_n (lv' := [(3, .int 0), (0, .ref (ad 2)), (1, .int x1), (2, .ref (ad 1))]) hx hb dX2_closeWhole_1 rfl hl (by decide) rfl (fun ls hl => ?_)
  exact t_X2_closeWhole_2 X  5000 x1 0 σ _ _ _ hf hP hD hS (lv_sub hl [1, 2, 3, 0] rfl)
end S_X2_closeWhole
theorem c_X2_closeWhole (l : Launch) (D : va_G) (cA : ClassId) (A : Nat → Prop) (ad : Nat → Nat) (ta : Nat) (σ : St) (x1 : Int32) (r : Int32) (σ' : St) (hf : F_X2_closeWhole x1 σ = some (r, σ')) : MV l D cA A (wC cA ad) yX2_closeWhole cX2_closeWhole 4 none rm_X2_closeWhole [.ref (ad 2), .int x1, .ref (ad 1)] ta σ σ' 0 0 := by
  refine enter (by decide) (Nat.le_of_ble_eq_true rfl) ?_
  intro p e s m below meth c ls X hnm hP hD hS hl
  exact t_X2_closeWhole_0 X hf hP hD hS hl
abbrev rm_X2_firstWrong : Room := { frames := 3, cells := 0, slots := 0, locals := 67 }
def F_X2_firstWrong_96 (x1 : Int32) (σ : St) : Rs :=
  bo (F_X2_isWhole  σ) (fun r1 s2 => if r1 = 0 then (some (x1, s2)) else (some ((-1), s2)))
def F_X2_firstWrong_21  : Nat → Int32 → Int32 → Int32 → St → Rs
  | 0, _, _, _, _ => none
  | n + 1, x1, x3, x4, σ => if x1 ≤ x4 then (F_X2_firstWrong_96 x1 σ) else (bo (F_X2_isWhole  σ) (fun r2 s3 => if r2 = 0 then (bo (F_X2_holding  s3) (fun r6 s7 => bo (F_X4_wanted r6 (gF s7 7) s7) (fun r9 s10 => bd (rd 160 (gA s10 12) x4) (fun y12 => bo (F_X2_fits y12 r9 x3 s10) (fun r13 s14 => if r13 = 0 then (some (x4, s14)) else (bo (F_X2_hang x4 s14) (fun r17 s18 => bo (F_X2_closeWhole (x4 + 1) s18) (fun r20 s21 => F_X2_firstWrong_21 n x1 x3 (x4 + 1) s21)))))))) else (some (x4, s3))))
def F_X2_firstWrong (x1 : Int32) (x3 : Int32) (σ : St) : Rs :=
  bd (sA σ 16 (fl 8 (gA σ 16) (-1))) (fun s1 => bd (sF s1 6 (-1)) (fun s2 => bd (sF s2 7 0) (fun s3 => F_X2_firstWrong_21 5000 x1 x3 0 s3)))
section S_X2_firstWrong
variable {p : Program} {l : Launch} {e : Env} {s : State} {m : MethodId} {args : Array Value} {below : List Frame} {meth : Method} {c : Code}
variable {D : va_G} {cA : ClassId} {A : Nat → Prop} {ad : Nat → Nat} {r : Int32} {σ' : St} {ta : Nat}
set_option maxHeartbeats 4000000 in
set_option maxRecDepth 100000 in
theorem t_X2_firstWrong_96  (X : Fx p s m meth c D cA A RX2 cX2_firstWrong 6 (some .int))  {x1 : Int32} { σ : St} {H : Heap} {locs : List Loc} {ls : Array Slot} (hf : F_X2_firstWrong_96 x1 σ = some (r, σ')) (hP : va_P D vwCl (wC cA ad ta σ) H) (hD : va_D A (wC cA ad ta σ)) (hS : va_S A s.heap H locs) (hl : lv_has ls 6 [(0, .ref (ad 2)), (1, .int x1), (2, .ref (ad 1))]) : W p l e (rm_X2_firstWrong) s m args below meth c H locs 0 0 (MQ below (QI D cA A (wC cA ad) r σ' ta) args s 0 0 A) (F0 m 96 ls []) := by
  obtain ⟨hx, hb, hr, hml, hown, hlk, hE, hK, hA⟩ := id X
  rw [F_X2_firstWrong_96] at hf
  refine lv_aload_n hx hb dX2_firstWrong_96 rfl (lv_at hl 0 rfl) ?_
  refine lv_aload_n hx hb dX2_firstWrong_97 rfl (lv_at hl 2 rfl) ?_
  obtain ⟨r1, s2, h3, hf⟩ := bo_e hf
  refine callV_i X cv_X2_isWhole kw404 (c_X2_isWhole l D cA A ad ta σ  r1 s2 h3) ⟨by decide, by decide⟩ ⟨rfl, rfl⟩ hP hD hS (q0 := 2) (ci := 2) rfl rfl rfl rfl hl rfl (Nat.le_of_ble_eq_true rfl) dX2_firstWrong_98 ⟨by decide, by decide⟩ (fun H locs hP hD hS => ?_)
  refine lv_if_eq (tgt := 108) hx hb dX2_firstWrong_101 (by decide) (fun c4 => ?_) (fun c4 => ?_)
  · have hf := it_t c4 hf
    refine lv_iload_n hx hb dX2_firstWrong_108 rfl (lv_at hl 1 rfl) ?_
    obtain ⟨rfl, rfl⟩ := Prod.mk.inj (Option.some.inj hf)
    exact ret_i X hP hD hS dX2_firstWrong_109
  · have hf := it_f c4 hf
    refine lv_iconst (v := -1) hx hb dX2_firstWrong_104 (by decide) ?_
    refine lv_goto (tgt := 109) hx hb dX2_firstWrong_105 (by decide) ?_
    obtain ⟨rfl, rfl⟩ := Prod.mk.inj (Option.some.inj hf)
    exact ret_i X hP hD hS dX2_firstWrong_109
set_option maxHeartbeats 4000000 in
set_option maxRecDepth 100000 in
theorem t_X2_firstWrong_21  (X : Fx p s m meth c D cA A RX2 cX2_firstWrong 6 (some .int))  : ∀ (n : Nat) (x1 x3 x4 : Int32) (σ : St) (H : Heap) (locs : List Loc) (ls : Array Slot), F_X2_firstWrong_21 n x1 x3 x4 σ = some (r, σ') → va_P D vwCl (wC cA ad ta σ) H → va_D A (wC cA ad ta σ) → va_S A s.heap H locs → lv_has ls 6 [(0, .ref (ad 2)), (1, .int x1), (2, .ref (ad 1)), (3, .int x3), (4, .int x4)] → W p l e (rm_X2_firstWrong) s m args below meth c H locs 0 0 (MQ below (QI D cA A (wC cA ad) r σ' ta) args s 0 0 A) (F0 m 21 ls []) := by
  obtain ⟨hx, hb, hr, hml, hown, hlk, hE, hK, hA⟩ := id X
  intro n
  induction n with
  | zero =>
    intro x1 x3 x4 σ H locs ls hf
    cases (show (none : Rs) = some _ from hf)
  | succ n ih =>
    intro x1 x3 x4 σ H locs ls hf hP hD hS hl
    rw [F_X2_firstWrong_21] at hf
    refine lv_iload hx hb dX2_firstWrong_21 (lv_at hl 4 rfl) ?_
    refine lv_iload_n hx hb dX2_firstWrong_23 rfl (lv_at hl 1 rfl) ?_
    refine lv_icmp_ge (tgt := 96) hx hb dX2_firstWrong_24 (by decide) (fun c1 => ?_) (fun c1 => ?_)
    · have hf := it_t c1 hf
      exact t_X2_firstWrong_96 X  hf hP hD hS (lv_sub hl [0, 1, 2] rfl)
    · have hf := it_f c1 hf
      refine lv_aload_n hx hb dX2_firstWrong_27 rfl (lv_at hl 0 rfl) ?_
      refine lv_aload_n hx hb dX2_firstWrong_28 rfl (lv_at hl 2 rfl) ?_
      obtain ⟨r2, s3, h4, hf⟩ := bo_e hf
      refine callV_i X cv_X2_isWhole kw404 (c_X2_isWhole l D cA A ad ta σ  r2 s3 h4) ⟨by decide, by decide⟩ ⟨rfl, rfl⟩ hP hD hS (q0 := 2) (ci := 2) rfl rfl rfl rfl hl rfl (Nat.le_of_ble_eq_true rfl) dX2_firstWrong_29 ⟨by decide, by decide⟩ (fun H locs hP hD hS => ?_)
      refine lv_if_eq (tgt := 38) hx hb dX2_firstWrong_32 (by decide) (fun c5 => ?_) (fun c5 => ?_)
      · have hf := it_t c5 hf
        refine lv_aload_n hx hb dX2_firstWrong_38 rfl (lv_at hl 2 rfl) ?_
        refine lv_aload_n hx hb dX2_firstWrong_39 rfl (lv_at hl 0 rfl) ?_
        obtain ⟨r6, s7, h8, hf⟩ := bo_e hf
        refine callV_i X cv_X2_holding kw413 (c_X2_holding l D cA A ad ta s3  r6 s7 h8) ⟨by decide, by decide⟩ ⟨rfl, rfl⟩ hP hD hS (q0 := 2) (ci := 2) rfl rfl rfl rfl hl rfl (Nat.le_of_ble_eq_true rfl) dX2_firstWrong_40 ⟨by decide, by decide⟩ (fun H locs hP hD hS => ?_)
        refine lv_aload_n hx hb dX2_firstWrong_43 rfl (lv_at hl 0 rfl) ?_
        refine gC_Row_next X hP kw74 dX2_firstWrong_44 ?_
        obtain ⟨r9, s10, h11, hf⟩ := bo_e hf
        refine callVN_i X cv_X4_wanted kw418 (c_X4_wanted l D cA A ad ta s7 r6 (gF s7 7) r9 s10 h11) ⟨by decide, by decide⟩ ⟨rfl, rfl⟩ hP hD hS (q0 := 1) (ci := 4) rfl rfl rfl rfl hl rfl (Nat.le_of_ble_eq_true rfl) dX2_firstWrong_47 ⟨by decide, by decide⟩ (fun H locs hP hD hS => ?_)
        refine lv_istore (lv' := [(5, .int r9), (0, .ref (ad 2)), (1, .int x1), (2, .ref (ad 1)), (3, .int x3), (4, .int x4)]) hx hb dX2_firstWrong_50 hl (by decide) rfl (fun ls hl => ?_)
        refine lv_aload_n hx hb dX2_firstWrong_52 rfl (lv_at hl 1 rfl) ?_
        refine lv_aload_n hx hb dX2_firstWrong_53 rfl (lv_at hl 1 rfl) ?_
        refine gC_Row_numbers X hP kw60 dX2_firstWrong_54 ?_
        refine lv_iload hx hb dX2_firstWrong_57 (lv_at hl 5 rfl) ?_
        refine callSN_i X cs_X8_get kw417 (c_get l D cA A (wC cA ad) ta s10 12 (ad 12) 160 (gA s10 12) x4 (by decide) rfl) ⟨by decide, by decide⟩ ⟨rfl, rfl⟩ hP hD hS rfl hl rfl (Nat.le_of_ble_eq_true rfl) dX2_firstWrong_59 ⟨by decide, by decide⟩ (fun H locs hP hD hS => ?_)
        refine lv_topi (fun y12 ey12 => ?_)
        have hf := bd_x ey12 hf
        refine lv_iload hx hb dX2_firstWrong_62 (lv_at hl 0 rfl) ?_
        refine lv_aload_n hx hb dX2_firstWrong_64 rfl (lv_at hl 3 rfl) ?_
        refine lv_iload_n hx hb dX2_firstWrong_65 rfl (lv_at hl 4 rfl) ?_
        obtain ⟨r13, s14, h15, hf⟩ := bo_e hf
        refine callV_i X cv_X2_fits kw422 (c_X2_fits l D cA A ad ta s10 y12 r9 x3 r13 s14 h15) ⟨by decide, by decide⟩ ⟨rfl, rfl⟩ hP hD hS (q0 := 2) (ci := 2) rfl rfl rfl rfl hl rfl (Nat.le_of_ble_eq_true rfl) dX2_firstWrong_66 ⟨by decide, by decide⟩ (fun H locs hP hD hS => ?_)
        refine lv_if_ne (tgt := 75) hx hb dX2_firstWrong_69 (by decide) (fun c16 => ?_) (fun c16 => ?_)
        · have hf := it_f c16 hf
          refine lv_aload_n hx hb dX2_firstWrong_75 rfl (lv_at hl 1 rfl) ?_
          refine lv_iload hx hb dX2_firstWrong_76 (lv_at hl 5 rfl) ?_
          obtain ⟨r17, s18, h19, hf⟩ := bo_e hf
          refine callV_v X cv_X2_hang kw430 (c_X2_hang l D cA A ad ta s14 x4 r17 s18 h19) ⟨by decide, by decide⟩ ⟨rfl, rfl⟩ hP hD hS (q0 := 2) (ci := 2) rfl rfl rfl rfl hl rfl (Nat.le_of_ble_eq_true rfl) dX2_firstWrong_78 ⟨by decide, by decide⟩ (fun H locs hP hD hS => ?_)
          refine lv_aload_n hx hb dX2_firstWrong_81 rfl (lv_at hl 1 rfl) ?_
          refine lv_iload hx hb dX2_firstWrong_82 (lv_at hl 5 rfl) ?_
          refine lv_iconst (v := 1) hx hb dX2_firstWrong_84 (by decide) ?_
          refine lv_iadd hx hb dX2_firstWrong_85 ?_
          refine lv_aload_n hx hb dX2_firstWrong_86 rfl (lv_at hl 3 rfl) ?_
          obtain ⟨r20, s21, h22, hf⟩ := bo_e hf
          refine callV_v X cv_X2_closeWhole kw434 (c_X2_closeWhole l D cA A ad ta s18 (x4 + 1) r20 s21 h22) ⟨by decide, by decide⟩ ⟨rfl, rfl⟩ hP hD hS (q0 := 2) (ci := 2) rfl rfl rfl rfl hl rfl (Nat.le_of_ble_eq_true rfl) dX2_firstWrong_87 ⟨by decide, by decide⟩ (fun H locs hP hD hS => ?_)
          refine lv_iinc (v := (x4 + 1)) (lv' := [(4, .int (x4 + 1)), (5, .int r9), (0, .ref (ad 2)), (1, .int x1), (2, .ref (ad 1)), (3, .int x3)]) hx hb dX2_firstWrong_90 hl (k := 5) rfl rfl (by decide) rfl (fun ls hl => ?_)
          refine lv_goto (tgt := 21) hx hb dX2_firstWrong_93 (by decide) ?_
          exact ih x1 x3 (x4 + 1) s21 _ _ _ hf hP hD hS (lv_sub hl [2, 3, 4, 5, 0] rfl)
        · have hf := it_t c16 hf
          refine lv_iload hx hb dX2_firstWrong_72 (lv_at hl 5 rfl) ?_
          obtain ⟨rfl, rfl⟩ := Prod.mk.inj (Option.some.inj hf)
          exact ret_i X hP hD hS dX2_firstWrong_74
      · have hf := it_f c5 hf
        refine lv_iload hx hb dX2_firstWrong_35 (lv_at hl 4 rfl) ?_
        obtain ⟨rfl, rfl⟩ := Prod.mk.inj (Option.some.inj hf)
        exact ret_i X hP hD hS dX2_firstWrong_37
set_option maxHeartbeats 4000000 in
set_option maxRecDepth 100000 in
theorem t_X2_firstWrong_0  (X : Fx p s m meth c D cA A RX2 cX2_firstWrong 6 (some .int))  {x1 x3 : Int32} { σ : St} {H : Heap} {locs : List Loc} {ls : Array Slot} (hf : F_X2_firstWrong x1 x3 σ = some (r, σ')) (hP : va_P D vwCl (wC cA ad ta σ) H) (hD : va_D A (wC cA ad ta σ)) (hS : va_S A s.heap H locs) (hl : lv_has ls 6 [(0, .ref (ad 2)), (1, .int x1), (2, .ref (ad 1)), (3, .int x3)]) : W p l e (rm_X2_firstWrong) s m args below meth c H locs 0 0 (MQ below (QI D cA A (wC cA ad) r σ' ta) args s 0 0 A) (F0 m 0 ls []) := by
  obtain ⟨hx, hb, hr, hml, hown, hlk, hE, hK, hA⟩ := id X
  rw [F_X2_firstWrong] at hf
  refine lv_aload_n hx hb dX2_firstWrong_0 rfl (lv_at hl 0 rfl) ?_
  refine gC_Row_nameTypes X hP kw70 dX2_firstWrong_1 ?_
  refine lv_iconst (v := -1) hx hb dX2_firstWrong_4 (by decide) ?_
  refine callS_v X cs_J7_fill_53178 kw401 (c_fill l D cA A (wC cA ad) ta σ 16 (ad 16) 8 16 (-1) (by decide) (fun f => rfl) (fun g f => rfl) (sA_gA _ _)) ⟨by decide, by decide⟩ ⟨rfl, rfl⟩ hP hD hS rfl hl rfl (Nat.le_of_ble_eq_true rfl) dX2_firstWrong_5 ⟨by decide, by decide⟩ (fun H locs hP hD hS => ?_)
  obtain ⟨s1, es1, hf⟩ := bd_e hf
  rw [← es1] at hP hD
  refine lv_aload_n hx hb dX2_firstWrong_8 rfl (lv_at hl 0 rfl) ?_
  refine lv_iconst (v := -1) hx hb dX2_firstWrong_9 (by decide) ?_
  refine pC_Row_holder X hP hD hS kw73 dX2_firstWrong_10 (fun H locs hP hD hS => ?_)
  obtain ⟨s2, es2, hf⟩ := bd_e hf
  rw [← es2] at hP hD
  refine lv_aload_n hx hb dX2_firstWrong_13 rfl (lv_at hl 0 rfl) ?_
  refine lv_iconst (v := 0) hx hb dX2_firstWrong_14 (by decide) ?_
  refine pC_Row_next X hP hD hS kw74 dX2_firstWrong_15 (fun H locs hP hD hS => ?_)
  obtain ⟨s3, es3, hf⟩ := bd_e hf
  rw [← es3] at hP hD
  refine lv_iconst (v := 0) hx hb dX2_firstWrong_18 (by decide) ?_
  refine lv_istore (lv' := [(4, .int 0), (0, .ref (ad 2)), (1, .int x1), (2, .ref (ad 1)), (3, .int x3)]) hx hb dX2_firstWrong_19 hl (by decide) rfl (fun ls hl => ?_)
  exact t_X2_firstWrong_21 X  5000 x1 x3 0 s3 _ _ _ hf hP hD hS (lv_sub hl [1, 2, 3, 4, 0] rfl)
end S_X2_firstWrong
theorem c_X2_firstWrong (l : Launch) (D : va_G) (cA : ClassId) (A : Nat → Prop) (ad : Nat → Nat) (ta : Nat) (σ : St) (x1 x3 : Int32) (r : Int32) (σ' : St) (hf : F_X2_firstWrong x1 x3 σ = some (r, σ')) : MI l D cA A (wC cA ad) yX2_firstWrong cX2_firstWrong 6 (some .int) rm_X2_firstWrong [.ref (ad 2), .int x1, .ref (ad 1), .int x3] ta σ r σ' 0 0 := by
  refine enter (by decide) (Nat.le_of_ble_eq_true rfl) ?_
  intro p e s m below meth c ls X hnm hP hD hS hl
  exact t_X2_firstWrong_0 X hf hP hD hS hl
