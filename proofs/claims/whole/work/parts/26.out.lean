abbrev rm_X0_clear : Room := { frames := 0, cells := 0, slots := 0, locals := 0 }
def F_X0_clear  (σ : St) : Rs :=
  bd (sF σ 15 0) (fun s1 => some (0, s1))
section S_X0_clear
variable {p : Program} {l : Launch} {e : Env} {s : State} {m : MethodId} {args : Array Value} {below : List Frame} {meth : Method} {c : Code}
variable {D : va_G} {cA : ClassId} {A : Nat → Prop} {ad : Nat → Nat} {r : Int32} {σ' : St} {ta : Nat}
set_option maxHeartbeats 4000000 in
set_option maxRecDepth 100000 in
theorem t_X0_clear_0  (X : Fx p s m meth c D cA A RX0 cX0_clear 1 none)  { σ : St} {H : Heap} {locs : List Loc} {ls : Array Slot} (hf : F_X0_clear σ = some (r, σ')) (hP : va_P D vwCl (wC cA ad ta σ) H) (hD : va_D A (wC cA ad ta σ)) (hS : va_S A s.heap H locs) (hl : lv_has ls 1 [(0, .ref (ad 7))]) : W p l e (rm_X0_clear) s m args below meth c H locs 0 0 (MQ below (QV D cA A (wC cA ad) σ' ta) args s 0 0 A) (F0 m 0 ls []) := by
  obtain ⟨hx, hb, hr, hml, hown, hlk, hE, hK, hA⟩ := id X
  rw [F_X0_clear] at hf
  refine lv_aload_n hx hb dX0_clear_0 rfl (lv_at hl 0 rfl) ?_
  refine lv_iconst (v := 0) hx hb dX0_clear_1 (by decide) ?_
  refine pC_Out_many X hP hD hS kw249 dX0_clear_2 (fun H locs hP hD hS => ?_)
  obtain ⟨s1, es1, hf⟩ := bd_e hf
  rw [← es1] at hP hD
  obtain ⟨rfl, rfl⟩ := Prod.mk.inj (Option.some.inj hf)
  exact ret_v X hP hD hS dX0_clear_5
end S_X0_clear
theorem c_X0_clear (l : Launch) (D : va_G) (cA : ClassId) (A : Nat → Prop) (ad : Nat → Nat) (ta : Nat) (σ : St) (r : Int32) (σ' : St) (hf : F_X0_clear σ = some (r, σ')) : MV l D cA A (wC cA ad) yX0_clear cX0_clear 1 none rm_X0_clear [.ref (ad 7)] ta σ σ' 0 0 := by
  refine enter (by decide) (Nat.le_of_ble_eq_true rfl) ?_
  intro p e s m below meth c ls X hnm hP hD hS hl
  exact t_X0_clear_0 X hf hP hD hS hl
abbrev rm_X0_answer : Room := { frames := 1, cells := 0, slots := 0, locals := 21 }
def F_X0_answer (x1 : Int32) (x2 : Int32) (σ : St) : Rs :=
  if x1 < 0 then (some ((-9), σ)) else (if (gF σ 15) ≤ x1 then (some ((-9), σ)) else (if 0 ≤ x2 then (if x2 = 0 then (bd (rd 24 (gA σ 40) x1) (fun y5 => some (y5, σ))) else (if x2 = 1 then (bd (rd 24 (gA σ 41) x1) (fun y7 => some (y7, σ))) else (if x2 = 2 then (bd (rd 24 (gA σ 42) x1) (fun y9 => some (y9, σ))) else (if x2 = 3 then (bd (rd 24 (gA σ 43) x1) (fun y11 => some (y11, σ))) else (bd (x2 - 4) (fun y12 => bd (rd 24 (gA σ 43) x1) (fun y13 => if y13 ≤ y12 then (some ((-9), σ)) else (bd (rd ((gF σ 16).toNatClampNeg) (gA σ 48) ((x1 * 400) + y12)) (fun y15 => some (y15, σ)))))))))) else (some ((-9), σ))))
section S_X0_answer
variable {p : Program} {l : Launch} {e : Env} {s : State} {m : MethodId} {args : Array Value} {below : List Frame} {meth : Method} {c : Code}
variable {D : va_G} {cA : ClassId} {A : Nat → Prop} {ad : Nat → Nat} {r : Int32} {σ' : St} {ta : Nat}
set_option maxHeartbeats 4000000 in
set_option maxRecDepth 100000 in
theorem t_X0_answer_0  (X : Fx p s m meth c D cA A RX0 cX0_answer 4 (some .int))  {x1 x2 : Int32} { σ : St} {H : Heap} {locs : List Loc} {ls : Array Slot} (hf : F_X0_answer x1 x2 σ = some (r, σ')) (hP : va_P D vwCl (wC cA ad ta σ) H) (hD : va_D A (wC cA ad ta σ)) (hS : va_S A s.heap H locs) (hl : lv_has ls 4 [(0, .ref (ad 7)), (1, .int x1), (2, .int x2)]) : W p l e (rm_X0_answer) s m args below meth c H locs 0 0 (MQ below (QI D cA A (wC cA ad) r σ' ta) args s 0 0 A) (F0 m 0 ls []) := by
  obtain ⟨hx, hb, hr, hml, hown, hlk, hE, hK, hA⟩ := id X
  rw [F_X0_answer] at hf
  refine lv_iload_n hx hb dX0_answer_0 rfl (lv_at hl 1 rfl) ?_
  refine lv_if_lt (tgt := 16) hx hb dX0_answer_1 (by decide) (fun c1 => ?_) (fun c1 => ?_)
  · have hf := it_t c1 hf
    refine lv_bipush (v := -9) hx hb dX0_answer_16 (by decide) ?_
    obtain ⟨rfl, rfl⟩ := Prod.mk.inj (Option.some.inj hf)
    exact ret_i X hP hD hS dX0_answer_18
  · have hf := it_f c1 hf
    refine lv_iload_n hx hb dX0_answer_4 rfl (lv_at hl 1 rfl) ?_
    refine lv_aload_n hx hb dX0_answer_5 rfl (lv_at hl 0 rfl) ?_
    refine gC_Out_many X hP kw249 dX0_answer_6 ?_
    refine lv_icmp_ge (tgt := 16) hx hb dX0_answer_9 (by decide) (fun c2 => ?_) (fun c2 => ?_)
    · have hf := it_t c2 hf
      refine lv_bipush (v := -9) hx hb dX0_answer_16 (by decide) ?_
      obtain ⟨rfl, rfl⟩ := Prod.mk.inj (Option.some.inj hf)
      exact ret_i X hP hD hS dX0_answer_18
    · have hf := it_f c2 hf
      refine lv_iload_n hx hb dX0_answer_12 rfl (lv_at hl 2 rfl) ?_
      refine lv_if_ge (tgt := 19) hx hb dX0_answer_13 (by decide) (fun c3 => ?_) (fun c3 => ?_)
      · have hf := it_t c3 hf
        refine lv_iload_n hx hb dX0_answer_19 rfl (lv_at hl 2 rfl) ?_
        by_cases c4 : x2 = 0
        · have hf := it_t c4 hf
          refine lv_tableIn (off := 32) (tgt := 52) hx hb dX0_answer_20 (by rw [c4]; decide) (by rw [c4]; decide) (by rw [c4]; decide) (by decide) ?_
          refine lv_aload_n hx hb dX0_answer_52 rfl (lv_at hl 0 rfl) ?_
          refine gC_Out_rules X hP kw244 dX0_answer_53 ?_
          refine lv_iload_n hx hb dX0_answer_56 rfl (lv_at hl 1 rfl) ?_
          refine callSN_i X cs_X8_get kw606 (c_get l D cA A (wC cA ad) ta σ 40 (ad 40) 24 (gA σ 40) x1 (by decide) rfl) ⟨by decide, by decide⟩ ⟨rfl, rfl⟩ hP hD hS rfl hl rfl (Nat.le_of_ble_eq_true rfl) dX0_answer_57 ⟨by decide, by decide⟩ (fun H locs hP hD hS => ?_)
          refine lv_topi (fun y5 ey5 => ?_)
          have hf := bd_x ey5 hf
          obtain ⟨rfl, rfl⟩ := Prod.mk.inj (Option.some.inj hf)
          exact ret_i X hP hD hS dX0_answer_60
        have hf := it_f c4 hf
        by_cases c6 : x2 = 1
        · have hf := it_t c6 hf
          refine lv_tableIn (off := 41) (tgt := 61) hx hb dX0_answer_20 (by rw [c6]; decide) (by rw [c6]; decide) (by rw [c6]; decide) (by decide) ?_
          refine lv_aload_n hx hb dX0_answer_61 rfl (lv_at hl 0 rfl) ?_
          refine gC_Out_asks X hP kw245 dX0_answer_62 ?_
          refine lv_iload_n hx hb dX0_answer_65 rfl (lv_at hl 1 rfl) ?_
          refine callSN_i X cs_X8_get kw606 (c_get l D cA A (wC cA ad) ta σ 41 (ad 41) 24 (gA σ 41) x1 (by decide) rfl) ⟨by decide, by decide⟩ ⟨rfl, rfl⟩ hP hD hS rfl hl rfl (Nat.le_of_ble_eq_true rfl) dX0_answer_66 ⟨by decide, by decide⟩ (fun H locs hP hD hS => ?_)
          refine lv_topi (fun y7 ey7 => ?_)
          have hf := bd_x ey7 hf
          obtain ⟨rfl, rfl⟩ := Prod.mk.inj (Option.some.inj hf)
          exact ret_i X hP hD hS dX0_answer_69
        have hf := it_f c6 hf
        by_cases c8 : x2 = 2
        · have hf := it_t c8 hf
          refine lv_tableIn (off := 50) (tgt := 70) hx hb dX0_answer_20 (by rw [c8]; decide) (by rw [c8]; decide) (by rw [c8]; decide) (by decide) ?_
          refine lv_aload_n hx hb dX0_answer_70 rfl (lv_at hl 0 rfl) ?_
          refine gC_Out_freeAsks X hP kw246 dX0_answer_71 ?_
          refine lv_iload_n hx hb dX0_answer_74 rfl (lv_at hl 1 rfl) ?_
          refine callSN_i X cs_X8_get kw606 (c_get l D cA A (wC cA ad) ta σ 42 (ad 42) 24 (gA σ 42) x1 (by decide) rfl) ⟨by decide, by decide⟩ ⟨rfl, rfl⟩ hP hD hS rfl hl rfl (Nat.le_of_ble_eq_true rfl) dX0_answer_75 ⟨by decide, by decide⟩ (fun H locs hP hD hS => ?_)
          refine lv_topi (fun y9 ey9 => ?_)
          have hf := bd_x ey9 hf
          obtain ⟨rfl, rfl⟩ := Prod.mk.inj (Option.some.inj hf)
          exact ret_i X hP hD hS dX0_answer_78
        have hf := it_f c8 hf
        by_cases c10 : x2 = 3
        · have hf := it_t c10 hf
          refine lv_tableIn (off := 59) (tgt := 79) hx hb dX0_answer_20 (by rw [c10]; decide) (by rw [c10]; decide) (by rw [c10]; decide) (by decide) ?_
          refine lv_aload_n hx hb dX0_answer_79 rfl (lv_at hl 0 rfl) ?_
          refine gC_Out_lengths X hP kw247 dX0_answer_80 ?_
          refine lv_iload_n hx hb dX0_answer_83 rfl (lv_at hl 1 rfl) ?_
          refine callSN_i X cs_X8_get kw606 (c_get l D cA A (wC cA ad) ta σ 43 (ad 43) 24 (gA σ 43) x1 (by decide) rfl) ⟨by decide, by decide⟩ ⟨rfl, rfl⟩ hP hD hS rfl hl rfl (Nat.le_of_ble_eq_true rfl) dX0_answer_84 ⟨by decide, by decide⟩ (fun H locs hP hD hS => ?_)
          refine lv_topi (fun y11 ey11 => ?_)
          have hf := bd_x ey11 hf
          obtain ⟨rfl, rfl⟩ := Prod.mk.inj (Option.some.inj hf)
          exact ret_i X hP hD hS dX0_answer_87
        have hf := it_f c10 hf
        refine lv_tableOut (tgt := 88) hx hb dX0_answer_20 (by have qc4 := lv_neT c4 (a := 0) rfl; have qc6 := lv_neT c6 (a := 1) rfl; have qc8 := lv_neT c8 (a := 2) rfl; have qc10 := lv_neT c10 (a := 3) rfl; omega) (by decide) ?_
        refine lv_iload_n hx hb dX0_answer_88 rfl (lv_at hl 2 rfl) ?_
        refine lv_iconst (v := 4) hx hb dX0_answer_89 (by decide) ?_
        refine lv_isub hx hb dX0_answer_90 ?_
        refine lv_topi (fun y12 ey12 => ?_)
        have hf := bd_x ey12 hf
        refine lv_istore_n (lv' := [(3, .int y12), (0, .ref (ad 7)), (1, .int x1), (2, .int x2)]) hx hb dX0_answer_91 rfl hl (by decide) rfl (fun ls hl => ?_)
        refine lv_iload_n hx hb dX0_answer_92 rfl (lv_at hl 0 rfl) ?_
        refine lv_aload_n hx hb dX0_answer_93 rfl (lv_at hl 1 rfl) ?_
        refine gC_Out_lengths X hP kw247 dX0_answer_94 ?_
        refine lv_iload_n hx hb dX0_answer_97 rfl (lv_at hl 2 rfl) ?_
        refine callSN_i X cs_X8_get kw606 (c_get l D cA A (wC cA ad) ta σ 43 (ad 43) 24 (gA σ 43) x1 (by decide) rfl) ⟨by decide, by decide⟩ ⟨rfl, rfl⟩ hP hD hS rfl hl rfl (Nat.le_of_ble_eq_true rfl) dX0_answer_98 ⟨by decide, by decide⟩ (fun H locs hP hD hS => ?_)
        refine lv_topi (fun y13 ey13 => ?_)
        have hf := bd_x ey13 hf
        refine lv_icmp_ge (tgt := 121) hx hb dX0_answer_101 (by decide) (fun c14 => ?_) (fun c14 => ?_)
        · have hf := it_t c14 hf
          refine lv_bipush (v := -9) hx hb dX0_answer_121 (by decide) ?_
          obtain ⟨rfl, rfl⟩ := Prod.mk.inj (Option.some.inj hf)
          exact ret_i X hP hD hS dX0_answer_123
        · have hf := it_f c14 hf
          refine lv_aload_n hx hb dX0_answer_104 rfl (lv_at hl 1 rfl) ?_
          refine gC_Out_told X hP kw248 dX0_answer_105 ?_
          refine lv_iload_n hx hb dX0_answer_108 rfl (lv_at hl 2 rfl) ?_
          refine lv_sipush (v := 400) hx hb dX0_answer_109 (by decide) ?_
          refine lv_imul hx hb dX0_answer_112 ?_
          refine lv_iload_n hx hb dX0_answer_113 rfl (lv_at hl 0 rfl) ?_
          refine lv_iadd hx hb dX0_answer_114 ?_
          refine callSN_i X cs_X8_get kw606 (c_get l D cA A (wC cA ad) ta σ 48 ta ((gF σ 16).toNatClampNeg) (gA σ 48) ((x1 * 400) + y12) (cl_lt _) rfl) ⟨by decide, by decide⟩ ⟨rfl, rfl⟩ hP hD hS rfl hl rfl (Nat.le_of_ble_eq_true rfl) dX0_answer_115 ⟨by decide, by decide⟩ (fun H locs hP hD hS => ?_)
          refine lv_topi (fun y15 ey15 => ?_)
          have hf := bd_x ey15 hf
          refine lv_goto (tgt := 123) hx hb dX0_answer_118 (by decide) ?_
          obtain ⟨rfl, rfl⟩ := Prod.mk.inj (Option.some.inj hf)
          exact ret_i X hP hD hS dX0_answer_123
      · have hf := it_f c3 hf
        refine lv_bipush (v := -9) hx hb dX0_answer_16 (by decide) ?_
        obtain ⟨rfl, rfl⟩ := Prod.mk.inj (Option.some.inj hf)
        exact ret_i X hP hD hS dX0_answer_18
end S_X0_answer
theorem c_X0_answer (l : Launch) (D : va_G) (cA : ClassId) (A : Nat → Prop) (ad : Nat → Nat) (ta : Nat) (σ : St) (x1 x2 : Int32) (r : Int32) (σ' : St) (hf : F_X0_answer x1 x2 σ = some (r, σ')) : MI l D cA A (wC cA ad) yX0_answer cX0_answer 4 (some .int) rm_X0_answer [.ref (ad 7), .int x1, .int x2] ta σ r σ' 0 0 := by
  refine enter (by decide) (Nat.le_of_ble_eq_true rfl) ?_
  intro p e s m below meth c ls X hnm hP hD hS hl
  exact t_X0_answer_0 X hf hP hD hS hl
