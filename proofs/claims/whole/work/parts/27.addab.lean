abbrev rm_X0_add : Room := { frames := 3, cells := 0, slots := 0, locals := 72 }
def F_X0_add_38 (x1 : Int32) (x2 : Int32) (x3 : Int32) (σ : St) : Rs :=
  bd (sA σ 40 (wr 24 (gA σ 40) (gF σ 15) x1)) (fun s1 => bd (sA s1 41 (wr 24 (gA s1 41) (gF s1 15) x2)) (fun s2 => bd (sA s2 42 (wr 24 (gA s2 42) (gF s2 15) x3)) (fun s3 => bd (sA s3 43 (wr 24 (gA s3 43) (gF s3 15) (gF s3 13))) (fun s4 => bo (F_X5_write ((gF s4 15) * 400) s4) (fun r5 s6 => bd (sF s6 15 ((gF s6 15) + 1)) (fun s8 => some (0, s8)))))))
def F_X0_add (x1 : Int32) (x2 : Int32) (x3 : Int32) (σ : St) : Rs :=
  if 24 ≤ (gF σ 15) then (some (0, σ)) else (if (gF σ 13) ≤ 400 then (if (nI ((gF σ 16).toNatClampNeg)) = 0 then (bd (nT σ) (fun s4 => F_X0_add_38 x1 x2 x3 s4)) else (F_X0_add_38 x1 x2 x3 σ)) else (some (0, σ)))
section S_X0_add
variable {p : Program} {l : Launch} {e : Env} {s : State} {m : MethodId} {args : Array Value} {below : List Frame} {meth : Method} {c : Code}
variable {D : va_G} {cA : ClassId} {A : Nat → Prop} {ad : Nat → Nat} {r : Int32} {σ' : St} {ta : Nat}
set_option maxHeartbeats 4000000 in
set_option maxRecDepth 100000 in
theorem t_X0_addA_38  (X : Fx p s m meth c D cA A RX0 cX0_add 5 none)  {x1 x2 x3 : Int32} { σ : St} {H : Heap} {locs : List Loc} {ls : Array Slot} (hf : F_X0_add_38 x1 x2 x3 σ = some (r, σ')) (hP : va_P D vwCl (wC cA ad ta σ) H) (hD : va_D A (wC cA ad ta σ)) (hS : va_S A s.heap H locs) (hl : lv_has ls 5 [(0, .ref (ad 7)), (1, .int x1), (2, .int x2), (3, .int x3), (4, .ref (ad 6))]) : W p l e (rm_X0_add) s m args below meth c H locs 0 0 (MQ below (QV D cA A (wC cA ad) σ' ta) args s 0 0 A) (F0 m 38 ls []) := by
  obtain ⟨hx, hb, hr, hml, hown, hlk, hE, hK, hA⟩ := id X
  rw [F_X0_add_38] at hf
  refine lv_aload_n hx hb dX0_add_38 rfl (lv_at hl 0 rfl) ?_
  refine gC_Out_rules X hP kw244 dX0_add_39 ?_
  refine lv_aload_n hx hb dX0_add_42 rfl (lv_at hl 0 rfl) ?_
  refine gC_Out_many X hP kw249 dX0_add_43 ?_
  refine lv_iload_n hx hb dX0_add_46 rfl (lv_at hl 1 rfl) ?_
  refine callSN_v X cs_X8_set kw588 (c_set l D cA A (wC cA ad) ta σ 40 (ad 40) 24 40 (gF σ 15) x1 (by decide) rfl (fun f => wC_a40 f)) ⟨by decide, by decide⟩ ⟨rfl, rfl⟩ hP hD hS rfl hl rfl (Nat.le_of_ble_eq_true rfl) dX0_add_47 ⟨by decide, by decide⟩ (fun H locs hP hD hS => ?_)
  obtain ⟨s1, es1, hf⟩ := bd_e hf
  rw [← es1] at hP hD
  refine lv_aload_n hx hb dX0_add_50 rfl (lv_at hl 0 rfl) ?_
  refine gC_Out_asks X hP kw245 dX0_add_51 ?_
  refine lv_aload_n hx hb dX0_add_54 rfl (lv_at hl 0 rfl) ?_
  refine gC_Out_many X hP kw249 dX0_add_55 ?_
  refine lv_iload_n hx hb dX0_add_58 rfl (lv_at hl 2 rfl) ?_
  refine callSN_v X cs_X8_set kw588 (c_set l D cA A (wC cA ad) ta s1 41 (ad 41) 24 41 (gF s1 15) x2 (by decide) rfl (fun f => wC_a41 f)) ⟨by decide, by decide⟩ ⟨rfl, rfl⟩ hP hD hS rfl hl rfl (Nat.le_of_ble_eq_true rfl) dX0_add_59 ⟨by decide, by decide⟩ (fun H locs hP hD hS => ?_)
  obtain ⟨s2, es2, hf⟩ := bd_e hf
  rw [← es2] at hP hD
  refine lv_aload_n hx hb dX0_add_62 rfl (lv_at hl 0 rfl) ?_
  refine gC_Out_freeAsks X hP kw246 dX0_add_63 ?_
  refine lv_aload_n hx hb dX0_add_66 rfl (lv_at hl 0 rfl) ?_
  refine gC_Out_many X hP kw249 dX0_add_67 ?_
  refine lv_iload_n hx hb dX0_add_70 rfl (lv_at hl 3 rfl) ?_
  refine callSN_v X cs_X8_set kw588 (c_set l D cA A (wC cA ad) ta s2 42 (ad 42) 24 42 (gF s2 15) x3 (by decide) rfl (fun f => wC_a42 f)) ⟨by decide, by decide⟩ ⟨rfl, rfl⟩ hP hD hS rfl hl rfl (Nat.le_of_ble_eq_true rfl) dX0_add_71 ⟨by decide, by decide⟩ (fun H locs hP hD hS => ?_)
  obtain ⟨s3, es3, hf⟩ := bd_e hf
  rw [← es3] at hP hD
  refine lv_aload_n hx hb dX0_add_74 rfl (lv_at hl 0 rfl) ?_
  refine gC_Out_lengths X hP kw247 dX0_add_75 ?_
  refine lv_aload_n hx hb dX0_add_78 rfl (lv_at hl 0 rfl) ?_
  refine gC_Out_many X hP kw249 dX0_add_79 ?_
  refine lv_aload hx hb dX0_add_82 (lv_at hl 4 rfl) ?_
  refine gCN_Ter_length X hP kw211 dX0_add_84 ?_
  refine callSN_v X cs_X8_set kw588 (c_set l D cA A (wC cA ad) ta s3 43 (ad 43) 24 43 (gF s3 15) (gF s3 13) (by decide) rfl (fun f => wC_a43 f)) ⟨by decide, by decide⟩ ⟨rfl, rfl⟩ hP hD hS rfl hl rfl (Nat.le_of_ble_eq_true rfl) dX0_add_87 ⟨by decide, by decide⟩ (fun H locs hP hD hS => ?_)
  obtain ⟨s4, es4, hf⟩ := bd_e hf
  rw [← es4] at hP hD
  refine lv_aload hx hb dX0_add_90 (lv_at hl 4 rfl) ?_
  refine lv_aload_n hx hb dX0_add_92 rfl (lv_at hl 0 rfl) ?_
  refine gC_Out_told X hP kw248 dX0_add_93 ?_
  refine lv_aload_n hx hb dX0_add_96 rfl (lv_at hl 0 rfl) ?_
  refine gC_Out_many X hP kw249 dX0_add_97 ?_
  refine lv_sipush (v := 400) hx hb dX0_add_100 (by decide) ?_
  refine lv_imul hx hb dX0_add_103 ?_
  obtain ⟨r5, s6, h7, hf⟩ := bo_e hf
  refine callVN_v X cv_X5_write kw589 (c_X5_write l D cA A ad ta s4 ((gF s4 15) * 400) r5 s6 h7) ⟨by decide, by decide⟩ ⟨rfl, rfl⟩ hP hD hS (q0 := 6) (ci := 5) rfl rfl rfl rfl hl rfl (Nat.le_of_ble_eq_true rfl) dX0_add_104 ⟨by decide, by decide⟩ (fun H locs hP hD hS => ?_)
  refine lv_aload_n hx hb dX0_add_107 rfl (lv_at hl 0 rfl) ?_
  refine lv_dup hx hb dX0_add_108 rfl ?_
  refine gC_Out_many X hP kw249 dX0_add_109 ?_
  refine lv_iconst (v := 1) hx hb dX0_add_112 (by decide) ?_
  refine lv_iadd hx hb dX0_add_113 ?_
  refine pC_Out_many X hP hD hS kw249 dX0_add_114 (fun H locs hP hD hS => ?_)
  obtain ⟨s8, es8, hf⟩ := bd_e hf
  rw [← es8] at hP hD
  obtain ⟨rfl, rfl⟩ := Prod.mk.inj (Option.some.inj hf)
  exact ret_v X hP hD hS dX0_add_117
set_option maxHeartbeats 4000000 in
set_option maxRecDepth 100000 in
theorem t_X0_addA_0  (X : Fx p s m meth c D cA A RX0 cX0_add 5 none)  {x1 x2 x3 : Int32} { σ : St} {H : Heap} {locs : List Loc} {ls : Array Slot} (hf : F_X0_add x1 x2 x3 σ = some (r, σ')) (hP : va_P D vwCl (wC cA ad ta σ) H) (hD : va_D A (wC cA ad ta σ)) (hS : va_S A s.heap H locs) (hl : lv_has ls 5 [(0, .ref (ad 7)), (1, .int x1), (2, .int x2), (3, .int x3), (4, .ref (ad 6))]) (htl : ¬ nI ((gF σ 16).toNatClampNeg) = 0) : W p l e (rm_X0_add) s m args below meth c H locs 0 0 (MQ below (QV D cA A (wC cA ad) σ' ta) args s 0 0 A) (F0 m 0 ls []) := by
  obtain ⟨hx, hb, hr, hml, hown, hlk, hE, hK, hA⟩ := id X
  rw [F_X0_add] at hf
  refine lv_aload_n hx hb dX0_add_0 rfl (lv_at hl 0 rfl) ?_
  refine gC_Out_many X hP kw249 dX0_add_1 ?_
  refine lv_bipush (v := 24) hx hb dX0_add_4 (by decide) ?_
  refine lv_icmp_ge (tgt := 20) hx hb dX0_add_6 (by decide) (fun c1 => ?_) (fun c1 => ?_)
  · have hf := it_t c1 hf
    obtain ⟨rfl, rfl⟩ := Prod.mk.inj (Option.some.inj hf)
    exact ret_v X hP hD hS dX0_add_20
  · have hf := it_f c1 hf
    refine lv_aload hx hb dX0_add_9 (lv_at hl 4 rfl) ?_
    refine gCN_Ter_length X hP kw211 dX0_add_11 ?_
    refine lv_sipush (v := 400) hx hb dX0_add_14 (by decide) ?_
    refine lv_icmp_le (tgt := 21) hx hb dX0_add_17 (by decide) (fun c2 => ?_) (fun c2 => ?_)
    · have hf := it_t c2 hf
      refine lv_aload_n hx hb dX0_add_21 rfl (lv_at hl 0 rfl) ?_
      refine gC_Out_told X hP kw248 dX0_add_22 ?_
      refine va_alen (v := nI ((gF σ 16).toNatClampNeg)) hx hb hK hP 48 0 rfl rfl rfl dX0_add_25 ?_
      refine lv_if_ne (tgt := 38) hx hb dX0_add_26 (by decide) (fun c3 => ?_) (fun c3 => ?_)
      · have hf := it_f c3 hf
        exact t_X0_addA_38 X  hf hP hD hS (lv_sub hl [0, 1, 2, 3, 4] rfl)
      · have hf := it_t c3 hf
        exact absurd c3 htl
    · have hf := it_f c2 hf
      obtain ⟨rfl, rfl⟩ := Prod.mk.inj (Option.some.inj hf)
      exact ret_v X hP hD hS dX0_add_20
end S_X0_add
theorem c_X0_addA (l : Launch) (D : va_G) (cA : ClassId) (A : Nat → Prop) (ad : Nat → Nat) (ta : Nat) (σ : St) (x1 x2 x3 : Int32) (r : Int32) (σ' : St) (hf : F_X0_add x1 x2 x3 σ = some (r, σ')) (htl : ¬ nI ((gF σ 16).toNatClampNeg) = 0) : MV l D cA A (wC cA ad) yX0_add cX0_add 5 none rm_X0_add [.ref (ad 7), .int x1, .int x2, .int x3, .ref (ad 6)] ta σ σ' 0 0 := by
  refine enter (by decide) (Nat.le_of_ble_eq_true rfl) ?_
  intro p e s m below meth c ls X hnm hP hD hS hl
  exact t_X0_addA_0 X hf hP hD hS hl htl
abbrev rm_X0_addB : Room := { frames := 3, cells := 1, slots := 9600, locals := 72 }
section S_X0_add
variable {p : Program} {l : Launch} {e : Env} {s : State} {m : MethodId} {args : Array Value} {below : List Frame} {meth : Method} {c : Code}
variable {D : va_G} {cA : ClassId} {A : Nat → Prop} {ad : Nat → Nat} {r : Int32} {σ' : St} {ta : Nat}
set_option maxHeartbeats 4000000 in
set_option maxRecDepth 100000 in
theorem t_X0_addB_38  (X : Fx p s m meth c D cA A RX0 cX0_add 5 none)  {x1 x2 x3 : Int32} { σ : St} {H : Heap} {locs : List Loc} {ls : Array Slot} (hf : F_X0_add_38 x1 x2 x3 σ = some (r, σ')) (hP : va_P D vwCl (wC cA ad ta σ) H) (hD : va_D A (wC cA ad ta σ)) (hS : va_S A s.heap H locs) (hl : lv_has ls 5 [(0, .ref (ad 7)), (1, .int x1), (2, .int x2), (3, .int x3), (4, .ref (ad 6))]) : W p l e (rm_X0_addB) s m args below meth c H locs 1 9600 (MQ below (QVa D cA A (wC cA ad) σ') args s 1 9600 A) (F0 m 38 ls []) := by
  obtain ⟨hx, hb, hr, hml, hown, hlk, hE, hK, hA⟩ := id X
  rw [F_X0_add_38] at hf
  refine lv_aload_n hx hb dX0_add_38 rfl (lv_at hl 0 rfl) ?_
  refine gC_Out_rules X hP kw244 dX0_add_39 ?_
  refine lv_aload_n hx hb dX0_add_42 rfl (lv_at hl 0 rfl) ?_
  refine gC_Out_many X hP kw249 dX0_add_43 ?_
  refine lv_iload_n hx hb dX0_add_46 rfl (lv_at hl 1 rfl) ?_
  refine callSN_v X cs_X8_set kw588 (c_set l D cA A (wC cA ad) ta σ 40 (ad 40) 24 40 (gF σ 15) x1 (by decide) rfl (fun f => wC_a40 f)) ⟨by decide, by decide⟩ ⟨rfl, rfl⟩ hP hD hS rfl hl rfl (Nat.le_of_ble_eq_true rfl) dX0_add_47 ⟨by decide, by decide⟩ (fun H locs hP hD hS => ?_)
  obtain ⟨s1, es1, hf⟩ := bd_e hf
  rw [← es1] at hP hD
  refine lv_aload_n hx hb dX0_add_50 rfl (lv_at hl 0 rfl) ?_
  refine gC_Out_asks X hP kw245 dX0_add_51 ?_
  refine lv_aload_n hx hb dX0_add_54 rfl (lv_at hl 0 rfl) ?_
  refine gC_Out_many X hP kw249 dX0_add_55 ?_
  refine lv_iload_n hx hb dX0_add_58 rfl (lv_at hl 2 rfl) ?_
  refine callSN_v X cs_X8_set kw588 (c_set l D cA A (wC cA ad) ta s1 41 (ad 41) 24 41 (gF s1 15) x2 (by decide) rfl (fun f => wC_a41 f)) ⟨by decide, by decide⟩ ⟨rfl, rfl⟩ hP hD hS rfl hl rfl (Nat.le_of_ble_eq_true rfl) dX0_add_59 ⟨by decide, by decide⟩ (fun H locs hP hD hS => ?_)
  obtain ⟨s2, es2, hf⟩ := bd_e hf
  rw [← es2] at hP hD
  refine lv_aload_n hx hb dX0_add_62 rfl (lv_at hl 0 rfl) ?_
  refine gC_Out_freeAsks X hP kw246 dX0_add_63 ?_
  refine lv_aload_n hx hb dX0_add_66 rfl (lv_at hl 0 rfl) ?_
  refine gC_Out_many X hP kw249 dX0_add_67 ?_
  refine lv_iload_n hx hb dX0_add_70 rfl (lv_at hl 3 rfl) ?_
  refine callSN_v X cs_X8_set kw588 (c_set l D cA A (wC cA ad) ta s2 42 (ad 42) 24 42 (gF s2 15) x3 (by decide) rfl (fun f => wC_a42 f)) ⟨by decide, by decide⟩ ⟨rfl, rfl⟩ hP hD hS rfl hl rfl (Nat.le_of_ble_eq_true rfl) dX0_add_71 ⟨by decide, by decide⟩ (fun H locs hP hD hS => ?_)
  obtain ⟨s3, es3, hf⟩ := bd_e hf
  rw [← es3] at hP hD
  refine lv_aload_n hx hb dX0_add_74 rfl (lv_at hl 0 rfl) ?_
  refine gC_Out_lengths X hP kw247 dX0_add_75 ?_
  refine lv_aload_n hx hb dX0_add_78 rfl (lv_at hl 0 rfl) ?_
  refine gC_Out_many X hP kw249 dX0_add_79 ?_
  refine lv_aload hx hb dX0_add_82 (lv_at hl 4 rfl) ?_
  refine gCN_Ter_length X hP kw211 dX0_add_84 ?_
  refine callSN_v X cs_X8_set kw588 (c_set l D cA A (wC cA ad) ta s3 43 (ad 43) 24 43 (gF s3 15) (gF s3 13) (by decide) rfl (fun f => wC_a43 f)) ⟨by decide, by decide⟩ ⟨rfl, rfl⟩ hP hD hS rfl hl rfl (Nat.le_of_ble_eq_true rfl) dX0_add_87 ⟨by decide, by decide⟩ (fun H locs hP hD hS => ?_)
  obtain ⟨s4, es4, hf⟩ := bd_e hf
  rw [← es4] at hP hD
  refine lv_aload hx hb dX0_add_90 (lv_at hl 4 rfl) ?_
  refine lv_aload_n hx hb dX0_add_92 rfl (lv_at hl 0 rfl) ?_
  refine gC_Out_told X hP kw248 dX0_add_93 ?_
  refine lv_aload_n hx hb dX0_add_96 rfl (lv_at hl 0 rfl) ?_
  refine gC_Out_many X hP kw249 dX0_add_97 ?_
  refine lv_sipush (v := 400) hx hb dX0_add_100 (by decide) ?_
  refine lv_imul hx hb dX0_add_103 ?_
  obtain ⟨r5, s6, h7, hf⟩ := bo_e hf
  refine callVN_v X cv_X5_write kw589 (c_X5_write l D cA A ad ta s4 ((gF s4 15) * 400) r5 s6 h7) ⟨by decide, by decide⟩ ⟨rfl, rfl⟩ hP hD hS (q0 := 6) (ci := 5) rfl rfl rfl rfl hl rfl (Nat.le_of_ble_eq_true rfl) dX0_add_104 ⟨by decide, by decide⟩ (fun H locs hP hD hS => ?_)
  refine lv_aload_n hx hb dX0_add_107 rfl (lv_at hl 0 rfl) ?_
  refine lv_dup hx hb dX0_add_108 rfl ?_
  refine gC_Out_many X hP kw249 dX0_add_109 ?_
  refine lv_iconst (v := 1) hx hb dX0_add_112 (by decide) ?_
  refine lv_iadd hx hb dX0_add_113 ?_
  refine pC_Out_many X hP hD hS kw249 dX0_add_114 (fun H locs hP hD hS => ?_)
  obtain ⟨s8, es8, hf⟩ := bd_e hf
  rw [← es8] at hP hD
  obtain ⟨rfl, rfl⟩ := Prod.mk.inj (Option.some.inj hf)
  refine W.widen (k := 1) (n := 9600) (Nat.le_of_ble_eq_true rfl) (Nat.le_of_ble_eq_true rfl) ?_
  exact ret_va X hP hD hS dX0_add_117
set_option maxHeartbeats 4000000 in
set_option maxRecDepth 100000 in
theorem t_X0_addB_0  (X : Fx p s m meth c D cA A RX0 cX0_add 5 none)  {x1 x2 x3 : Int32} { σ : St} {H : Heap} {locs : List Loc} {ls : Array Slot} (hf : F_X0_add x1 x2 x3 σ = some (r, σ')) (hP : va_P D vwCl (wC cA ad ta σ) H) (hD : va_D A (wC cA ad ta σ)) (hS : va_S A s.heap H locs) (hl : lv_has ls 5 [(0, .ref (ad 7)), (1, .int x1), (2, .int x2), (3, .int x3), (4, .ref (ad 6))]) (htl : nI ((gF σ 16).toNatClampNeg) = 0) : W p l e (rm_X0_addB) s m args below meth c H locs 0 0 (MQ below (QVa D cA A (wC cA ad) σ') args s 1 9600 A) (F0 m 0 ls []) := by
  obtain ⟨hx, hb, hr, hml, hown, hlk, hE, hK, hA⟩ := id X
  rw [F_X0_add] at hf
  refine lv_aload_n hx hb dX0_add_0 rfl (lv_at hl 0 rfl) ?_
  refine gC_Out_many X hP kw249 dX0_add_1 ?_
  refine lv_bipush (v := 24) hx hb dX0_add_4 (by decide) ?_
  refine lv_icmp_ge (tgt := 20) hx hb dX0_add_6 (by decide) (fun c1 => ?_) (fun c1 => ?_)
  · have hf := it_t c1 hf
    obtain ⟨rfl, rfl⟩ := Prod.mk.inj (Option.some.inj hf)
    refine W.widen (k := 1) (n := 9600) (Nat.le_of_ble_eq_true rfl) (Nat.le_of_ble_eq_true rfl) ?_
    exact ret_va X hP hD hS dX0_add_20
  · have hf := it_f c1 hf
    refine lv_aload hx hb dX0_add_9 (lv_at hl 4 rfl) ?_
    refine gCN_Ter_length X hP kw211 dX0_add_11 ?_
    refine lv_sipush (v := 400) hx hb dX0_add_14 (by decide) ?_
    refine lv_icmp_le (tgt := 21) hx hb dX0_add_17 (by decide) (fun c2 => ?_) (fun c2 => ?_)
    · have hf := it_t c2 hf
      refine lv_aload_n hx hb dX0_add_21 rfl (lv_at hl 0 rfl) ?_
      refine gC_Out_told X hP kw248 dX0_add_22 ?_
      refine va_alen (v := nI ((gF σ 16).toNatClampNeg)) hx hb hK hP 48 0 rfl rfl rfl dX0_add_25 ?_
      refine lv_if_ne (tgt := 38) hx hb dX0_add_26 (by decide) (fun c3 => ?_) (fun c3 => ?_)
      · have hf := it_f c3 hf
        exact absurd htl c3
      · have hf := it_t c3 hf
        obtain ⟨s4, es4, hf⟩ := bd_e hf
        refine new_told X hP hD hS hl 0 rfl (by decide) (by decide) (fun ta H locs hP hD hS => ?_)
        rw [← es4] at hP hD
        exact t_X0_addB_38 X  hf hP hD hS (lv_sub hl [0, 1, 2, 3, 4] rfl)
    · have hf := it_f c2 hf
      obtain ⟨rfl, rfl⟩ := Prod.mk.inj (Option.some.inj hf)
      refine W.widen (k := 1) (n := 9600) (Nat.le_of_ble_eq_true rfl) (Nat.le_of_ble_eq_true rfl) ?_
      exact ret_va X hP hD hS dX0_add_20
end S_X0_add
theorem c_X0_addB (l : Launch) (D : va_G) (cA : ClassId) (A : Nat → Prop) (ad : Nat → Nat) (ta : Nat) (σ : St) (x1 x2 x3 : Int32) (r : Int32) (σ' : St) (hf : F_X0_add x1 x2 x3 σ = some (r, σ')) (htl : nI ((gF σ 16).toNatClampNeg) = 0) : MVa l D cA A (wC cA ad) yX0_add cX0_add 5 none rm_X0_addB [.ref (ad 7), .int x1, .int x2, .int x3, .ref (ad 6)] ta σ σ' 1 9600 := by
  refine enter (by decide) (Nat.le_of_ble_eq_true rfl) ?_
  intro p e s m below meth c ls X hnm hP hD hS hl
  exact t_X0_addB_0 X hf hP hD hS hl htl
