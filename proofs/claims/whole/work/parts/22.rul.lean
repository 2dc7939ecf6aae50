abbrev rm_X3_clear : Room := { frames := 0, cells := 0, slots := 0, locals := 0 }
def F_X3_clear  (σ : St) : Rs :=
  bd (sF σ 8 0) (fun s1 => some (0, s1))
section S_X3_clear
variable {p : Program} {l : Launch} {e : Env} {s : State} {m : MethodId} {args : Array Value} {below : List Frame} {meth : Method} {c : Code}
variable {D : va_G} {cA : ClassId} {A : Nat → Prop} {ad : Nat → Nat} {r : Int32} {σ' : St} {ta : Nat}
set_option maxHeartbeats 4000000 in
set_option maxRecDepth 100000 in
theorem t_X3_clear_0  (X : Fx p s m meth c D cA A RX3 cX3_clear 1 none)  { σ : St} {H : Heap} {locs : List Loc} {ls : Array Slot} (hf : F_X3_clear σ = some (r, σ')) (hP : va_P D vwCl (wC cA ad ta σ) H) (hD : va_D A (wC cA ad ta σ)) (hS : va_S A s.heap H locs) (hl : lv_has ls 1 [(0, .ref (ad 3))]) : W p l e (rm_X3_clear) s m args below meth c H locs 0 0 (MQ below (QV D cA A (wC cA ad) σ' ta) args s 0 0 A) (F0 m 0 ls []) := by
  obtain ⟨hx, hb, hr, hml, hown, hlk, hE, hK, hA⟩ := id X
  rw [F_X3_clear] at hf
  refine lv_aload_n hx hb dX3_clear_0 rfl (lv_at hl 0 rfl) ?_
  refine lv_iconst (v := 0) hx hb dX3_clear_1 (by decide) ?_
  refine pC_Rul_many X hP hD hS kw111 dX3_clear_2 (fun H locs hP hD hS => ?_)
  obtain ⟨s1, es1, hf⟩ := bd_e hf
  rw [← es1] at hP hD
  obtain ⟨rfl, rfl⟩ := Prod.mk.inj (Option.some.inj hf)
  exact ret_v X hP hD hS dX3_clear_5
end S_X3_clear
theorem c_X3_clear (l : Launch) (D : va_G) (cA : ClassId) (A : Nat → Prop) (ad : Nat → Nat) (ta : Nat) (σ : St) (r : Int32) (σ' : St) (hf : F_X3_clear σ = some (r, σ')) : MV l D cA A (wC cA ad) yX3_clear cX3_clear 1 none rm_X3_clear [.ref (ad 3)] ta σ σ' 0 0 := by
  refine enter (by decide) (Nat.le_of_ble_eq_true rfl) ?_
  intro p e s m below meth c ls X hnm hP hD hS hl
  exact t_X3_clear_0 X hf hP hD hS hl
abbrev rm_X3_start : Room := { frames := 1, cells := 0, slots := 0, locals := 21 }
def F_X3_start (x1 : Int32) (σ : St) : Rs :=
  bd (rd 25 (gA σ 17) x1) (fun y1 => some (y1, σ))
section S_X3_start
variable {p : Program} {l : Launch} {e : Env} {s : State} {m : MethodId} {args : Array Value} {below : List Frame} {meth : Method} {c : Code}
variable {D : va_G} {cA : ClassId} {A : Nat → Prop} {ad : Nat → Nat} {r : Int32} {σ' : St} {ta : Nat}
set_option maxHeartbeats 4000000 in
set_option maxRecDepth 100000 in
theorem t_X3_start_0  (X : Fx p s m meth c D cA A RX3 cX3_start 2 (some .int))  {x1 : Int32} { σ : St} {H : Heap} {locs : List Loc} {ls : Array Slot} (hf : F_X3_start x1 σ = some (r, σ')) (hP : va_P D vwCl (wC cA ad ta σ) H) (hD : va_D A (wC cA ad ta σ)) (hS : va_S A s.heap H locs) (hl : lv_has ls 2 [(0, .ref (ad 3)), (1, .int x1)]) : W p l e (rm_X3_start) s m args below meth c H locs 0 0 (MQ below (QI D cA A (wC cA ad) r σ' ta) args s 0 0 A) (F0 m 0 ls []) := by
  obtain ⟨hx, hb, hr, hml, hown, hlk, hE, hK, hA⟩ := id X
  rw [F_X3_start] at hf
  refine lv_aload_n hx hb dX3_start_0 rfl (lv_at hl 0 rfl) ?_
  refine gC_Rul_starts X hP kw98 dX3_start_1 ?_
  refine lv_iload_n hx hb dX3_start_4 rfl (lv_at hl 1 rfl) ?_
  refine callSN_i X cs_X8_get kw394 (c_get l D cA A (wC cA ad) ta σ 17 (ad 17) 25 (gA σ 17) x1 (by decide) rfl) ⟨by decide, by decide⟩ ⟨rfl, rfl⟩ hP hD hS rfl hl rfl (Nat.le_of_ble_eq_true rfl) dX3_start_5 ⟨by decide, by decide⟩ (fun H locs hP hD hS => ?_)
  refine lv_topi (fun y1 ey1 => ?_)
  have hf := bd_x ey1 hf
  obtain ⟨rfl, rfl⟩ := Prod.mk.inj (Option.some.inj hf)
  exact ret_i X hP hD hS dX3_start_8
end S_X3_start
theorem c_X3_start (l : Launch) (D : va_G) (cA : ClassId) (A : Nat → Prop) (ad : Nat → Nat) (ta : Nat) (σ : St) (x1 : Int32) (r : Int32) (σ' : St) (hf : F_X3_start x1 σ = some (r, σ')) : MI l D cA A (wC cA ad) yX3_start cX3_start 2 (some .int) rm_X3_start [.ref (ad 3), .int x1] ta σ r σ' 0 0 := by
  refine enter (by decide) (Nat.le_of_ble_eq_true rfl) ?_
  intro p e s m below meth c ls X hnm hP hD hS hl
  exact t_X3_start_0 X hf hP hD hS hl
abbrev rm_X3_hasRoom : Room := { frames := 2, cells := 0, slots := 0, locals := 42 }
def F_X3_hasRoom (x1 : Int32) (σ : St) : Rs :=
  if 24 ≤ (gF σ 8) then (ck (isB 0) (some (0, σ))) else (bo (F_X3_start (gF σ 8) σ) (fun r3 s4 => if 512 < (r3 + x1) then (ck (isB 0) (some (0, s4))) else (ck (isB 1) (some (1, s4)))))
section S_X3_hasRoom
variable {p : Program} {l : Launch} {e : Env} {s : State} {m : MethodId} {args : Array Value} {below : List Frame} {meth : Method} {c : Code}
variable {D : va_G} {cA : ClassId} {A : Nat → Prop} {ad : Nat → Nat} {r : Int32} {σ' : St} {ta : Nat}
set_option maxHeartbeats 4000000 in
set_option maxRecDepth 100000 in
theorem t_X3_hasRoom_0  (X : Fx p s m meth c D cA A RX3 cX3_hasRoom 2 (some .boolean))  {x1 : Int32} { σ : St} {H : Heap} {locs : List Loc} {ls : Array Slot} (hf : F_X3_hasRoom x1 σ = some (r, σ')) (hP : va_P D vwCl (wC cA ad ta σ) H) (hD : va_D A (wC cA ad ta σ)) (hS : va_S A s.heap H locs) (hl : lv_has ls 2 [(0, .ref (ad 3)), (1, .int x1)]) : W p l e (rm_X3_hasRoom) s m args below meth c H locs 0 0 (MQ below (QI D cA A (wC cA ad) r σ' ta) args s 0 0 A) (F0 m 0 ls []) := by
  obtain ⟨hx, hb, hr, hml, hown, hlk, hE, hK, hA⟩ := id X
  rw [F_X3_hasRoom] at hf
  refine lv_aload_n hx hb dX3_hasRoom_0 rfl (lv_at hl 0 rfl) ?_
  refine gC_Rul_many X hP kw111 dX3_hasRoom_1 ?_
  refine lv_bipush (v := 24) hx hb dX3_hasRoom_4 (by decide) ?_
  refine lv_icmp_ge (tgt := 29) hx hb dX3_hasRoom_6 (by decide) (fun c1 => ?_) (fun c1 => ?_)
  · have hf := it_t c1 hf
    refine lv_iconst (v := 0) hx hb dX3_hasRoom_29 (by decide) ?_
    obtain ⟨b2, hf⟩ := ck_e hf
    obtain ⟨rfl, rfl⟩ := Prod.mk.inj (Option.some.inj hf)
    exact ret_z X b2 hP hD hS dX3_hasRoom_30
  · have hf := it_f c1 hf
    refine lv_aload_n hx hb dX3_hasRoom_9 rfl (lv_at hl 0 rfl) ?_
    refine lv_aload_n hx hb dX3_hasRoom_10 rfl (lv_at hl 0 rfl) ?_
    refine gC_Rul_many X hP kw111 dX3_hasRoom_11 ?_
    obtain ⟨r3, s4, h5, hf⟩ := bo_e hf
    refine callV_i X cv_X3_start kw390 (c_X3_start l D cA A ad ta σ (gF σ 8) r3 s4 h5) ⟨by decide, by decide⟩ ⟨rfl, rfl⟩ hP hD hS (q0 := 3) (ci := 3) rfl rfl rfl rfl hl rfl (Nat.le_of_ble_eq_true rfl) dX3_hasRoom_14 ⟨by decide, by decide⟩ (fun H locs hP hD hS => ?_)
    refine lv_iload_n hx hb dX3_hasRoom_17 rfl (lv_at hl 1 rfl) ?_
    refine lv_iadd hx hb dX3_hasRoom_18 ?_
    refine lv_sipush (v := 512) hx hb dX3_hasRoom_19 (by decide) ?_
    refine lv_icmp_gt (tgt := 29) hx hb dX3_hasRoom_22 (by decide) (fun c6 => ?_) (fun c6 => ?_)
    · have hf := it_t c6 hf
      refine lv_iconst (v := 0) hx hb dX3_hasRoom_29 (by decide) ?_
      obtain ⟨b7, hf⟩ := ck_e hf
      obtain ⟨rfl, rfl⟩ := Prod.mk.inj (Option.some.inj hf)
      exact ret_z X b7 hP hD hS dX3_hasRoom_30
    · have hf := it_f c6 hf
      refine lv_iconst (v := 1) hx hb dX3_hasRoom_25 (by decide) ?_
      refine lv_goto (tgt := 30) hx hb dX3_hasRoom_26 (by decide) ?_
      obtain ⟨b8, hf⟩ := ck_e hf
      obtain ⟨rfl, rfl⟩ := Prod.mk.inj (Option.some.inj hf)
      exact ret_z X b8 hP hD hS dX3_hasRoom_30
end S_X3_hasRoom
theorem c_X3_hasRoom (l : Launch) (D : va_G) (cA : ClassId) (A : Nat → Prop) (ad : Nat → Nat) (ta : Nat) (σ : St) (x1 : Int32) (r : Int32) (σ' : St) (hf : F_X3_hasRoom x1 σ = some (r, σ')) : MI l D cA A (wC cA ad) yX3_hasRoom cX3_hasRoom 2 (some .boolean) rm_X3_hasRoom [.ref (ad 3), .int x1] ta σ r σ' 0 0 := by
  refine enter (by decide) (Nat.le_of_ble_eq_true rfl) ?_
  intro p e s m below meth c ls X hnm hP hD hS hl
  exact t_X3_hasRoom_0 X hf hP hD hS hl
abbrev rm_X3_add : Room := { frames := 2, cells := 0, slots := 0, locals := 42 }
def F_X3_add_122 (x2 : Int32) (x3 : Int32) (σ : St) : Rs :=
  bd (sF σ 8 ((gF σ 8) + 1)) (fun s1 => bd (sA s1 17 (wr 25 (gA s1 17) (gF s1 8) (x3 + x2))) (fun s2 => some (((gF s2 8) - 1), s2)))
def F_X3_add_71 (k12 : Int32 → Int32 → Int32 → St → Rs) (x2 : Int32) (x3 : Int32) (x4 : Int32) (z0 : Int32) (z1 : Int32) (σ : St) : Rs :=
  bd (sA σ 19 (wr 512 (gA σ 19) z1 z0)) (fun s1 => bd (rd 160 (gA s1 14) x4) (fun y2 => bd (sA s1 20 (wr 512 (gA s1 20) (x3 + x4) y2)) (fun s3 => bd (rd 160 (gA s3 15) x4) (fun y4 => bd (sA s3 21 (wr 512 (gA s3 21) (x3 + x4) (x3 + y4))) (fun s5 => k12 x2 x3 (x4 + 1) s5)))))
def F_X3_add_12  : Nat → Int32 → Int32 → Int32 → St → Rs
  | 0, _, _, _, _ => none
  | n + 1, x2, x3, x4, σ => if x2 ≤ x4 then (F_X3_add_122 x2 x3 σ) else (bd (rd 160 (gA σ 13) x4) (fun y2 => bd (rd 160 (gA σ 12) x4) (fun y3 => bd (sA σ 18 (wr 512 (gA σ 18) (x3 + x4) y3)) (fun s4 => if y2 = (-1) then (F_X3_add_71 (F_X3_add_12 n) x2 x3 x4 (-1) (x3 + x4) s4) else (F_X3_add_71 (F_X3_add_12 n) x2 x3 x4 (x3 + y2) (x3 + x4) s4)))))
def F_X3_add (x2 : Int32) (σ : St) : Rs :=
  bo (F_X3_start (gF σ 8) σ) (fun r1 s2 => F_X3_add_12 5000 x2 r1 0 s2)
section S_X3_add
variable {p : Program} {l : Launch} {e : Env} {s : State} {m : MethodId} {args : Array Value} {below : List Frame} {meth : Method} {c : Code}
variable {D : va_G} {cA : ClassId} {A : Nat → Prop} {ad : Nat → Nat} {r : Int32} {σ' : St} {ta : Nat}
set_option maxHeartbeats 4000000 in
set_option maxRecDepth 100000 in
theorem t_X3_add_122  (X : Fx p s m meth c D cA A RX3 cX3_add 6 (some .int))  {x2 x3 : Int32} { σ : St} {H : Heap} {locs : List Loc} {ls : Array Slot} (hf : F_X3_add_122 x2 x3 σ = some (r, σ')) (hP : va_P D vwCl (wC cA ad ta σ) H) (hD : va_D A (wC cA ad ta σ)) (hS : va_S A s.heap H locs) (hl : lv_has ls 6 [(0, .ref (ad 3)), (2, .int x2), (3, .int x3)]) : W p l e (rm_X3_add) s m args below meth c H locs 0 0 (MQ below (QI D cA A (wC cA ad) r σ' ta) args s 0 0 A) (F0 m 122 ls []) := by
  obtain ⟨hx, hb, hr, hml, hown, hlk, hE, hK, hA⟩ := id X
  rw [F_X3_add_122] at hf
  refine lv_aload_n hx hb dX3_add_122 rfl (lv_at hl 0 rfl) ?_
  refine lv_dup hx hb dX3_add_123 rfl ?_
  refine gC_Rul_many X hP kw111 dX3_add_124 ?_
  refine lv_iconst (v := 1) hx hb dX3_add_127 (by decide) ?_
  refine lv_iadd hx hb dX3_add_128 ?_
  refine pC_Rul_many X hP hD hS kw111 dX3_add_129 (fun H locs hP hD hS => ?_)
  obtain ⟨s1, es1, hf⟩ := bd_e hf
  rw [← es1] at hP hD
  refine lv_aload_n hx hb dX3_add_132 rfl (lv_at hl 0 rfl) ?_
  refine gC_Rul_starts X hP kw98 dX3_add_133 ?_
  refine lv_aload_n hx hb dX3_add_136 rfl (lv_at hl 0 rfl) ?_
  refine gC_Rul_many X hP kw111 dX3_add_137 ?_
  refine lv_iload_n hx hb dX3_add_140 rfl (lv_at hl 2 rfl) ?_
  refine lv_iload_n hx hb dX3_add_141 rfl (lv_at hl 1 rfl) ?_
  refine lv_iadd hx hb dX3_add_142 ?_
  refine callSN_v X cs_X8_set kw442 (c_set l D cA A (wC cA ad) ta s1 17 (ad 17) 25 17 (gF s1 8) (x3 + x2) (by decide) rfl (fun f => wC_a17 f)) ⟨by decide, by decide⟩ ⟨rfl, rfl⟩ hP hD hS rfl hl rfl (Nat.le_of_ble_eq_true rfl) dX3_add_143 ⟨by decide, by decide⟩ (fun H locs hP hD hS => ?_)
  obtain ⟨s2, es2, hf⟩ := bd_e hf
  rw [← es2] at hP hD
  refine lv_aload_n hx hb dX3_add_146 rfl (lv_at hl 0 rfl) ?_
  refine gC_Rul_many X hP kw111 dX3_add_147 ?_
  refine lv_iconst (v := 1) hx hb dX3_add_150 (by decide) ?_
  refine lv_isub hx hb dX3_add_151 ?_
  obtain ⟨rfl, rfl⟩ := Prod.mk.inj (Option.some.inj hf)
  exact ret_i X hP hD hS dX3_add_152
set_option maxHeartbeats 4000000 in
set_option maxRecDepth 100000 in
theorem t_X3_add_71 {k12 : Int32 → Int32 → Int32 → St → Rs} (X : Fx p s m meth c D cA A RX3 cX3_add 6 (some .int)) (K12 : ∀ (x2 x3 x4 : Int32) (σ : St) (H : Heap) (locs : List Loc) (ls : Array Slot), k12 x2 x3 x4 σ = some (r, σ') → va_P D vwCl (wC cA ad ta σ) H → va_D A (wC cA ad ta σ) → va_S A s.heap H locs → lv_has ls 6 [(0, .ref (ad 3)), (1, .ref (ad 2)), (2, .int x2), (3, .int x3), (4, .int x4)] → W p l e (rm_X3_add) s m args below meth c H locs 0 0 (MQ below (QI D cA A (wC cA ad) r σ' ta) args s 0 0 A) (F0 m 12 ls [])) {x2 x3 x4 z0 z1 : Int32} { σ : St} {H : Heap} {locs : List Loc} {ls : Array Slot} (hf : F_X3_add_71 k12 x2 x3 x4 z0 z1 σ = some (r, σ')) (hP : va_P D vwCl (wC cA ad ta σ) H) (hD : va_D A (wC cA ad ta σ)) (hS : va_S A s.heap H locs) (hl : lv_has ls 6 [(0, .ref (ad 3)), (1, .ref (ad 2)), (2, .int x2), (3, .int x3), (4, .int x4)]) : W p l e (rm_X3_add) s m args below meth c H locs 0 0 (MQ below (QI D cA A (wC cA ad) r σ' ta) args s 0 0 A) (F0 m 71 ls [.int z0, .int z1, .ref (ad 19)]) := by
  obtain ⟨hx, hb, hr, hml, hown, hlk, hE, hK, hA⟩ := id X
  rw [F_X3_add_71] at hf
  refine callSN_v X cs_X8_set kw442 (c_set l D cA A (wC cA ad) ta σ 19 (ad 19) 512 19 z1 z0 (by decide) rfl (fun f => wC_a19 f)) ⟨by decide, by decide⟩ ⟨rfl, rfl⟩ hP hD hS rfl hl rfl (Nat.le_of_ble_eq_true rfl) dX3_add_71 ⟨by decide, by decide⟩ (fun H locs hP hD hS => ?_)
  obtain ⟨s1, es1, hf⟩ := bd_e hf
  rw [← es1] at hP hD
  refine lv_aload_n hx hb dX3_add_74 rfl (lv_at hl 0 rfl) ?_
  refine gC_Rul_place X hP kw104 dX3_add_75 ?_
  refine lv_iload_n hx hb dX3_add_78 rfl (lv_at hl 3 rfl) ?_
  refine lv_iload hx hb dX3_add_79 (lv_at hl 4 rfl) ?_
  refine lv_iadd hx hb dX3_add_81 ?_
  refine lv_aload_n hx hb dX3_add_82 rfl (lv_at hl 1 rfl) ?_
  refine gCN_Row_place X hP kw66 dX3_add_83 ?_
  refine lv_iload hx hb dX3_add_86 (lv_at hl 4 rfl) ?_
  refine callSN_i X cs_X8_get kw394 (c_get l D cA A (wC cA ad) ta s1 14 (ad 14) 160 (gA s1 14) x4 (by decide) rfl) ⟨by decide, by decide⟩ ⟨rfl, rfl⟩ hP hD hS rfl hl rfl (Nat.le_of_ble_eq_true rfl) dX3_add_88 ⟨by decide, by decide⟩ (fun H locs hP hD hS => ?_)
  refine lv_topi (fun y2 ey2 => ?_)
  have hf := bd_x ey2 hf
  refine callSN_v X cs_X8_set kw442 (c_set l D cA A (wC cA ad) ta s1 20 (ad 20) 512 20 (x3 + x4) y2 (by decide) rfl (fun f => wC_a20 f)) ⟨by decide, by decide⟩ ⟨rfl, rfl⟩ hP hD hS rfl hl rfl (Nat.le_of_ble_eq_true rfl) dX3_add_91 ⟨by decide, by decide⟩ (fun H locs hP hD hS => ?_)
  obtain ⟨s3, es3, hf⟩ := bd_e hf
  rw [← es3] at hP hD
  refine lv_aload_n hx hb dX3_add_94 rfl (lv_at hl 0 rfl) ?_
  refine gC_Rul_end X hP kw106 dX3_add_95 ?_
  refine lv_iload_n hx hb dX3_add_98 rfl (lv_at hl 3 rfl) ?_
  refine lv_iload hx hb dX3_add_99 (lv_at hl 4 rfl) ?_
  refine lv_iadd hx hb dX3_add_101 ?_
  refine lv_iload_n hx hb dX3_add_102 rfl (lv_at hl 3 rfl) ?_
  refine lv_aload_n hx hb dX3_add_103 rfl (lv_at hl 1 rfl) ?_
  refine gCN_Row_end X hP kw69 dX3_add_104 ?_
  refine lv_iload hx hb dX3_add_107 (lv_at hl 4 rfl) ?_
  refine callSN_i X cs_X8_get kw394 (c_get l D cA A (wC cA ad) ta s3 15 (ad 15) 160 (gA s3 15) x4 (by decide) rfl) ⟨by decide, by decide⟩ ⟨rfl, rfl⟩ hP hD hS rfl hl rfl (Nat.le_of_ble_eq_true rfl) dX3_add_109 ⟨by decide, by decide⟩ (fun H locs hP hD hS => ?_)
  refine lv_topi (fun y4 ey4 => ?_)
  have hf := bd_x ey4 hf
  refine lv_iadd hx hb dX3_add_112 ?_
  refine callSN_v X cs_X8_set kw442 (c_set l D cA A (wC cA ad) ta s3 21 (ad 21) 512 21 (x3 + x4) (x3 + y4) (by decide) rfl (fun f => wC_a21 f)) ⟨by decide, by decide⟩ ⟨rfl, rfl⟩ hP hD hS rfl hl rfl (Nat.le_of_ble_eq_true rfl) dX3_add_113 ⟨by decide, by decide⟩ (fun H locs hP hD hS => ?_)
  obtain ⟨s5, es5, hf⟩ := bd_e hf
  rw [← es5] at hP hD
  refine lv_iinc (v := (x4 + 1)) (lv' := [(4, .int (x4 + 1)), (0, .ref (ad 3)), (1, .ref (ad 2)), (2, .int x2), (3, .int x3)]) hx hb dX3_add_116 hl (k := 4) rfl rfl (by decide) rfl (fun ls hl => ?_)
  refine lv_goto (tgt := 12) hx hb dX3_add_119 (by decide) ?_
  exact K12 x2 x3 (x4 + 1) s5 _ _ _ hf hP hD hS (lv_sub hl [1, 2, 3, 4, 0] rfl)
set_option maxHeartbeats 4000000 in
set_option maxRecDepth 100000 in
theorem t_X3_add_12  (X : Fx p s m meth c D cA A RX3 cX3_add 6 (some .int))  : ∀ (n : Nat) (x2 x3 x4 : Int32) (σ : St) (H : Heap) (locs : List Loc) (ls : Array Slot), F_X3_add_12 n x2 x3 x4 σ = some (r, σ') → va_P D vwCl (wC cA ad ta σ) H → va_D A (wC cA ad ta σ) → va_S A s.heap H locs → lv_has ls 6 [(0, .ref (ad 3)), (1, .ref (ad 2)), (2, .int x2), (3, .int x3), (4, .int x4)] → W p l e (rm_X3_add) s m args below meth c H locs 0 0 (MQ below (QI D cA A (wC cA ad) r σ' ta) args s 0 0 A) (F0 m 12 ls []) := by
  obtain ⟨hx, hb, hr, hml, hown, hlk, hE, hK, hA⟩ := id X
  intro n
  induction n with
  | zero =>
    intro x2 x3 x4 σ H locs ls hf
    cases (show (none : Rs) = some _ from hf)
  | succ n ih =>
    intro x2 x3 x4 σ H locs ls hf hP hD hS hl
    rw [F_X3_add_12] at hf
    refine lv_iload hx hb dX3_add_12 (lv_at hl 4 rfl) ?_
    refine lv_iload_n hx hb dX3_add_14 rfl (lv_at hl 2 rfl) ?_
    refine lv_icmp_ge (tgt := 122) hx hb dX3_add_15 (by decide) (fun c1 => ?_) (fun c1 => ?_)
    · have hf := it_t c1 hf
      exact t_X3_add_122 X  hf hP hD hS (lv_sub hl [0, 2, 3] rfl)
    · have hf := it_f c1 hf
      refine lv_aload_n hx hb dX3_add_18 rfl (lv_at hl 1 rfl) ?_
      refine gCN_Row_up X hP kw64 dX3_add_19 ?_
      refine lv_iload hx hb dX3_add_22 (lv_at hl 4 rfl) ?_
      refine callSN_i X cs_X8_get kw394 (c_get l D cA A (wC cA ad) ta σ 13 (ad 13) 160 (gA σ 13) x4 (by decide) rfl) ⟨by decide, by decide⟩ ⟨rfl, rfl⟩ hP hD hS rfl hl rfl (Nat.le_of_ble_eq_true rfl) dX3_add_24 ⟨by decide, by decide⟩ (fun H locs hP hD hS => ?_)
      refine lv_topi (fun y2 ey2 => ?_)
      have hf := bd_x ey2 hf
      refine lv_istore (lv' := [(5, .int y2), (0, .ref (ad 3)), (1, .ref (ad 2)), (2, .int x2), (3, .int x3), (4, .int x4)]) hx hb dX3_add_27 hl (by decide) rfl (fun ls hl => ?_)
      refine lv_aload_n hx hb dX3_add_29 rfl (lv_at hl 1 rfl) ?_
      refine gC_Rul_symbol X hP kw99 dX3_add_30 ?_
      refine lv_iload_n hx hb dX3_add_33 rfl (lv_at hl 4 rfl) ?_
      refine lv_iload hx hb dX3_add_34 (lv_at hl 5 rfl) ?_
      refine lv_iadd hx hb dX3_add_36 ?_
      refine lv_aload_n hx hb dX3_add_37 rfl (lv_at hl 2 rfl) ?_
      refine gCN_Row_numbers X hP kw62 dX3_add_38 ?_
      refine lv_iload hx hb dX3_add_41 (lv_at hl 5 rfl) ?_
      refine callSN_i X cs_X8_get kw394 (c_get l D cA A (wC cA ad) ta σ 12 (ad 12) 160 (gA σ 12) x4 (by decide) rfl) ⟨by decide, by decide⟩ ⟨rfl, rfl⟩ hP hD hS rfl hl rfl (Nat.le_of_ble_eq_true rfl) dX3_add_43 ⟨by decide, by decide⟩ (fun H locs hP hD hS => ?_)
      refine lv_topi (fun y3 ey3 => ?_)
      have hf := bd_x ey3 hf
      refine callSN_v X cs_X8_set kw442 (c_set l D cA A (wC cA ad) ta σ 18 (ad 18) 512 18 (x3 + x4) y3 (by decide) rfl (fun f => wC_a18 f)) ⟨by decide, by decide⟩ ⟨rfl, rfl⟩ hP hD hS rfl hl rfl (Nat.le_of_ble_eq_true rfl) dX3_add_46 ⟨by decide, by decide⟩ (fun H locs hP hD hS => ?_)
      obtain ⟨s4, es4, hf⟩ := bd_e hf
      rw [← es4] at hP hD
      refine lv_aload_n hx hb dX3_add_49 rfl (lv_at hl 1 rfl) ?_
      refine gC_Rul_up X hP kw102 dX3_add_50 ?_
      refine lv_iload_n hx hb dX3_add_53 rfl (lv_at hl 4 rfl) ?_
      refine lv_iload hx hb dX3_add_54 (lv_at hl 5 rfl) ?_
      refine lv_iadd hx hb dX3_add_56 ?_
      refine lv_iload hx hb dX3_add_57 (lv_at hl 0 rfl) ?_
      refine lv_iconst (v := -1) hx hb dX3_add_59 (by decide) ?_
      refine lv_icmp_ne (tgt := 67) hx hb dX3_add_60 (by decide) (fun c5 => ?_) (fun c5 => ?_)
      · have hf := it_f c5 hf
        refine lv_iload_n hx hb dX3_add_67 rfl (lv_at hl 4 rfl) ?_
        refine lv_iload hx hb dX3_add_68 (lv_at hl 0 rfl) ?_
        refine lv_iadd hx hb dX3_add_70 ?_
        exact t_X3_add_71 X ih hf hP hD hS (lv_sub hl [1, 2, 3, 4, 5] rfl)
      · have hf := it_t c5 hf
        refine lv_iconst (v := -1) hx hb dX3_add_63 (by decide) ?_
        refine lv_goto (tgt := 71) hx hb dX3_add_64 (by decide) ?_
        exact t_X3_add_71 X ih hf hP hD hS (lv_sub hl [1, 2, 3, 4, 5] rfl)
set_option maxHeartbeats 4000000 in
set_option maxRecDepth 100000 in
theorem t_X3_add_0  (X : Fx p s m meth c D cA A RX3 cX3_add 6 (some .int))  {x2 : Int32} { σ : St} {H : Heap} {locs : List Loc} {ls : Array Slot} (hf : F_X3_add x2 σ = some (r, σ')) (hP : va_P D vwCl (wC cA ad ta σ) H) (hD : va_D A (wC cA ad ta σ)) (hS : va_S A s.heap H locs) (hl : lv_has ls 6 [(0, .ref (ad 3)), (1, .ref (ad 2)), (2, .int x2)]) : W p l e (rm_X3_add) s m args below meth c H locs 0 0 (MQ below (QI D cA A (wC cA ad) r σ' ta) args s 0 0 A) (F0 m 0 ls []) := by
  obtain ⟨hx, hb, hr, hml, hown, hlk, hE, hK, hA⟩ := id X
  rw [F_X3_add] at hf
  refine lv_aload_n hx hb dX3_add_0 rfl (lv_at hl 0 rfl) ?_
  refine lv_aload_n hx hb dX3_add_1 rfl (lv_at hl 0 rfl) ?_
  refine gC_Rul_many X hP kw111 dX3_add_2 ?_
  obtain ⟨r1, s2, h3, hf⟩ := bo_e hf
  refine callV_i X cv_X3_start kw390 (c_X3_start l D cA A ad ta σ (gF σ 8) r1 s2 h3) ⟨by decide, by decide⟩ ⟨rfl, rfl⟩ hP hD hS (q0 := 3) (ci := 3) rfl rfl rfl rfl hl rfl (Nat.le_of_ble_eq_true rfl) dX3_add_5 ⟨by decide, by decide⟩ (fun H locs hP hD hS => ?_)
  refine lv_istore_n (lv' := [(3, .int r1), (0, .ref (ad 3)), (1, .ref (ad 2)), (2, .int x2)]) hx hb dX3_add_8 rfl hl (by decide) rfl (fun ls hl => ?_)
  refine lv_iconst (v := 0) hx hb dX3_add_9 (by decide) ?_
  refine lv_istore (lv' := [(4, .int 0), (3, .int r1), (0, .ref (ad 3)), (1, .ref (ad 2)), (2, .int x2)]) hx hb dX3_add_10 hl (by decide) rfl (fun ls hl => ?_)
  exact t_X3_add_12 X  5000 x2 r1 0 s2 _ _ _ hf hP hD hS (lv_sub hl [2, 3, 4, 1, 0] rfl)
end S_X3_add
theorem c_X3_add (l : Launch) (D : va_G) (cA : ClassId) (A : Nat → Prop) (ad : Nat → Nat) (ta : Nat) (σ : St) (x2 : Int32) (r : Int32) (σ' : St) (hf : F_X3_add x2 σ = some (r, σ')) : MI l D cA A (wC cA ad) yX3_add cX3_add 6 (some .int) rm_X3_add [.ref (ad 3), .ref (ad 2), .int x2] ta σ r σ' 0 0 := by
  refine enter (by decide) (Nat.le_of_ble_eq_true rfl) ?_
  intro p e s m below meth c ls X hnm hP hD hS hl
  exact t_X3_add_0 X hf hP hD hS hl
abbrev rm_X3_forgetAsked : Room := { frames := 1, cells := 0, slots := 0, locals := 23 }
def F_X3_forgetAsked  (σ : St) : Rs :=
  bd (sA σ 22 (fl 512 (gA σ 22) (-1))) (fun s1 => some (0, s1))
section S_X3_forgetAsked
variable {p : Program} {l : Launch} {e : Env} {s : State} {m : MethodId} {args : Array Value} {below : List Frame} {meth : Method} {c : Code}
variable {D : va_G} {cA : ClassId} {A : Nat → Prop} {ad : Nat → Nat} {r : Int32} {σ' : St} {ta : Nat}
set_option maxHeartbeats 4000000 in
set_option maxRecDepth 100000 in
theorem t_X3_forgetAsked_0  (X : Fx p s m meth c D cA A RX3 cX3_forgetAsked 1 none)  { σ : St} {H : Heap} {locs : List Loc} {ls : Array Slot} (hf : F_X3_forgetAsked σ = some (r, σ')) (hP : va_P D vwCl (wC cA ad ta σ) H) (hD : va_D A (wC cA ad ta σ)) (hS : va_S A s.heap H locs) (hl : lv_has ls 1 [(0, .ref (ad 3))]) : W p l e (rm_X3_forgetAsked) s m args below meth c H locs 0 0 (MQ below (QV D cA A (wC cA ad) σ' ta) args s 0 0 A) (F0 m 0 ls []) := by
  obtain ⟨hx, hb, hr, hml, hown, hlk, hE, hK, hA⟩ := id X
  rw [F_X3_forgetAsked] at hf
  refine lv_aload_n hx hb dX3_forgetAsked_0 rfl (lv_at hl 0 rfl) ?_
  refine gC_Rul_askedAt X hP kw108 dX3_forgetAsked_1 ?_
  refine lv_iconst (v := -1) hx hb dX3_forgetAsked_4 (by decide) ?_
  refine callS_v X cs_J7_fill_53178 kw469 (c_fill l D cA A (wC cA ad) ta σ 22 (ad 22) 512 22 (-1) (by decide) (fun f => rfl) (fun g f => rfl) (sA_gA _ _)) ⟨by decide, by decide⟩ ⟨rfl, rfl⟩ hP hD hS rfl hl rfl (Nat.le_of_ble_eq_true rfl) dX3_forgetAsked_5 ⟨by decide, by decide⟩ (fun H locs hP hD hS => ?_)
  obtain ⟨s1, es1, hf⟩ := bd_e hf
  rw [← es1] at hP hD
  obtain ⟨rfl, rfl⟩ := Prod.mk.inj (Option.some.inj hf)
  exact ret_v X hP hD hS dX3_forgetAsked_8
end S_X3_forgetAsked
theorem c_X3_forgetAsked (l : Launch) (D : va_G) (cA : ClassId) (A : Nat → Prop) (ad : Nat → Nat) (ta : Nat) (σ : St) (r : Int32) (σ' : St) (hf : F_X3_forgetAsked σ = some (r, σ')) : MV l D cA A (wC cA ad) yX3_forgetAsked cX3_forgetAsked 1 none rm_X3_forgetAsked [.ref (ad 3)] ta σ σ' 0 0 := by
  refine enter (by decide) (Nat.le_of_ble_eq_true rfl) ?_
  intro p e s m below meth c ls X hnm hP hD hS hl
  exact t_X3_forgetAsked_0 X hf hP hD hS hl
abbrev rm_X3_isAsked : Room := { frames := 1, cells := 0, slots := 0, locals := 21 }
def F_X3_isAsked (x1 : Int32) (σ : St) : Rs :=
  bd (rd 512 (gA σ 22) x1) (fun y1 => if y1 = (-1) then (ck (isB 0) (some (0, σ))) else (ck (isB 1) (some (1, σ))))
section S_X3_isAsked
variable {p : Program} {l : Launch} {e : Env} {s : State} {m : MethodId} {args : Array Value} {below : List Frame} {meth : Method} {c : Code}
variable {D : va_G} {cA : ClassId} {A : Nat → Prop} {ad : Nat → Nat} {r : Int32} {σ' : St} {ta : Nat}
set_option maxHeartbeats 4000000 in
set_option maxRecDepth 100000 in
theorem t_X3_isAsked_0  (X : Fx p s m meth c D cA A RX3 cX3_isAsked 2 (some .boolean))  {x1 : Int32} { σ : St} {H : Heap} {locs : List Loc} {ls : Array Slot} (hf : F_X3_isAsked x1 σ = some (r, σ')) (hP : va_P D vwCl (wC cA ad ta σ) H) (hD : va_D A (wC cA ad ta σ)) (hS : va_S A s.heap H locs) (hl : lv_has ls 2 [(0, .ref (ad 3)), (1, .int x1)]) : W p l e (rm_X3_isAsked) s m args below meth c H locs 0 0 (MQ below (QI D cA A (wC cA ad) r σ' ta) args s 0 0 A) (F0 m 0 ls []) := by
  obtain ⟨hx, hb, hr, hml, hown, hlk, hE, hK, hA⟩ := id X
  rw [F_X3_isAsked] at hf
  refine lv_aload_n hx hb dX3_isAsked_0 rfl (lv_at hl 0 rfl) ?_
  refine gC_Rul_askedAt X hP kw108 dX3_isAsked_1 ?_
  refine lv_iload_n hx hb dX3_isAsked_4 rfl (lv_at hl 1 rfl) ?_
  refine callSN_i X cs_X8_get kw394 (c_get l D cA A (wC cA ad) ta σ 22 (ad 22) 512 (gA σ 22) x1 (by decide) rfl) ⟨by decide, by decide⟩ ⟨rfl, rfl⟩ hP hD hS rfl hl rfl (Nat.le_of_ble_eq_true rfl) dX3_isAsked_5 ⟨by decide, by decide⟩ (fun H locs hP hD hS => ?_)
  refine lv_topi (fun y1 ey1 => ?_)
  have hf := bd_x ey1 hf
  refine lv_iconst (v := -1) hx hb dX3_isAsked_8 (by decide) ?_
  refine lv_icmp_eq (tgt := 16) hx hb dX3_isAsked_9 (by decide) (fun c2 => ?_) (fun c2 => ?_)
  · have hf := it_t c2 hf
    refine lv_iconst (v := 0) hx hb dX3_isAsked_16 (by decide) ?_
    obtain ⟨b3, hf⟩ := ck_e hf
    obtain ⟨rfl, rfl⟩ := Prod.mk.inj (Option.some.inj hf)
    exact ret_z X b3 hP hD hS dX3_isAsked_17
  · have hf := it_f c2 hf
    refine lv_iconst (v := 1) hx hb dX3_isAsked_12 (by decide) ?_
    refine lv_goto (tgt := 17) hx hb dX3_isAsked_13 (by decide) ?_
    obtain ⟨b4, hf⟩ := ck_e hf
    obtain ⟨rfl, rfl⟩ := Prod.mk.inj (Option.some.inj hf)
    exact ret_z X b4 hP hD hS dX3_isAsked_17
end S_X3_isAsked
theorem c_X3_isAsked (l : Launch) (D : va_G) (cA : ClassId) (A : Nat → Prop) (ad : Nat → Nat) (ta : Nat) (σ : St) (x1 : Int32) (r : Int32) (σ' : St) (hf : F_X3_isAsked x1 σ = some (r, σ')) : MI l D cA A (wC cA ad) yX3_isAsked cX3_isAsked 2 (some .boolean) rm_X3_isAsked [.ref (ad 3), .int x1] ta σ r σ' 0 0 := by
  refine enter (by decide) (Nat.le_of_ble_eq_true rfl) ?_
  intro p e s m below meth c ls X hnm hP hD hS hl
  exact t_X3_isAsked_0 X hf hP hD hS hl
abbrev rm_X3_isVariable : Room := { frames := 1, cells := 0, slots := 0, locals := 21 }
def F_X3_isVariable (x1 : Int32) (σ : St) : Rs :=
  bd (rd 512 (gA σ 18) x1) (fun y1 => if 0 ≤ y1 then (ck (isB 0) (some (0, σ))) else (ck (isB 1) (some (1, σ))))
section S_X3_isVariable
variable {p : Program} {l : Launch} {e : Env} {s : State} {m : MethodId} {args : Array Value} {below : List Frame} {meth : Method} {c : Code}
variable {D : va_G} {cA : ClassId} {A : Nat → Prop} {ad : Nat → Nat} {r : Int32} {σ' : St} {ta : Nat}
set_option maxHeartbeats 4000000 in
set_option maxRecDepth 100000 in
theorem t_X3_isVariable_0  (X : Fx p s m meth c D cA A RX3 cX3_isVariable 2 (some .boolean))  {x1 : Int32} { σ : St} {H : Heap} {locs : List Loc} {ls : Array Slot} (hf : F_X3_isVariable x1 σ = some (r, σ')) (hP : va_P D vwCl (wC cA ad ta σ) H) (hD : va_D A (wC cA ad ta σ)) (hS : va_S A s.heap H locs) (hl : lv_has ls 2 [(0, .ref (ad 3)), (1, .int x1)]) : W p l e (rm_X3_isVariable) s m args below meth c H locs 0 0 (MQ below (QI D cA A (wC cA ad) r σ' ta) args s 0 0 A) (F0 m 0 ls []) := by
  obtain ⟨hx, hb, hr, hml, hown, hlk, hE, hK, hA⟩ := id X
  rw [F_X3_isVariable] at hf
  refine lv_aload_n hx hb dX3_isVariable_0 rfl (lv_at hl 0 rfl) ?_
  refine gC_Rul_symbol X hP kw99 dX3_isVariable_1 ?_
  refine lv_iload_n hx hb dX3_isVariable_4 rfl (lv_at hl 1 rfl) ?_
  refine callSN_i X cs_X8_get kw394 (c_get l D cA A (wC cA ad) ta σ 18 (ad 18) 512 (gA σ 18) x1 (by decide) rfl) ⟨by decide, by decide⟩ ⟨rfl, rfl⟩ hP hD hS rfl hl rfl (Nat.le_of_ble_eq_true rfl) dX3_isVariable_5 ⟨by decide, by decide⟩ (fun H locs hP hD hS => ?_)
  refine lv_topi (fun y1 ey1 => ?_)
  have hf := bd_x ey1 hf
  refine lv_if_ge (tgt := 15) hx hb dX3_isVariable_8 (by decide) (fun c2 => ?_) (fun c2 => ?_)
  · have hf := it_t c2 hf
    refine lv_iconst (v := 0) hx hb dX3_isVariable_15 (by decide) ?_
    obtain ⟨b3, hf⟩ := ck_e hf
    obtain ⟨rfl, rfl⟩ := Prod.mk.inj (Option.some.inj hf)
    exact ret_z X b3 hP hD hS dX3_isVariable_16
  · have hf := it_f c2 hf
    refine lv_iconst (v := 1) hx hb dX3_isVariable_11 (by decide) ?_
    refine lv_goto (tgt := 16) hx hb dX3_isVariable_12 (by decide) ?_
    obtain ⟨b4, hf⟩ := ck_e hf
    obtain ⟨rfl, rfl⟩ := Prod.mk.inj (Option.some.inj hf)
    exact ret_z X b4 hP hD hS dX3_isVariable_16
end S_X3_isVariable
theorem c_X3_isVariable (l : Launch) (D : va_G) (cA : ClassId) (A : Nat → Prop) (ad : Nat → Nat) (ta : Nat) (σ : St) (x1 : Int32) (r : Int32) (σ' : St) (hf : F_X3_isVariable x1 σ = some (r, σ')) : MI l D cA A (wC cA ad) yX3_isVariable cX3_isVariable 2 (some .boolean) rm_X3_isVariable [.ref (ad 3), .int x1] ta σ r σ' 0 0 := by
  refine enter (by decide) (Nat.le_of_ble_eq_true rfl) ?_
  intro p e s m below meth c ls X hnm hP hD hS hl
  exact t_X3_isVariable_0 X hf hP hD hS hl
abbrev rm_X3_meet : Room := { frames := 2, cells := 0, slots := 0, locals := 42 }
def F_X3_meet_129 (k42 : Int32 → Int32 → Int32 → Int32 → St → Rs) (x1 : Int32) (x3 : Int32) (x4 : Int32) (x5 : Int32) (σ : St) : Rs :=
  k42 x1 x3 x4 (x5 + 1) σ
def F_X3_meet_78 (k42 : Int32 → Int32 → Int32 → Int32 → St → Rs) (x1 : Int32) (x3 : Int32) (x4 : Int32) (x5 : Int32) (σ : St) : Rs :=
  bd (rd 512 (gA σ 21) x3) (fun y1 => bd (rd 512 (gA σ 21) x4) (fun y2 => F_X3_meet_129 k42 x1 y1 y2 x5 σ))
def F_X3_meet_42  : Nat → Int32 → Int32 → Int32 → Int32 → St → Rs
  | 0, _, _, _, _, _ => none
  | n + 1, x1, x3, x4, x5, σ => if 160 ≤ x5 then (ck (isB 1) (some (1, σ))) else (bo (F_X3_start (x1 + 1) σ) (fun r3 s4 => if r3 ≤ x3 then (ck (isB 1) (some (1, s4))) else (bo (F_X3_isVariable x3 s4) (fun r8 s9 => if r8 = 0 then (bo (F_X3_isVariable x4 s9) (fun r12 s13 => if r12 = 0 then (bd (rd 512 (gA s13 18) x3) (fun y16 => bd (rd 512 (gA s13 18) x4) (fun y17 => if y16 = y17 then (F_X3_meet_129 (F_X3_meet_42 n) x1 (x3 + 1) (x4 + 1) x5 s13) else (ck (isB 0) (some (0, s13)))))) else (F_X3_meet_78 (F_X3_meet_42 n) x1 x3 x4 x5 s13))) else (F_X3_meet_78 (F_X3_meet_42 n) x1 x3 x4 x5 s9)))))
def F_X3_meet (x1 : Int32) (x2 : Int32) (σ : St) : Rs :=
  if x1 < 0 then (ck (isB 0) (some (0, σ))) else (if (gF σ 8) ≤ x1 then (ck (isB 0) (some (0, σ))) else (if x2 < 0 then (ck (isB 0) (some (0, σ))) else (if x2 < (gF σ 8) then (bo (F_X3_start x1 σ) (fun r8 s9 => bo (F_X3_start x2 s9) (fun r11 s12 => F_X3_meet_42 5000 x1 r8 r11 0 s12))) else (ck (isB 0) (some (0, σ))))))
section S_X3_meet
variable {p : Program} {l : Launch} {e : Env} {s : State} {m : MethodId} {args : Array Value} {below : List Frame} {meth : Method} {c : Code}
variable {D : va_G} {cA : ClassId} {A : Nat → Prop} {ad : Nat → Nat} {r : Int32} {σ' : St} {ta : Nat}
set_option maxHeartbeats 4000000 in
set_option maxRecDepth 100000 in
theorem t_X3_meet_129 {k42 : Int32 → Int32 → Int32 → Int32 → St → Rs} (X : Fx p s m meth c D cA A RX3 cX3_meet 6 (some .boolean)) (K42 : ∀ (x1 x3 x4 x5 : Int32) (σ : St) (H : Heap) (locs : List Loc) (ls : Array Slot), k42 x1 x3 x4 x5 σ = some (r, σ') → va_P D vwCl (wC cA ad ta σ) H → va_D A (wC cA ad ta σ) → va_S A s.heap H locs → lv_has ls 6 [(0, .ref (ad 3)), (1, .int x1), (3, .int x3), (4, .int x4), (5, .int x5)] → W p l e (rm_X3_meet) s m args below meth c H locs 0 0 (MQ below (QI D cA A (wC cA ad) r σ' ta) args s 0 0 A) (F0 m 42 ls [])) {x1 x3 x4 x5 : Int32} { σ : St} {H : Heap} {locs : List Loc} {ls : Array Slot} (hf : F_X3_meet_129 k42 x1 x3 x4 x5 σ = some (r, σ')) (hP : va_P D vwCl (wC cA ad ta σ) H) (hD : va_D A (wC cA ad ta σ)) (hS : va_S A s.heap H locs) (hl : lv_has ls 6 [(0, .ref (ad 3)), (1, .int x1), (3, .int x3), (4, .int x4), (5, .int x5)]) : W p l e (rm_X3_meet) s m args below meth c H locs 0 0 (MQ below (QI D cA A (wC cA ad) r σ' ta) args s 0 0 A) (F0 m 129 ls []) := by
  obtain ⟨hx, hb, hr, hml, hown, hlk, hE, hK, hA⟩ := id X
  rw [F_X3_meet_129] at hf
  refine lv_iinc (v := (x5 + 1)) (lv' := [(5, .int (x5 + 1)), (0, .ref (ad 3)), (1, .int x1), (3, .int x3), (4, .int x4)]) hx hb dX3_meet_129 hl (k := 4) rfl rfl (by decide) rfl (fun ls hl => ?_)
  refine lv_goto (tgt := 42) hx hb dX3_meet_132 (by decide) ?_
  exact K42 x1 x3 x4 (x5 + 1) σ _ _ _ hf hP hD hS (lv_sub hl [1, 2, 3, 4, 0] rfl)
set_option maxHeartbeats 4000000 in
set_option maxRecDepth 100000 in
theorem t_X3_meet_78 {k42 : Int32 → Int32 → Int32 → Int32 → St → Rs} (X : Fx p s m meth c D cA A RX3 cX3_meet 6 (some .boolean)) (K42 : ∀ (x1 x3 x4 x5 : Int32) (σ : St) (H : Heap) (locs : List Loc) (ls : Array Slot), k42 x1 x3 x4 x5 σ = some (r, σ') → va_P D vwCl (wC cA ad ta σ) H → va_D A (wC cA ad ta σ) → va_S A s.heap H locs → lv_has ls 6 [(0, .ref (ad 3)), (1, .int x1), (3, .int x3), (4, .int x4), (5, .int x5)] → W p l e (rm_X3_meet) s m args below meth c H locs 0 0 (MQ below (QI D cA A (wC cA ad) r σ' ta) args s 0 0 A) (F0 m 42 ls [])) {x1 x3 x4 x5 : Int32} { σ : St} {H : Heap} {locs : List Loc} {ls : Array Slot} (hf : F_X3_meet_78 k42 x1 x3 x4 x5 σ = some (r, σ')) (hP : va_P D vwCl (wC cA ad ta σ) H) (hD : va_D A (wC cA ad ta σ)) (hS : va_S A s.heap H locs) (hl : lv_has ls 6 [(0, .ref (ad 3)), (1, .int x1), (3, .int x3), (4, .int x4), (5, .int x5)]) : W p l e (rm_X3_meet) s m args below meth c H locs 0 0 (MQ below (QI D cA A (wC cA ad) r σ' ta) args s 0 0 A) (F0 m 78 ls []) := by
  obtain ⟨hx, hb, hr, hml, hown, hlk, hE, hK, hA⟩ := id X
  rw [F_X3_meet_78] at hf
  refine lv_aload_n hx hb dX3_meet_78 rfl (lv_at hl 0 rfl) ?_
  refine gC_Rul_end X hP kw106 dX3_meet_79 ?_
  refine lv_iload_n hx hb dX3_meet_82 rfl (lv_at hl 2 rfl) ?_
  refine callSN_i X cs_X8_get kw394 (c_get l D cA A (wC cA ad) ta σ 21 (ad 21) 512 (gA σ 21) x3 (by decide) rfl) ⟨by decide, by decide⟩ ⟨rfl, rfl⟩ hP hD hS rfl hl rfl (Nat.le_of_ble_eq_true rfl) dX3_meet_83 ⟨by decide, by decide⟩ (fun H locs hP hD hS => ?_)
  refine lv_topi (fun y1 ey1 => ?_)
  have hf := bd_x ey1 hf
  refine lv_istore_n (lv' := [(3, .int y1), (0, .ref (ad 3)), (1, .int x1), (4, .int x4), (5, .int x5)]) hx hb dX3_meet_86 rfl hl (by decide) rfl (fun ls hl => ?_)
  refine lv_aload_n hx hb dX3_meet_87 rfl (lv_at hl 1 rfl) ?_
  refine gC_Rul_end X hP kw106 dX3_meet_88 ?_
  refine lv_iload hx hb dX3_meet_91 (lv_at hl 3 rfl) ?_
  refine callSN_i X cs_X8_get kw394 (c_get l D cA A (wC cA ad) ta σ 21 (ad 21) 512 (gA σ 21) x4 (by decide) rfl) ⟨by decide, by decide⟩ ⟨rfl, rfl⟩ hP hD hS rfl hl rfl (Nat.le_of_ble_eq_true rfl) dX3_meet_93 ⟨by decide, by decide⟩ (fun H locs hP hD hS => ?_)
  refine lv_topi (fun y2 ey2 => ?_)
  have hf := bd_x ey2 hf
  refine lv_istore (lv' := [(4, .int y2), (3, .int y1), (0, .ref (ad 3)), (1, .int x1), (5, .int x5)]) hx hb dX3_meet_96 hl (by decide) rfl (fun ls hl => ?_)
  refine lv_goto (tgt := 129) hx hb dX3_meet_98 (by decide) ?_
  exact t_X3_meet_129 X K42 hf hP hD hS (lv_sub hl [2, 3, 1, 0, 4] rfl)
set_option maxHeartbeats 4000000 in
set_option maxRecDepth 100000 in
theorem t_X3_meet_42  (X : Fx p s m meth c D cA A RX3 cX3_meet 6 (some .boolean))  : ∀ (n : Nat) (x1 x3 x4 x5 : Int32) (σ : St) (H : Heap) (locs : List Loc) (ls : Array Slot), F_X3_meet_42 n x1 x3 x4 x5 σ = some (r, σ') → va_P D vwCl (wC cA ad ta σ) H → va_D A (wC cA ad ta σ) → va_S A s.heap H locs → lv_has ls 6 [(0, .ref (ad 3)), (1, .int x1), (3, .int x3), (4, .int x4), (5, .int x5)] → W p l e (rm_X3_meet) s m args below meth c H locs 0 0 (MQ below (QI D cA A (wC cA ad) r σ' ta) args s 0 0 A) (F0 m 42 ls []) := by
  obtain ⟨hx, hb, hr, hml, hown, hlk, hE, hK, hA⟩ := id X
  intro n
  induction n with
  | zero =>
    intro x1 x3 x4 x5 σ H locs ls hf
    cases (show (none : Rs) = some _ from hf)
  | succ n ih =>
    intro x1 x3 x4 x5 σ H locs ls hf hP hD hS hl
    rw [F_X3_meet_42] at hf
    refine lv_iload hx hb dX3_meet_42 (lv_at hl 4 rfl) ?_
    refine lv_sipush (v := 160) hx hb dX3_meet_44 (by decide) ?_
    refine lv_icmp_ge (tgt := 135) hx hb dX3_meet_47 (by decide) (fun c1 => ?_) (fun c1 => ?_)
    · have hf := it_t c1 hf
      refine lv_iconst (v := 1) hx hb dX3_meet_135 (by decide) ?_
      obtain ⟨b2, hf⟩ := ck_e hf
      obtain ⟨rfl, rfl⟩ := Prod.mk.inj (Option.some.inj hf)
      exact ret_z X b2 hP hD hS dX3_meet_136
    · have hf := it_f c1 hf
      refine lv_iload_n hx hb dX3_meet_50 rfl (lv_at hl 2 rfl) ?_
      refine lv_aload_n hx hb dX3_meet_51 rfl (lv_at hl 0 rfl) ?_
      refine lv_iload_n hx hb dX3_meet_52 rfl (lv_at hl 1 rfl) ?_
      refine lv_iconst (v := 1) hx hb dX3_meet_53 (by decide) ?_
      refine lv_iadd hx hb dX3_meet_54 ?_
      obtain ⟨r3, s4, h5, hf⟩ := bo_e hf
      refine callV_i X cv_X3_start kw390 (c_X3_start l D cA A ad ta σ (x1 + 1) r3 s4 h5) ⟨by decide, by decide⟩ ⟨rfl, rfl⟩ hP hD hS (q0 := 3) (ci := 3) rfl rfl rfl rfl hl rfl (Nat.le_of_ble_eq_true rfl) dX3_meet_55 ⟨by decide, by decide⟩ (fun H locs hP hD hS => ?_)
      refine lv_icmp_ge (tgt := 135) hx hb dX3_meet_58 (by decide) (fun c6 => ?_) (fun c6 => ?_)
      · have hf := it_t c6 hf
        refine lv_iconst (v := 1) hx hb dX3_meet_135 (by decide) ?_
        obtain ⟨b7, hf⟩ := ck_e hf
        obtain ⟨rfl, rfl⟩ := Prod.mk.inj (Option.some.inj hf)
        exact ret_z X b7 hP hD hS dX3_meet_136
      · have hf := it_f c6 hf
        refine lv_aload_n hx hb dX3_meet_61 rfl (lv_at hl 0 rfl) ?_
        refine lv_iload_n hx hb dX3_meet_62 rfl (lv_at hl 2 rfl) ?_
        obtain ⟨r8, s9, h10, hf⟩ := bo_e hf
        refine callV_i X cv_X3_isVariable kw659 (c_X3_isVariable l D cA A ad ta s4 x3 r8 s9 h10) ⟨by decide, by decide⟩ ⟨rfl, rfl⟩ hP hD hS (q0 := 3) (ci := 3) rfl rfl rfl rfl hl rfl (Nat.le_of_ble_eq_true rfl) dX3_meet_63 ⟨by decide, by decide⟩ (fun H locs hP hD hS => ?_)
        refine lv_if_ne (tgt := 78) hx hb dX3_meet_66 (by decide) (fun c11 => ?_) (fun c11 => ?_)
        · have hf := it_f c11 hf
          exact t_X3_meet_78 X ih hf hP hD hS (lv_sub hl [0, 1, 2, 3, 4] rfl)
        · have hf := it_t c11 hf
          refine lv_aload_n hx hb dX3_meet_69 rfl (lv_at hl 0 rfl) ?_
          refine lv_iload hx hb dX3_meet_70 (lv_at hl 3 rfl) ?_
          obtain ⟨r12, s13, h14, hf⟩ := bo_e hf
          refine callV_i X cv_X3_isVariable kw659 (c_X3_isVariable l D cA A ad ta s9 x4 r12 s13 h14) ⟨by decide, by decide⟩ ⟨rfl, rfl⟩ hP hD hS (q0 := 3) (ci := 3) rfl rfl rfl rfl hl rfl (Nat.le_of_ble_eq_true rfl) dX3_meet_72 ⟨by decide, by decide⟩ (fun H locs hP hD hS => ?_)
          refine lv_if_eq (tgt := 101) hx hb dX3_meet_75 (by decide) (fun c15 => ?_) (fun c15 => ?_)
          · have hf := it_t c15 hf
            refine lv_aload_n hx hb dX3_meet_101 rfl (lv_at hl 0 rfl) ?_
            refine gC_Rul_symbol X hP kw99 dX3_meet_102 ?_
            refine lv_iload_n hx hb dX3_meet_105 rfl (lv_at hl 2 rfl) ?_
            refine callSN_i X cs_X8_get kw394 (c_get l D cA A (wC cA ad) ta s13 18 (ad 18) 512 (gA s13 18) x3 (by decide) rfl) ⟨by decide, by decide⟩ ⟨rfl, rfl⟩ hP hD hS rfl hl rfl (Nat.le_of_ble_eq_true rfl) dX3_meet_106 ⟨by decide, by decide⟩ (fun H locs hP hD hS => ?_)
            refine lv_topi (fun y16 ey16 => ?_)
            have hf := bd_x ey16 hf
            refine lv_aload_n hx hb dX3_meet_109 rfl (lv_at hl 0 rfl) ?_
            refine gC_Rul_symbol X hP kw99 dX3_meet_110 ?_
            refine lv_iload hx hb dX3_meet_113 (lv_at hl 3 rfl) ?_
            refine callSN_i X cs_X8_get kw394 (c_get l D cA A (wC cA ad) ta s13 18 (ad 18) 512 (gA s13 18) x4 (by decide) rfl) ⟨by decide, by decide⟩ ⟨rfl, rfl⟩ hP hD hS rfl hl rfl (Nat.le_of_ble_eq_true rfl) dX3_meet_115 ⟨by decide, by decide⟩ (fun H locs hP hD hS => ?_)
            refine lv_topi (fun y17 ey17 => ?_)
            have hf := bd_x ey17 hf
            refine lv_icmp_eq (tgt := 123) hx hb dX3_meet_118 (by decide) (fun c18 => ?_) (fun c18 => ?_)
            · have hf := it_t c18 hf
              refine lv_iinc (v := (x3 + 1)) (lv' := [(3, .int (x3 + 1)), (0, .ref (ad 3)), (1, .int x1), (4, .int x4), (5, .int x5)]) hx hb dX3_meet_123 hl (k := 2) rfl rfl (by decide) rfl (fun ls hl => ?_)
              refine lv_iinc (v := (x4 + 1)) (lv' := [(4, .int (x4 + 1)), (3, .int (x3 + 1)), (0, .ref (ad 3)), (1, .int x1), (5, .int x5)]) hx hb dX3_meet_126 hl (k := 3) rfl rfl (by decide) rfl (fun ls hl => ?_)
              exact t_X3_meet_129 X ih hf hP hD hS (lv_sub hl [2, 3, 1, 0, 4] rfl)
            · have hf := it_f c18 hf
              refine lv_iconst (v := 0) hx hb dX3_meet_121 (by decide) ?_
              obtain ⟨b19, hf⟩ := ck_e hf
              obtain ⟨rfl, rfl⟩ := Prod.mk.inj (Option.some.inj hf)
              exact ret_z X b19 hP hD hS dX3_meet_122
          · have hf := it_f c15 hf
            exact t_X3_meet_78 X ih hf hP hD hS (lv_sub hl [0, 1, 2, 3, 4] rfl)
set_option maxHeartbeats 4000000 in
set_option maxRecDepth 100000 in
theorem t_X3_meet_0  (X : Fx p s m meth c D cA A RX3 cX3_meet 6 (some .boolean))  {x1 x2 : Int32} { σ : St} {H : Heap} {locs : List Loc} {ls : Array Slot} (hf : F_X3_meet x1 x2 σ = some (r, σ')) (hP : va_P D vwCl (wC cA ad ta σ) H) (hD : va_D A (wC cA ad ta σ)) (hS : va_S A s.heap H locs) (hl : lv_has ls 6 [(0, .ref (ad 3)), (1, .int x1), (2, .int x2)]) : W p l e (rm_X3_meet) s m args below meth c H locs 0 0 (MQ below (QI D cA A (wC cA ad) r σ' ta) args s 0 0 A) (F0 m 0 ls []) := by
  obtain ⟨hx, hb, hr, hml, hown, hlk, hE, hK, hA⟩ := id X
  rw [F_X3_meet] at hf
  refine lv_iload_n hx hb dX3_meet_0 rfl (lv_at hl 1 rfl) ?_
  refine lv_if_lt (tgt := 24) hx hb dX3_meet_1 (by decide) (fun c1 => ?_) (fun c1 => ?_)
  · have hf := it_t c1 hf
    refine lv_iconst (v := 0) hx hb dX3_meet_24 (by decide) ?_
    obtain ⟨b2, hf⟩ := ck_e hf
    obtain ⟨rfl, rfl⟩ := Prod.mk.inj (Option.some.inj hf)
    exact ret_z X b2 hP hD hS dX3_meet_25
  · have hf := it_f c1 hf
    refine lv_iload_n hx hb dX3_meet_4 rfl (lv_at hl 1 rfl) ?_
    refine lv_aload_n hx hb dX3_meet_5 rfl (lv_at hl 0 rfl) ?_
    refine gC_Rul_many X hP kw111 dX3_meet_6 ?_
    refine lv_icmp_ge (tgt := 24) hx hb dX3_meet_9 (by decide) (fun c3 => ?_) (fun c3 => ?_)
    · have hf := it_t c3 hf
      refine lv_iconst (v := 0) hx hb dX3_meet_24 (by decide) ?_
      obtain ⟨b4, hf⟩ := ck_e hf
      obtain ⟨rfl, rfl⟩ := Prod.mk.inj (Option.some.inj hf)
      exact ret_z X b4 hP hD hS dX3_meet_25
    · have hf := it_f c3 hf
      refine lv_iload_n hx hb dX3_meet_12 rfl (lv_at hl 2 rfl) ?_
      refine lv_if_lt (tgt := 24) hx hb dX3_meet_13 (by decide) (fun c5 => ?_) (fun c5 => ?_)
      · have hf := it_t c5 hf
        refine lv_iconst (v := 0) hx hb dX3_meet_24 (by decide) ?_
        obtain ⟨b6, hf⟩ := ck_e hf
        obtain ⟨rfl, rfl⟩ := Prod.mk.inj (Option.some.inj hf)
        exact ret_z X b6 hP hD hS dX3_meet_25
      · have hf := it_f c5 hf
        refine lv_iload_n hx hb dX3_meet_16 rfl (lv_at hl 2 rfl) ?_
        refine lv_aload_n hx hb dX3_meet_17 rfl (lv_at hl 0 rfl) ?_
        refine gC_Rul_many X hP kw111 dX3_meet_18 ?_
        refine lv_icmp_lt (tgt := 26) hx hb dX3_meet_21 (by decide) (fun c7 => ?_) (fun c7 => ?_)
        · have hf := it_t c7 hf
          refine lv_aload_n hx hb dX3_meet_26 rfl (lv_at hl 0 rfl) ?_
          refine lv_iload_n hx hb dX3_meet_27 rfl (lv_at hl 1 rfl) ?_
          obtain ⟨r8, s9, h10, hf⟩ := bo_e hf
          refine callV_i X cv_X3_start kw390 (c_X3_start l D cA A ad ta σ x1 r8 s9 h10) ⟨by decide, by decide⟩ ⟨rfl, rfl⟩ hP hD hS (q0 := 3) (ci := 3) rfl rfl rfl rfl hl rfl (Nat.le_of_ble_eq_true rfl) dX3_meet_28 ⟨by decide, by decide⟩ (fun H locs hP hD hS => ?_)
          refine lv_istore_n (lv' := [(3, .int r8), (0, .ref (ad 3)), (1, .int x1), (2, .int x2)]) hx hb dX3_meet_31 rfl hl (by decide) rfl (fun ls hl => ?_)
          refine lv_aload_n hx hb dX3_meet_32 rfl (lv_at hl 1 rfl) ?_
          refine lv_iload_n hx hb dX3_meet_33 rfl (lv_at hl 3 rfl) ?_
          obtain ⟨r11, s12, h13, hf⟩ := bo_e hf
          refine callV_i X cv_X3_start kw390 (c_X3_start l D cA A ad ta s9 x2 r11 s12 h13) ⟨by decide, by decide⟩ ⟨rfl, rfl⟩ hP hD hS (q0 := 3) (ci := 3) rfl rfl rfl rfl hl rfl (Nat.le_of_ble_eq_true rfl) dX3_meet_34 ⟨by decide, by decide⟩ (fun H locs hP hD hS => ?_)
          refine lv_istore (lv' := [(4, .int r11), (3, .int r8), (0, .ref (ad 3)), (1, .int x1), (2, .int x2)]) hx hb dX3_meet_37 hl (by decide) rfl (fun ls hl => ?_)
          refine lv_iconst (v := 0) hx hb dX3_meet_39 (by decide) ?_
          refine lv_istore (lv' := [(5, .int 0), (4, .int r11), (3, .int r8), (0, .ref (ad 3)), (1, .int x1), (2, .int x2)]) hx hb dX3_meet_40 hl (by decide) rfl (fun ls hl => ?_)
          exact t_X3_meet_42 X  5000 x1 r8 r11 0 s12 _ _ _ hf hP hD hS (lv_sub hl [3, 4, 2, 1, 0] rfl)
        · have hf := it_f c7 hf
          refine lv_iconst (v := 0) hx hb dX3_meet_24 (by decide) ?_
          obtain ⟨b14, hf⟩ := ck_e hf
          obtain ⟨rfl, rfl⟩ := Prod.mk.inj (Option.some.inj hf)
          exact ret_z X b14 hP hD hS dX3_meet_25
end S_X3_meet
theorem c_X3_meet (l : Launch) (D : va_G) (cA : ClassId) (A : Nat → Prop) (ad : Nat → Nat) (ta : Nat) (σ : St) (x1 x2 : Int32) (r : Int32) (σ' : St) (hf : F_X3_meet x1 x2 σ = some (r, σ')) : MI l D cA A (wC cA ad) yX3_meet cX3_meet 6 (some .boolean) rm_X3_meet [.ref (ad 3), .int x1, .int x2] ta σ r σ' 0 0 := by
  refine enter (by decide) (Nat.le_of_ble_eq_true rfl) ?_
  intro p e s m below meth c ls X hnm hP hD hS hl
  exact t_X3_meet_0 X hf hP hD hS hl
abbrev rm_X3_placesTo : Room := { frames := 1, cells := 0, slots := 0, locals := 21 }
def F_X3_placesTo_7  : Nat → Int32 → Int32 → Int32 → St → Rs
  | 0, _, _, _, _ => none
  | n + 1, x2, x3, x4, σ => if 160 ≤ x4 then (some (x2, σ)) else (if x3 = (-1) then (some (x2, σ)) else (bd (rd 512 (gA σ 19) x3) (fun y3 => F_X3_placesTo_7 n (x2 + 1) y3 (x4 + 1) σ)))
def F_X3_placesTo (x1 : Int32) (σ : St) : Rs :=
  F_X3_placesTo_7 5000 0 x1 0 σ
section S_X3_placesTo
variable {p : Program} {l : Launch} {e : Env} {s : State} {m : MethodId} {args : Array Value} {below : List Frame} {meth : Method} {c : Code}
variable {D : va_G} {cA : ClassId} {A : Nat → Prop} {ad : Nat → Nat} {r : Int32} {σ' : St} {ta : Nat}
set_option maxHeartbeats 4000000 in
set_option maxRecDepth 100000 in
theorem t_X3_placesTo_7  (X : Fx p s m meth c D cA A RX3 cX3_placesTo 5 (some .int))  : ∀ (n : Nat) (x2 x3 x4 : Int32) (σ : St) (H : Heap) (locs : List Loc) (ls : Array Slot), F_X3_placesTo_7 n x2 x3 x4 σ = some (r, σ') → va_P D vwCl (wC cA ad ta σ) H → va_D A (wC cA ad ta σ) → va_S A s.heap H locs → lv_has ls 5 [(0, .ref (ad 3)), (2, .int x2), (3, .int x3), (4, .int x4)] → W p l e (rm_X3_placesTo) s m args below meth c H locs 0 0 (MQ below (QI D cA A (wC cA ad) r σ' ta) args s 0 0 A) (F0 m 7 ls []) := by
  obtain ⟨hx, hb, hr, hml, hown, hlk, hE, hK, hA⟩ := id X
  intro n
  induction n with
  | zero =>
    intro x2 x3 x4 σ H locs ls hf
    cases (show (none : Rs) = some _ from hf)
  | succ n ih =>
    intro x2 x3 x4 σ H locs ls hf hP hD hS hl
    rw [F_X3_placesTo_7] at hf
    refine lv_iload hx hb dX3_placesTo_7 (lv_at hl 3 rfl) ?_
    refine lv_sipush (v := 160) hx hb dX3_placesTo_9 (by decide) ?_
    refine lv_icmp_ge (tgt := 38) hx hb dX3_placesTo_12 (by decide) (fun c1 => ?_) (fun c1 => ?_)
    · have hf := it_t c1 hf
      refine lv_iload_n hx hb dX3_placesTo_38 rfl (lv_at hl 1 rfl) ?_
      obtain ⟨rfl, rfl⟩ := Prod.mk.inj (Option.some.inj hf)
      exact ret_i X hP hD hS dX3_placesTo_39
    · have hf := it_f c1 hf
      refine lv_iload_n hx hb dX3_placesTo_15 rfl (lv_at hl 2 rfl) ?_
      refine lv_iconst (v := -1) hx hb dX3_placesTo_16 (by decide) ?_
      refine lv_icmp_eq (tgt := 38) hx hb dX3_placesTo_17 (by decide) (fun c2 => ?_) (fun c2 => ?_)
      · have hf := it_t c2 hf
        refine lv_iload_n hx hb dX3_placesTo_38 rfl (lv_at hl 1 rfl) ?_
        obtain ⟨rfl, rfl⟩ := Prod.mk.inj (Option.some.inj hf)
        exact ret_i X hP hD hS dX3_placesTo_39
      · have hf := it_f c2 hf
        refine lv_iinc (v := (x2 + 1)) (lv' := [(2, .int (x2 + 1)), (0, .ref (ad 3)), (3, .int x3), (4, .int x4)]) hx hb dX3_placesTo_20 hl (k := 1) rfl rfl (by decide) rfl (fun ls hl => ?_)
        refine lv_aload_n hx hb dX3_placesTo_23 rfl (lv_at hl 1 rfl) ?_
        refine gC_Rul_up X hP kw102 dX3_placesTo_24 ?_
        refine lv_iload_n hx hb dX3_placesTo_27 rfl (lv_at hl 2 rfl) ?_
        refine callSN_i X cs_X8_get kw394 (c_get l D cA A (wC cA ad) ta σ 19 (ad 19) 512 (gA σ 19) x3 (by decide) rfl) ⟨by decide, by decide⟩ ⟨rfl, rfl⟩ hP hD hS rfl hl rfl (Nat.le_of_ble_eq_true rfl) dX3_placesTo_28 ⟨by decide, by decide⟩ (fun H locs hP hD hS => ?_)
        refine lv_topi (fun y3 ey3 => ?_)
        have hf := bd_x ey3 hf
        refine lv_istore_n (lv' := [(3, .int y3), (2, .int (x2 + 1)), (0, .ref (ad 3)), (4, .int x4)]) hx hb dX3_placesTo_31 rfl hl (by decide) rfl (fun ls hl => ?_)
        refine lv_iinc (v := (x4 + 1)) (lv' := [(4, .int (x4 + 1)), (3, .int y3), (2, .int (x2 + 1)), (0, .ref (ad 3))]) hx hb dX3_placesTo_32 hl (k := 3) rfl rfl (by decide) rfl (fun ls hl => ?_)
        refine lv_goto (tgt := 7) hx hb dX3_placesTo_35 (by decide) ?_
        exact ih (x2 + 1) y3 (x4 + 1) σ _ _ _ hf hP hD hS (lv_sub hl [3, 2, 1, 0] rfl)
set_option maxHeartbeats 4000000 in
set_option maxRecDepth 100000 in
theorem t_X3_placesTo_0  (X : Fx p s m meth c D cA A RX3 cX3_placesTo 5 (some .int))  {x1 : Int32} { σ : St} {H : Heap} {locs : List Loc} {ls : Array Slot} (hf : F_X3_placesTo x1 σ = some (r, σ')) (hP : va_P D vwCl (wC cA ad ta σ) H) (hD : va_D A (wC cA ad ta σ)) (hS : va_S A s.heap H locs) (hl : lv_has ls 5 [(0, .ref (ad 3)), (1, .int x1)]) : W p l e (rm_X3_placesTo) s m args below meth c H locs 0 0 (MQ below (QI D cA A (wC cA ad) r σ' ta) args s 0 0 A) (F0 m 0 ls []) := by
  obtain ⟨hx, hb, hr, hml, hown, hlk, hE, hK, hA⟩ := id X
  rw [F_X3_placesTo] at hf
  refine lv_iconst (v := 0) hx hb dX3_placesTo_0 (by decide) ?_
  refine lv_istore_n (lv' := [(2, .int 0), (0, .ref (ad 3)), (1, .int x1)]) hx hb dX3_placesTo_1 rfl hl (by decide) rfl (fun ls hl => ?_)
  refine lv_iload_n hx hb dX3_placesTo_2 rfl (lv_at hl 2 rfl) ?_
  refine lv_istore_n (lv' := [(3, .int x1), (2, .int 0), (0, .ref (ad 3)), (1, .int x1)]) hx hb dX3_placesTo_3 rfl hl (by decide) rfl (fun ls hl => ?_)
  refine lv_iconst (v := 0) hx hb dX3_placesTo_4 (by decide) ?_
  refine lv_istore (lv' := [(4, .int 0), (3, .int x1), (2, .int 0), (0, .ref (ad 3)), (1, .int x1)]) hx hb dX3_placesTo_5 hl (by decide) rfl (fun ls hl => ?_)
  exact t_X3_placesTo_7 X  5000 0 x1 0 σ _ _ _ hf hP hD hS (lv_sub hl [3, 2, 1, 0] rfl)
end S_X3_placesTo
theorem c_X3_placesTo (l : Launch) (D : va_G) (cA : ClassId) (A : Nat → Prop) (ad : Nat → Nat) (ta : Nat) (σ : St) (x1 : Int32) (r : Int32) (σ' : St) (hf : F_X3_placesTo x1 σ = some (r, σ')) : MI l D cA A (wC cA ad) yX3_placesTo cX3_placesTo 5 (some .int) rm_X3_placesTo [.ref (ad 3), .int x1] ta σ r σ' 0 0 := by
  refine enter (by decide) (Nat.le_of_ble_eq_true rfl) ?_
  intro p e s m below meth c ls X hnm hP hD hS hl
  exact t_X3_placesTo_0 X hf hP hD hS hl
abbrev rm_X3_placeOnWay : Room := { frames := 2, cells := 0, slots := 0, locals := 45 }
def F_X3_placeOnWay_32 (x3 : Int32) (σ : St) : Rs :=
  bd (rd 512 (gA σ 20) x3) (fun y1 => some (y1, σ))
def F_X3_placeOnWay_11  : Nat → Int32 → Int32 → Int32 → St → Rs
  | 0, _, _, _, _ => none
  | n + 1, x2, x3, x4, σ => if x4 ≤ x2 then (F_X3_placeOnWay_32 x3 σ) else (bd (rd 512 (gA σ 19) x3) (fun y2 => F_X3_placeOnWay_11 n x2 y2 (x4 + (-1)) σ))
def F_X3_placeOnWay (x1 : Int32) (x2 : Int32) (σ : St) : Rs :=
  bo (F_X3_placesTo x1 σ) (fun r1 s2 => bd (r1 - 1) (fun y4 => F_X3_placeOnWay_11 5000 x2 x1 y4 s2))
section S_X3_placeOnWay
variable {p : Program} {l : Launch} {e : Env} {s : State} {m : MethodId} {args : Array Value} {below : List Frame} {meth : Method} {c : Code}
variable {D : va_G} {cA : ClassId} {A : Nat → Prop} {ad : Nat → Nat} {r : Int32} {σ' : St} {ta : Nat}
set_option maxHeartbeats 4000000 in
set_option maxRecDepth 100000 in
theorem t_X3_placeOnWay_32  (X : Fx p s m meth c D cA A RX3 cX3_placeOnWay 5 (some .int))  {x3 : Int32} { σ : St} {H : Heap} {locs : List Loc} {ls : Array Slot} (hf : F_X3_placeOnWay_32 x3 σ = some (r, σ')) (hP : va_P D vwCl (wC cA ad ta σ) H) (hD : va_D A (wC cA ad ta σ)) (hS : va_S A s.heap H locs) (hl : lv_has ls 5 [(0, .ref (ad 3)), (3, .int x3)]) : W p l e (rm_X3_placeOnWay) s m args below meth c H locs 0 0 (MQ below (QI D cA A (wC cA ad) r σ' ta) args s 0 0 A) (F0 m 32 ls []) := by
  obtain ⟨hx, hb, hr, hml, hown, hlk, hE, hK, hA⟩ := id X
  rw [F_X3_placeOnWay_32] at hf
  refine lv_aload_n hx hb dX3_placeOnWay_32 rfl (lv_at hl 0 rfl) ?_
  refine gC_Rul_place X hP kw104 dX3_placeOnWay_33 ?_
  refine lv_iload_n hx hb dX3_placeOnWay_36 rfl (lv_at hl 1 rfl) ?_
  refine callSN_i X cs_X8_get kw394 (c_get l D cA A (wC cA ad) ta σ 20 (ad 20) 512 (gA σ 20) x3 (by decide) rfl) ⟨by decide, by decide⟩ ⟨rfl, rfl⟩ hP hD hS rfl hl rfl (Nat.le_of_ble_eq_true rfl) dX3_placeOnWay_37 ⟨by decide, by decide⟩ (fun H locs hP hD hS => ?_)
  refine lv_topi (fun y1 ey1 => ?_)
  have hf := bd_x ey1 hf
  obtain ⟨rfl, rfl⟩ := Prod.mk.inj (Option.some.inj hf)
  exact ret_i X hP hD hS dX3_placeOnWay_40
set_option maxHeartbeats 4000000 in
set_option maxRecDepth 100000 in
theorem t_X3_placeOnWay_11  (X : Fx p s m meth c D cA A RX3 cX3_placeOnWay 5 (some .int))  : ∀ (n : Nat) (x2 x3 x4 : Int32) (σ : St) (H : Heap) (locs : List Loc) (ls : Array Slot), F_X3_placeOnWay_11 n x2 x3 x4 σ = some (r, σ') → va_P D vwCl (wC cA ad ta σ) H → va_D A (wC cA ad ta σ) → va_S A s.heap H locs → lv_has ls 5 [(0, .ref (ad 3)), (2, .int x2), (3, .int x3), (4, .int x4)] → W p l e (rm_X3_placeOnWay) s m args below meth c H locs 0 0 (MQ below (QI D cA A (wC cA ad) r σ' ta) args s 0 0 A) (F0 m 11 ls []) := by
  obtain ⟨hx, hb, hr, hml, hown, hlk, hE, hK, hA⟩ := id X
  intro n
  induction n with
  | zero =>
    intro x2 x3 x4 σ H locs ls hf
    cases (show (none : Rs) = some _ from hf)
  | succ n ih =>
    intro x2 x3 x4 σ H locs ls hf hP hD hS hl
    rw [F_X3_placeOnWay_11] at hf
    refine lv_iload hx hb dX3_placeOnWay_11 (lv_at hl 3 rfl) ?_
    refine lv_iload_n hx hb dX3_placeOnWay_13 rfl (lv_at hl 1 rfl) ?_
    refine lv_icmp_le (tgt := 32) hx hb dX3_placeOnWay_14 (by decide) (fun c1 => ?_) (fun c1 => ?_)
    · have hf := it_t c1 hf
      exact t_X3_placeOnWay_32 X  hf hP hD hS (lv_sub hl [0, 2] rfl)
    · have hf := it_f c1 hf
      refine lv_aload_n hx hb dX3_placeOnWay_17 rfl (lv_at hl 0 rfl) ?_
      refine gC_Rul_up X hP kw102 dX3_placeOnWay_18 ?_
      refine lv_iload_n hx hb dX3_placeOnWay_21 rfl (lv_at hl 2 rfl) ?_
      refine callSN_i X cs_X8_get kw394 (c_get l D cA A (wC cA ad) ta σ 19 (ad 19) 512 (gA σ 19) x3 (by decide) rfl) ⟨by decide, by decide⟩ ⟨rfl, rfl⟩ hP hD hS rfl hl rfl (Nat.le_of_ble_eq_true rfl) dX3_placeOnWay_22 ⟨by decide, by decide⟩ (fun H locs hP hD hS => ?_)
      refine lv_topi (fun y2 ey2 => ?_)
      have hf := bd_x ey2 hf
      refine lv_istore_n (lv' := [(3, .int y2), (0, .ref (ad 3)), (2, .int x2), (4, .int x4)]) hx hb dX3_placeOnWay_25 rfl hl (by decide) rfl (fun ls hl => ?_)
      refine lv_iinc (v := (x4 + (-1))) (lv' := [(4, .int (x4 + (-1))), (3, .int y2), (0, .ref (ad 3)), (2, .int x2)]) hx hb dX3_placeOnWay_26 hl (k := 3) rfl rfl (by decide) rfl (fun ls hl => ?_)
      refine lv_goto (tgt := 11) hx hb dX3_placeOnWay_29 (by decide) ?_
      exact ih x2 y2 (x4 + (-1)) σ _ _ _ hf hP hD hS (lv_sub hl [2, 3, 1, 0] rfl)
set_option maxHeartbeats 4000000 in
set_option maxRecDepth 100000 in
theorem t_X3_placeOnWay_0  (X : Fx p s m meth c D cA A RX3 cX3_placeOnWay 5 (some .int))  {x1 x2 : Int32} { σ : St} {H : Heap} {locs : List Loc} {ls : Array Slot} (hf : F_X3_placeOnWay x1 x2 σ = some (r, σ')) (hP : va_P D vwCl (wC cA ad ta σ) H) (hD : va_D A (wC cA ad ta σ)) (hS : va_S A s.heap H locs) (hl : lv_has ls 5 [(0, .ref (ad 3)), (1, .int x1), (2, .int x2)]) : W p l e (rm_X3_placeOnWay) s m args below meth c H locs 0 0 (MQ below (QI D cA A (wC cA ad) r σ' ta) args s 0 0 A) (F0 m 0 ls []) := by
  obtain ⟨hx, hb, hr, hml, hown, hlk, hE, hK, hA⟩ := id X
  rw [F_X3_placeOnWay] at hf
  refine lv_iload_n hx hb dX3_placeOnWay_0 rfl (lv_at hl 1 rfl) ?_
  refine lv_istore_n (lv' := [(3, .int x1), (0, .ref (ad 3)), (1, .int x1), (2, .int x2)]) hx hb dX3_placeOnWay_1 rfl hl (by decide) rfl (fun ls hl => ?_)
  refine lv_aload_n hx hb dX3_placeOnWay_2 rfl (lv_at hl 1 rfl) ?_
  refine lv_iload_n hx hb dX3_placeOnWay_3 rfl (lv_at hl 2 rfl) ?_
  obtain ⟨r1, s2, h3, hf⟩ := bo_e hf
  refine callV_i X cv_X3_placesTo kw632 (c_X3_placesTo l D cA A ad ta σ x1 r1 s2 h3) ⟨by decide, by decide⟩ ⟨rfl, rfl⟩ hP hD hS (q0 := 3) (ci := 3) rfl rfl rfl rfl hl rfl (Nat.le_of_ble_eq_true rfl) dX3_placeOnWay_4 ⟨by decide, by decide⟩ (fun H locs hP hD hS => ?_)
  refine lv_iconst (v := 1) hx hb dX3_placeOnWay_7 (by decide) ?_
  refine lv_isub hx hb dX3_placeOnWay_8 ?_
  refine lv_topi (fun y4 ey4 => ?_)
  have hf := bd_x ey4 hf
  refine lv_istore (lv' := [(4, .int y4), (3, .int x1), (0, .ref (ad 3)), (1, .int x1), (2, .int x2)]) hx hb dX3_placeOnWay_9 hl (by decide) rfl (fun ls hl => ?_)
  exact t_X3_placeOnWay_11 X  5000 x2 x1 y4 s2 _ _ _ hf hP hD hS (lv_sub hl [2, 4, 1, 0] rfl)
end S_X3_placeOnWay
theorem c_X3_placeOnWay (l : Launch) (D : va_G) (cA : ClassId) (A : Nat → Prop) (ad : Nat → Nat) (ta : Nat) (σ : St) (x1 x2 : Int32) (r : Int32) (σ' : St) (hf : F_X3_placeOnWay x1 x2 σ = some (r, σ')) : MI l D cA A (wC cA ad) yX3_placeOnWay cX3_placeOnWay 5 (some .int) rm_X3_placeOnWay [.ref (ad 3), .int x1, .int x2] ta σ r σ' 0 0 := by
  refine enter (by decide) (Nat.le_of_ble_eq_true rfl) ?_
  intro p e s m below meth c ls X hnm hP hD hS hl
  exact t_X3_placeOnWay_0 X hf hP hD hS hl
