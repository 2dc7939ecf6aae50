abbrev rm_X7_ask : Room := { frames := 3, cells := 0, slots := 0, locals := 67 }
def F_X7_ask_41 (x1 : Int32) (x2 : Int32) (z0 : Int32) (σ : St) : Rs :=
  bd (rd 512 (gA σ 20) x1) (fun y1 => bo (F_X5_part z0 y1 σ) (fun r2 s3 => bd (sA s3 45 (wr 187 (gA s3 45) x2 r2)) (fun s5 => bd (rd 187 (gA s5 46) x2) (fun y6 => bd (sA s5 46 (wr 187 (gA s5 46) x2 (y6 + 1))) (fun s7 => bo (F_X5_isFree r2 s7) (fun r8 s9 => if r8 = 0 then (some (0, s9)) else (bd (rd 187 (gA s9 47) x2) (fun y12 => bd (sA s9 47 (wr 187 (gA s9 47) x2 (y12 + 1))) (fun s13 => some (0, s13))))))))))
def F_X7_ask (x1 : Int32) (x2 : Int32) (σ : St) : Rs :=
  bd (rd 512 (gA σ 19) x1) (fun y1 => if y1 = (-1) then (F_X7_ask_41 x1 x2 (-1) σ) else (bd (rd 512 (gA σ 22) y1) (fun y3 => bd (rd 187 (gA σ 45) (y3 + 1)) (fun y4 => F_X7_ask_41 x1 x2 y4 σ))))
section S_X7_ask
variable {p : Program} {l : Launch} {e : Env} {s : State} {m : MethodId} {args : Array Value} {below : List Frame} {meth : Method} {c : Code}
variable {D : va_G} {cA : ClassId} {A : Nat → Prop} {ad : Nat → Nat} {r : Int32} {σ' : St} {ta : Nat}
set_option maxHeartbeats 4000000 in
set_option maxRecDepth 100000 in
theorem t_X7_ask_41  (X : Fx p s m meth c D cA A RX7 cX7_ask 6 none)  {x1 x2 z0 : Int32} { σ : St} {H : Heap} {locs : List Loc} {ls : Array Slot} (hf : F_X7_ask_41 x1 x2 z0 σ = some (r, σ')) (hP : va_P D vwCl (wC cA ad ta σ) H) (hD : va_D A (wC cA ad ta σ)) (hS : va_S A s.heap H locs) (hl : lv_has ls 6 [(0, .ref (ad 8)), (1, .int x1), (2, .int x2)]) : W p l e (rm_X7_ask) s m args below meth c H locs 0 0 (MQ below (QV D cA A (wC cA ad) σ' ta) args s 0 0 A) (F0 m 41 ls [.int z0]) := by
  obtain ⟨hx, hb, hr, hml, hown, hlk, hE, hK, hA⟩ := id X
  rw [F_X7_ask_41] at hf
  refine lv_istore (lv' := [(4, .int z0), (0, .ref (ad 8)), (1, .int x1), (2, .int x2)]) hx hb dX7_ask_41 hl (by decide) rfl (fun ls hl => ?_)
  refine lv_aload_n hx hb dX7_ask_43 rfl (lv_at hl 1 rfl) ?_
  refine gC_Wal_terms X hP kw272 dX7_ask_44 ?_
  refine lv_iload hx hb dX7_ask_47 (lv_at hl 0 rfl) ?_
  refine lv_aload_n hx hb dX7_ask_49 rfl (lv_at hl 1 rfl) ?_
  refine gC_Wal_rules X hP kw270 dX7_ask_50 ?_
  refine gCN_Rul_place X hP kw105 dX7_ask_53 ?_
  refine lv_iload_n hx hb dX7_ask_56 rfl (lv_at hl 2 rfl) ?_
  refine callSN_i X cs_X8_get kw553 (c_get l D cA A (wC cA ad) ta σ 20 (ad 20) 512 (gA σ 20) x1 (by decide) rfl) ⟨by decide, by decide⟩ ⟨rfl, rfl⟩ hP hD hS rfl hl rfl (Nat.le_of_ble_eq_true rfl) dX7_ask_57 ⟨by decide, by decide⟩ (fun H locs hP hD hS => ?_)
  refine lv_topi (fun y1 ey1 => ?_)
  have hf := bd_x ey1 hf
  obtain ⟨r2, s3, h4, hf⟩ := bo_e hf
  refine callVN_i X cv_X5_part kw576 (c_X5_part l D cA A ad ta σ z0 y1 r2 s3 h4) ⟨by decide, by decide⟩ ⟨rfl, rfl⟩ hP hD hS (q0 := 6) (ci := 5) rfl rfl rfl rfl hl rfl (Nat.le_of_ble_eq_true rfl) dX7_ask_60 ⟨by decide, by decide⟩ (fun H locs hP hD hS => ?_)
  refine lv_istore (lv' := [(5, .int r2), (4, .int z0), (0, .ref (ad 8)), (1, .int x1), (2, .int x2)]) hx hb dX7_ask_63 hl (by decide) rfl (fun ls hl => ?_)
  refine lv_aload_n hx hb dX7_ask_65 rfl (lv_at hl 2 rfl) ?_
  refine gC_Wal_cells X hP kw275 dX7_ask_66 ?_
  refine lv_iload_n hx hb dX7_ask_69 rfl (lv_at hl 4 rfl) ?_
  refine lv_iload hx hb dX7_ask_70 (lv_at hl 0 rfl) ?_
  refine callSN_v X cs_X8_set kw571 (c_set l D cA A (wC cA ad) ta s3 45 (ad 45) 187 45 x2 r2 (by decide) rfl (fun f => wC_a45 f)) ⟨by decide, by decide⟩ ⟨rfl, rfl⟩ hP hD hS rfl hl rfl (Nat.le_of_ble_eq_true rfl) dX7_ask_72 ⟨by decide, by decide⟩ (fun H locs hP hD hS => ?_)
  obtain ⟨s5, es5, hf⟩ := bd_e hf
  rw [← es5] at hP hD
  refine lv_aload_n hx hb dX7_ask_75 rfl (lv_at hl 2 rfl) ?_
  refine gC_Wal_asks X hP kw276 dX7_ask_76 ?_
  refine lv_iload_n hx hb dX7_ask_79 rfl (lv_at hl 4 rfl) ?_
  refine lv_aload_n hx hb dX7_ask_80 rfl (lv_at hl 2 rfl) ?_
  refine gC_Wal_asks X hP kw276 dX7_ask_81 ?_
  refine lv_iload_n hx hb dX7_ask_84 rfl (lv_at hl 4 rfl) ?_
  refine callSN_i X cs_X8_get kw553 (c_get l D cA A (wC cA ad) ta s5 46 (ad 46) 187 (gA s5 46) x2 (by decide) rfl) ⟨by decide, by decide⟩ ⟨rfl, rfl⟩ hP hD hS rfl hl rfl (Nat.le_of_ble_eq_true rfl) dX7_ask_85 ⟨by decide, by decide⟩ (fun H locs hP hD hS => ?_)
  refine lv_topi (fun y6 ey6 => ?_)
  have hf := bd_x ey6 hf
  refine lv_iconst (v := 1) hx hb dX7_ask_88 (by decide) ?_
  refine lv_iadd hx hb dX7_ask_89 ?_
  refine callSN_v X cs_X8_set kw571 (c_set l D cA A (wC cA ad) ta s5 46 (ad 46) 187 46 x2 (y6 + 1) (by decide) rfl (fun f => wC_a46 f)) ⟨by decide, by decide⟩ ⟨rfl, rfl⟩ hP hD hS rfl hl rfl (Nat.le_of_ble_eq_true rfl) dX7_ask_90 ⟨by decide, by decide⟩ (fun H locs hP hD hS => ?_)
  obtain ⟨s7, es7, hf⟩ := bd_e hf
  rw [← es7] at hP hD
  refine lv_aload_n hx hb dX7_ask_93 rfl (lv_at hl 2 rfl) ?_
  refine gC_Wal_terms X hP kw272 dX7_ask_94 ?_
  refine lv_iload hx hb dX7_ask_97 (lv_at hl 0 rfl) ?_
  obtain ⟨r8, s9, h10, hf⟩ := bo_e hf
  refine callVN_i X cv_X5_isFree kw563 (c_X5_isFree l D cA A ad ta s7 r2 r8 s9 h10) ⟨by decide, by decide⟩ ⟨rfl, rfl⟩ hP hD hS (q0 := 6) (ci := 5) rfl rfl rfl rfl hl rfl (Nat.le_of_ble_eq_true rfl) dX7_ask_99 ⟨by decide, by decide⟩ (fun H locs hP hD hS => ?_)
  refine lv_if_eq (tgt := 123) hx hb dX7_ask_102 (by decide) (fun c11 => ?_) (fun c11 => ?_)
  · have hf := it_t c11 hf
    obtain ⟨rfl, rfl⟩ := Prod.mk.inj (Option.some.inj hf)
    exact ret_v X hP hD hS dX7_ask_123
  · have hf := it_f c11 hf
    refine lv_aload_n hx hb dX7_ask_105 rfl (lv_at hl 2 rfl) ?_
    refine gC_Wal_freeAsks X hP kw277 dX7_ask_106 ?_
    refine lv_iload_n hx hb dX7_ask_109 rfl (lv_at hl 4 rfl) ?_
    refine lv_aload_n hx hb dX7_ask_110 rfl (lv_at hl 2 rfl) ?_
    refine gC_Wal_freeAsks X hP kw277 dX7_ask_111 ?_
    refine lv_iload_n hx hb dX7_ask_114 rfl (lv_at hl 4 rfl) ?_
    refine callSN_i X cs_X8_get kw553 (c_get l D cA A (wC cA ad) ta s9 47 (ad 47) 187 (gA s9 47) x2 (by decide) rfl) ⟨by decide, by decide⟩ ⟨rfl, rfl⟩ hP hD hS rfl hl rfl (Nat.le_of_ble_eq_true rfl) dX7_ask_115 ⟨by decide, by decide⟩ (fun H locs hP hD hS => ?_)
    refine lv_topi (fun y12 ey12 => ?_)
    have hf := bd_x ey12 hf
    refine lv_iconst (v := 1) hx hb dX7_ask_118 (by decide) ?_
    refine lv_iadd hx hb dX7_ask_119 ?_
    refine callSN_v X cs_X8_set kw571 (c_set l D cA A (wC cA ad) ta s9 47 (ad 47) 187 47 x2 (y12 + 1) (by decide) rfl (fun f => wC_a47 f)) ⟨by decide, by decide⟩ ⟨rfl, rfl⟩ hP hD hS rfl hl rfl (Nat.le_of_ble_eq_true rfl) dX7_ask_120 ⟨by decide, by decide⟩ (fun H locs hP hD hS => ?_)
    obtain ⟨s13, es13, hf⟩ := bd_e hf
    rw [← es13] at hP hD
    obtain ⟨rfl, rfl⟩ := Prod.mk.inj (Option.some.inj hf)
    exact ret_v X hP hD hS dX7_ask_123
set_option maxHeartbeats 4000000 in
set_option maxRecDepth 100000 in
theorem t_X7_ask_0  (X : Fx p s m meth c D cA A RX7 cX7_ask 6 none)  {x1 x2 : Int32} { σ : St} {H : Heap} {locs : List Loc} {ls : Array Slot} (hf : F_X7_ask x1 x2 σ = some (r, σ')) (hP : va_P D vwCl (wC cA ad ta σ) H) (hD : va_D A (wC cA ad ta σ)) (hS : va_S A s.heap H locs) (hl : lv_has ls 6 [(0, .ref (ad 8)), (1, .int x1), (2, .int x2)]) : W p l e (rm_X7_ask) s m args below meth c H locs 0 0 (MQ below (QV D cA A (wC cA ad) σ' ta) args s 0 0 A) (F0 m 0 ls []) := by
  obtain ⟨hx, hb, hr, hml, hown, hlk, hE, hK, hA⟩ := id X
  rw [F_X7_ask] at hf
  refine lv_aload_n hx hb dX7_ask_0 rfl (lv_at hl 0 rfl) ?_
  refine gC_Wal_rules X hP kw270 dX7_ask_1 ?_
  refine gCN_Rul_up X hP kw103 dX7_ask_4 ?_
  refine lv_iload_n hx hb dX7_ask_7 rfl (lv_at hl 1 rfl) ?_
  refine callSN_i X cs_X8_get kw553 (c_get l D cA A (wC cA ad) ta σ 19 (ad 19) 512 (gA σ 19) x1 (by decide) rfl) ⟨by decide, by decide⟩ ⟨rfl, rfl⟩ hP hD hS rfl hl rfl (Nat.le_of_ble_eq_true rfl) dX7_ask_8 ⟨by decide, by decide⟩ (fun H locs hP hD hS => ?_)
  refine lv_topi (fun y1 ey1 => ?_)
  have hf := bd_x ey1 hf
  refine lv_istore_n (lv' := [(3, .int y1), (0, .ref (ad 8)), (1, .int x1), (2, .int x2)]) hx hb dX7_ask_11 rfl hl (by decide) rfl (fun ls hl => ?_)
  refine lv_iload_n hx hb dX7_ask_12 rfl (lv_at hl 0 rfl) ?_
  refine lv_iconst (v := -1) hx hb dX7_ask_13 (by decide) ?_
  refine lv_icmp_ne (tgt := 21) hx hb dX7_ask_14 (by decide) (fun c2 => ?_) (fun c2 => ?_)
  · have hf := it_f c2 hf
    refine lv_aload_n hx hb dX7_ask_21 rfl (lv_at hl 1 rfl) ?_
    refine gC_Wal_cells X hP kw275 dX7_ask_22 ?_
    refine lv_aload_n hx hb dX7_ask_25 rfl (lv_at hl 1 rfl) ?_
    refine gC_Wal_rules X hP kw270 dX7_ask_26 ?_
    refine gCN_Rul_askedAt X hP kw109 dX7_ask_29 ?_
    refine lv_iload_n hx hb dX7_ask_32 rfl (lv_at hl 0 rfl) ?_
    refine callSN_i X cs_X8_get kw553 (c_get l D cA A (wC cA ad) ta σ 22 (ad 22) 512 (gA σ 22) y1 (by decide) rfl) ⟨by decide, by decide⟩ ⟨rfl, rfl⟩ hP hD hS rfl hl rfl (Nat.le_of_ble_eq_true rfl) dX7_ask_33 ⟨by decide, by decide⟩ (fun H locs hP hD hS => ?_)
    refine lv_topi (fun y3 ey3 => ?_)
    have hf := bd_x ey3 hf
    refine lv_iconst (v := 1) hx hb dX7_ask_36 (by decide) ?_
    refine lv_iadd hx hb dX7_ask_37 ?_
    refine callSN_i X cs_X8_get kw553 (c_get l D cA A (wC cA ad) ta σ 45 (ad 45) 187 (gA σ 45) (y3 + 1) (by decide) rfl) ⟨by decide, by decide⟩ ⟨rfl, rfl⟩ hP hD hS rfl hl rfl (Nat.le_of_ble_eq_true rfl) dX7_ask_38 ⟨by decide, by decide⟩ (fun H locs hP hD hS => ?_)
    refine lv_topi (fun y4 ey4 => ?_)
    have hf := bd_x ey4 hf
    exact t_X7_ask_41 X  hf hP hD hS (lv_sub hl [1, 2, 3] rfl)
  · have hf := it_t c2 hf
    refine lv_iconst (v := -1) hx hb dX7_ask_17 (by decide) ?_
    refine lv_goto (tgt := 41) hx hb dX7_ask_18 (by decide) ?_
    exact t_X7_ask_41 X  hf hP hD hS (lv_sub hl [1, 2, 3] rfl)
end S_X7_ask
theorem c_X7_ask (l : Launch) (D : va_G) (cA : ClassId) (A : Nat → Prop) (ad : Nat → Nat) (ta : Nat) (σ : St) (x1 x2 : Int32) (r : Int32) (σ' : St) (hf : F_X7_ask x1 x2 σ = some (r, σ')) : MV l D cA A (wC cA ad) yX7_ask cX7_ask 6 none rm_X7_ask [.ref (ad 8), .int x1, .int x2] ta σ σ' 0 0 := by
  refine enter (by decide) (Nat.le_of_ble_eq_true rfl) ?_
  intro p e s m below meth c ls X hnm hP hD hS hl
  exact t_X7_ask_0 X hf hP hD hS hl
abbrev rm_X7_comesTo : Room := { frames := 4, cells := 0, slots := 0, locals := 92 }
def F_X7_comesTo_85 (x1 : Int32) (x2 : Int32) (σ : St) : Rs :=
  bd (sA σ 44 (wr 187 (gA σ 44) (x2 + 1) (gF σ 12))) (fun s1 => bd (rd 187 (gA s1 46) x2) (fun y2 => bd (sA s1 46 (wr 187 (gA s1 46) (x2 + 1) y2)) (fun s3 => bd (rd 187 (gA s3 47) x2) (fun y4 => bd (sA s3 47 (wr 187 (gA s3 47) (x2 + 1) y4)) (fun s5 => bd (rd 560 (gA s5 23) x1) (fun y6 => if y6 = 1 then (bd (rd 560 (gA s5 24) x1) (fun y9 => bo (F_X7_ask y9 (x2 + 1) s5) (fun r10 s11 => ck (isB 1) (some (1, s11))))) else (ck (isB 1) (some (1, s5)))))))))
def F_X7_comesTo (x1 : Int32) (x2 : Int32) (σ : St) : Rs :=
  bd (rd 187 (gA σ 44) x2) (fun y1 => bo (F_X5_unbindTo y1 σ) (fun r2 s3 => bd (rd 560 (gA s3 26) x1) (fun y5 => if y5 = (-1) then (F_X7_comesTo_85 x1 x2 s3) else (bd (rd 187 (gA s3 45) x2) (fun y7 => bo (F_X5_isFree y7 s3) (fun r8 s9 => if r8 = 0 then (bd (rd 808 (gA s9 33) y7) (fun y12 => if y12 = y5 then (F_X7_comesTo_85 x1 x2 s9) else (ck (isB 0) (some (0, s9))))) else (bo (F_X5_bind y7 y5 s9) (fun r15 s16 => F_X7_comesTo_85 x1 x2 s16))))))))
section S_X7_comesTo
variable {p : Program} {l : Launch} {e : Env} {s : State} {m : MethodId} {args : Array Value} {below : List Frame} {meth : Method} {c : Code}
variable {D : va_G} {cA : ClassId} {A : Nat → Prop} {ad : Nat → Nat} {r : Int32} {σ' : St} {ta : Nat}
set_option maxHeartbeats 4000000 in
set_option maxRecDepth 100000 in
theorem t_X7_comesTo_85  (X : Fx p s m meth c D cA A RX7 cX7_comesTo 5 (some .boolean))  {x1 x2 : Int32} { σ : St} {H : Heap} {locs : List Loc} {ls : Array Slot} (hf : F_X7_comesTo_85 x1 x2 σ = some (r, σ')) (hP : va_P D vwCl (wC cA ad ta σ) H) (hD : va_D A (wC cA ad ta σ)) (hS : va_S A s.heap H locs) (hl : lv_has ls 5 [(0, .ref (ad 8)), (1, .int x1), (2, .int x2)]) : W p l e (rm_X7_comesTo) s m args below meth c H locs 0 0 (MQ below (QI D cA A (wC cA ad) r σ' ta) args s 0 0 A) (F0 m 85 ls []) := by
  obtain ⟨hx, hb, hr, hml, hown, hlk, hE, hK, hA⟩ := id X
  rw [F_X7_comesTo_85] at hf
  refine lv_aload_n hx hb dX7_comesTo_85 rfl (lv_at hl 0 rfl) ?_
  refine gC_Wal_marks X hP kw274 dX7_comesTo_86 ?_
  refine lv_iload_n hx hb dX7_comesTo_89 rfl (lv_at hl 2 rfl) ?_
  refine lv_iconst (v := 1) hx hb dX7_comesTo_90 (by decide) ?_
  refine lv_iadd hx hb dX7_comesTo_91 ?_
  refine lv_aload_n hx hb dX7_comesTo_92 rfl (lv_at hl 0 rfl) ?_
  refine gC_Wal_terms X hP kw272 dX7_comesTo_93 ?_
  refine gCN_Ter_bindings X hP kw208 dX7_comesTo_96 ?_
  refine callSN_v X cs_X8_set kw571 (c_set l D cA A (wC cA ad) ta σ 44 (ad 44) 187 44 (x2 + 1) (gF σ 12) (by decide) rfl (fun f => wC_a44 f)) ⟨by decide, by decide⟩ ⟨rfl, rfl⟩ hP hD hS rfl hl rfl (Nat.le_of_ble_eq_true rfl) dX7_comesTo_99 ⟨by decide, by decide⟩ (fun H locs hP hD hS => ?_)
  obtain ⟨s1, es1, hf⟩ := bd_e hf
  rw [← es1] at hP hD
  refine lv_aload_n hx hb dX7_comesTo_102 rfl (lv_at hl 0 rfl) ?_
  refine gC_Wal_asks X hP kw276 dX7_comesTo_103 ?_
  refine lv_iload_n hx hb dX7_comesTo_106 rfl (lv_at hl 2 rfl) ?_
  refine lv_iconst (v := 1) hx hb dX7_comesTo_107 (by decide) ?_
  refine lv_iadd hx hb dX7_comesTo_108 ?_
  refine lv_aload_n hx hb dX7_comesTo_109 rfl (lv_at hl 0 rfl) ?_
  refine gC_Wal_asks X hP kw276 dX7_comesTo_110 ?_
  refine lv_iload_n hx hb dX7_comesTo_113 rfl (lv_at hl 2 rfl) ?_
  refine callSN_i X cs_X8_get kw553 (c_get l D cA A (wC cA ad) ta s1 46 (ad 46) 187 (gA s1 46) x2 (by decide) rfl) ⟨by decide, by decide⟩ ⟨rfl, rfl⟩ hP hD hS rfl hl rfl (Nat.le_of_ble_eq_true rfl) dX7_comesTo_114 ⟨by decide, by decide⟩ (fun H locs hP hD hS => ?_)
  refine lv_topi (fun y2 ey2 => ?_)
  have hf := bd_x ey2 hf
  refine callSN_v X cs_X8_set kw571 (c_set l D cA A (wC cA ad) ta s1 46 (ad 46) 187 46 (x2 + 1) y2 (by decide) rfl (fun f => wC_a46 f)) ⟨by decide, by decide⟩ ⟨rfl, rfl⟩ hP hD hS rfl hl rfl (Nat.le_of_ble_eq_true rfl) dX7_comesTo_117 ⟨by decide, by decide⟩ (fun H locs hP hD hS => ?_)
  obtain ⟨s3, es3, hf⟩ := bd_e hf
  rw [← es3] at hP hD
  refine lv_aload_n hx hb dX7_comesTo_120 rfl (lv_at hl 0 rfl) ?_
  refine gC_Wal_freeAsks X hP kw277 dX7_comesTo_121 ?_
  refine lv_iload_n hx hb dX7_comesTo_124 rfl (lv_at hl 2 rfl) ?_
  refine lv_iconst (v := 1) hx hb dX7_comesTo_125 (by decide) ?_
  refine lv_iadd hx hb dX7_comesTo_126 ?_
  refine lv_aload_n hx hb dX7_comesTo_127 rfl (lv_at hl 0 rfl) ?_
  refine gC_Wal_freeAsks X hP kw277 dX7_comesTo_128 ?_
  refine lv_iload_n hx hb dX7_comesTo_131 rfl (lv_at hl 2 rfl) ?_
  refine callSN_i X cs_X8_get kw553 (c_get l D cA A (wC cA ad) ta s3 47 (ad 47) 187 (gA s3 47) x2 (by decide) rfl) ⟨by decide, by decide⟩ ⟨rfl, rfl⟩ hP hD hS rfl hl rfl (Nat.le_of_ble_eq_true rfl) dX7_comesTo_132 ⟨by decide, by decide⟩ (fun H locs hP hD hS => ?_)
  refine lv_topi (fun y4 ey4 => ?_)
  have hf := bd_x ey4 hf
  refine callSN_v X cs_X8_set kw571 (c_set l D cA A (wC cA ad) ta s3 47 (ad 47) 187 47 (x2 + 1) y4 (by decide) rfl (fun f => wC_a47 f)) ⟨by decide, by decide⟩ ⟨rfl, rfl⟩ hP hD hS rfl hl rfl (Nat.le_of_ble_eq_true rfl) dX7_comesTo_135 ⟨by decide, by decide⟩ (fun H locs hP hD hS => ?_)
  obtain ⟨s5, es5, hf⟩ := bd_e hf
  rw [← es5] at hP hD
  refine lv_aload_n hx hb dX7_comesTo_138 rfl (lv_at hl 0 rfl) ?_
  refine gC_Wal_tree X hP kw271 dX7_comesTo_139 ?_
  refine gCN_Tre_kind X hP kw136 dX7_comesTo_142 ?_
  refine lv_iload_n hx hb dX7_comesTo_145 rfl (lv_at hl 1 rfl) ?_
  refine callSN_i X cs_X8_get kw553 (c_get l D cA A (wC cA ad) ta s5 23 (ad 23) 560 (gA s5 23) x1 (by decide) rfl) ⟨by decide, by decide⟩ ⟨rfl, rfl⟩ hP hD hS rfl hl rfl (Nat.le_of_ble_eq_true rfl) dX7_comesTo_146 ⟨by decide, by decide⟩ (fun H locs hP hD hS => ?_)
  refine lv_topi (fun y6 ey6 => ?_)
  have hf := bd_x ey6 hf
  refine lv_iconst (v := 1) hx hb dX7_comesTo_149 (by decide) ?_
  refine lv_icmp_ne (tgt := 171) hx hb dX7_comesTo_150 (by decide) (fun c7 => ?_) (fun c7 => ?_)
  · have hf := it_f c7 hf
    refine lv_iconst (v := 1) hx hb dX7_comesTo_171 (by decide) ?_
    obtain ⟨b8, hf⟩ := ck_e hf
    obtain ⟨rfl, rfl⟩ := Prod.mk.inj (Option.some.inj hf)
    exact ret_z X b8 hP hD hS dX7_comesTo_172
  · have hf := it_t c7 hf
    refine lv_aload_n hx hb dX7_comesTo_153 rfl (lv_at hl 0 rfl) ?_
    refine lv_aload_n hx hb dX7_comesTo_154 rfl (lv_at hl 0 rfl) ?_
    refine gC_Wal_tree X hP kw271 dX7_comesTo_155 ?_
    refine gCN_Tre_subject X hP kw138 dX7_comesTo_158 ?_
    refine lv_iload_n hx hb dX7_comesTo_161 rfl (lv_at hl 1 rfl) ?_
    refine callSN_i X cs_X8_get kw553 (c_get l D cA A (wC cA ad) ta s5 24 (ad 24) 560 (gA s5 24) x1 (by decide) rfl) ⟨by decide, by decide⟩ ⟨rfl, rfl⟩ hP hD hS rfl hl rfl (Nat.le_of_ble_eq_true rfl) dX7_comesTo_162 ⟨by decide, by decide⟩ (fun H locs hP hD hS => ?_)
    refine lv_topi (fun y9 ey9 => ?_)
    have hf := bd_x ey9 hf
    refine lv_iload_n hx hb dX7_comesTo_165 rfl (lv_at hl 2 rfl) ?_
    refine lv_iconst (v := 1) hx hb dX7_comesTo_166 (by decide) ?_
    refine lv_iadd hx hb dX7_comesTo_167 ?_
    obtain ⟨r10, s11, h12, hf⟩ := bo_e hf
    refine callV_v X cv_X7_ask kw572 (c_X7_ask l D cA A ad ta s5 y9 (x2 + 1) r10 s11 h12) ⟨by decide, by decide⟩ ⟨rfl, rfl⟩ hP hD hS (q0 := 8) (ci := 7) rfl rfl rfl rfl hl rfl (Nat.le_of_ble_eq_true rfl) dX7_comesTo_168 ⟨by decide, by decide⟩ (fun H locs hP hD hS => ?_)
    refine lv_iconst (v := 1) hx hb dX7_comesTo_171 (by decide) ?_
    obtain ⟨b13, hf⟩ := ck_e hf
    obtain ⟨rfl, rfl⟩ := Prod.mk.inj (Option.some.inj hf)
    exact ret_z X b13 hP hD hS dX7_comesTo_172
set_option maxHeartbeats 4000000 in
set_option maxRecDepth 100000 in
theorem t_X7_comesTo_0  (X : Fx p s m meth c D cA A RX7 cX7_comesTo 5 (some .boolean))  {x1 x2 : Int32} { σ : St} {H : Heap} {locs : List Loc} {ls : Array Slot} (hf : F_X7_comesTo x1 x2 σ = some (r, σ')) (hP : va_P D vwCl (wC cA ad ta σ) H) (hD : va_D A (wC cA ad ta σ)) (hS : va_S A s.heap H locs) (hl : lv_has ls 5 [(0, .ref (ad 8)), (1, .int x1), (2, .int x2)]) : W p l e (rm_X7_comesTo) s m args below meth c H locs 0 0 (MQ below (QI D cA A (wC cA ad) r σ' ta) args s 0 0 A) (F0 m 0 ls []) := by
  obtain ⟨hx, hb, hr, hml, hown, hlk, hE, hK, hA⟩ := id X
  rw [F_X7_comesTo] at hf
  refine lv_aload_n hx hb dX7_comesTo_0 rfl (lv_at hl 0 rfl) ?_
  refine gC_Wal_terms X hP kw272 dX7_comesTo_1 ?_
  refine lv_aload_n hx hb dX7_comesTo_4 rfl (lv_at hl 0 rfl) ?_
  refine gC_Wal_marks X hP kw274 dX7_comesTo_5 ?_
  refine lv_iload_n hx hb dX7_comesTo_8 rfl (lv_at hl 2 rfl) ?_
  refine callSN_i X cs_X8_get kw553 (c_get l D cA A (wC cA ad) ta σ 44 (ad 44) 187 (gA σ 44) x2 (by decide) rfl) ⟨by decide, by decide⟩ ⟨rfl, rfl⟩ hP hD hS rfl hl rfl (Nat.le_of_ble_eq_true rfl) dX7_comesTo_9 ⟨by decide, by decide⟩ (fun H locs hP hD hS => ?_)
  refine lv_topi (fun y1 ey1 => ?_)
  have hf := bd_x ey1 hf
  obtain ⟨r2, s3, h4, hf⟩ := bo_e hf
  refine callVN_v X cv_X5_unbindTo kw558 (c_X5_unbindTo l D cA A ad ta σ y1 r2 s3 h4) ⟨by decide, by decide⟩ ⟨rfl, rfl⟩ hP hD hS (q0 := 6) (ci := 5) rfl rfl rfl rfl hl rfl (Nat.le_of_ble_eq_true rfl) dX7_comesTo_12 ⟨by decide, by decide⟩ (fun H locs hP hD hS => ?_)
  refine lv_aload_n hx hb dX7_comesTo_15 rfl (lv_at hl 0 rfl) ?_
  refine gC_Wal_tree X hP kw271 dX7_comesTo_16 ?_
  refine gCN_Tre_label X hP kw141 dX7_comesTo_19 ?_
  refine lv_iload_n hx hb dX7_comesTo_22 rfl (lv_at hl 1 rfl) ?_
  refine callSN_i X cs_X8_get kw553 (c_get l D cA A (wC cA ad) ta s3 26 (ad 26) 560 (gA s3 26) x1 (by decide) rfl) ⟨by decide, by decide⟩ ⟨rfl, rfl⟩ hP hD hS rfl hl rfl (Nat.le_of_ble_eq_true rfl) dX7_comesTo_23 ⟨by decide, by decide⟩ (fun H locs hP hD hS => ?_)
  refine lv_topi (fun y5 ey5 => ?_)
  have hf := bd_x ey5 hf
  refine lv_istore_n (lv' := [(3, .int y5), (0, .ref (ad 8)), (1, .int x1), (2, .int x2)]) hx hb dX7_comesTo_26 rfl hl (by decide) rfl (fun ls hl => ?_)
  refine lv_iload_n hx hb dX7_comesTo_27 rfl (lv_at hl 0 rfl) ?_
  refine lv_iconst (v := -1) hx hb dX7_comesTo_28 (by decide) ?_
  refine lv_icmp_eq (tgt := 85) hx hb dX7_comesTo_29 (by decide) (fun c6 => ?_) (fun c6 => ?_)
  · have hf := it_t c6 hf
    exact t_X7_comesTo_85 X  hf hP hD hS (lv_sub hl [1, 2, 3] rfl)
  · have hf := it_f c6 hf
    refine lv_aload_n hx hb dX7_comesTo_32 rfl (lv_at hl 1 rfl) ?_
    refine gC_Wal_cells X hP kw275 dX7_comesTo_33 ?_
    refine lv_iload_n hx hb dX7_comesTo_36 rfl (lv_at hl 3 rfl) ?_
    refine callSN_i X cs_X8_get kw553 (c_get l D cA A (wC cA ad) ta s3 45 (ad 45) 187 (gA s3 45) x2 (by decide) rfl) ⟨by decide, by decide⟩ ⟨rfl, rfl⟩ hP hD hS rfl hl rfl (Nat.le_of_ble_eq_true rfl) dX7_comesTo_37 ⟨by decide, by decide⟩ (fun H locs hP hD hS => ?_)
    refine lv_topi (fun y7 ey7 => ?_)
    have hf := bd_x ey7 hf
    refine lv_istore (lv' := [(4, .int y7), (3, .int y5), (0, .ref (ad 8)), (1, .int x1), (2, .int x2)]) hx hb dX7_comesTo_40 hl (by decide) rfl (fun ls hl => ?_)
    refine lv_aload_n hx hb dX7_comesTo_42 rfl (lv_at hl 2 rfl) ?_
    refine gC_Wal_terms X hP kw272 dX7_comesTo_43 ?_
    refine lv_iload hx hb dX7_comesTo_46 (lv_at hl 0 rfl) ?_
    obtain ⟨r8, s9, h10, hf⟩ := bo_e hf
    refine callVN_i X cv_X5_isFree kw563 (c_X5_isFree l D cA A ad ta s3 y7 r8 s9 h10) ⟨by decide, by decide⟩ ⟨rfl, rfl⟩ hP hD hS (q0 := 6) (ci := 5) rfl rfl rfl rfl hl rfl (Nat.le_of_ble_eq_true rfl) dX7_comesTo_48 ⟨by decide, by decide⟩ (fun H locs hP hD hS => ?_)
    refine lv_if_eq (tgt := 67) hx hb dX7_comesTo_51 (by decide) (fun c11 => ?_) (fun c11 => ?_)
    · have hf := it_t c11 hf
      refine lv_aload_n hx hb dX7_comesTo_67 rfl (lv_at hl 2 rfl) ?_
      refine gC_Wal_terms X hP kw272 dX7_comesTo_68 ?_
      refine gCN_Ter_head X hP kw199 dX7_comesTo_71 ?_
      refine lv_iload hx hb dX7_comesTo_74 (lv_at hl 0 rfl) ?_
      refine callSN_i X cs_X8_get kw553 (c_get l D cA A (wC cA ad) ta s9 33 (ad 33) 808 (gA s9 33) y7 (by decide) rfl) ⟨by decide, by decide⟩ ⟨rfl, rfl⟩ hP hD hS rfl hl rfl (Nat.le_of_ble_eq_true rfl) dX7_comesTo_76 ⟨by decide, by decide⟩ (fun H locs hP hD hS => ?_)
      refine lv_topi (fun y12 ey12 => ?_)
      have hf := bd_x ey12 hf
      refine lv_iload_n hx hb dX7_comesTo_79 rfl (lv_at hl 1 rfl) ?_
      refine lv_icmp_eq (tgt := 85) hx hb dX7_comesTo_80 (by decide) (fun c13 => ?_) (fun c13 => ?_)
      · have hf := it_t c13 hf
        exact t_X7_comesTo_85 X  hf hP hD hS (lv_sub hl [2, 3, 4] rfl)
      · have hf := it_f c13 hf
        refine lv_iconst (v := 0) hx hb dX7_comesTo_83 (by decide) ?_
        obtain ⟨b14, hf⟩ := ck_e hf
        obtain ⟨rfl, rfl⟩ := Prod.mk.inj (Option.some.inj hf)
        exact ret_z X b14 hP hD hS dX7_comesTo_84
    · have hf := it_f c11 hf
      refine lv_aload_n hx hb dX7_comesTo_54 rfl (lv_at hl 2 rfl) ?_
      refine gC_Wal_terms X hP kw272 dX7_comesTo_55 ?_
      refine lv_iload hx hb dX7_comesTo_58 (lv_at hl 0 rfl) ?_
      refine lv_iload_n hx hb dX7_comesTo_60 rfl (lv_at hl 1 rfl) ?_
      obtain ⟨r15, s16, h17, hf⟩ := bo_e hf
      refine callVN_v X cv_X5_bind kw567 (c_X5_bind l D cA A ad ta s9 y7 y5 r15 s16 h17) ⟨by decide, by decide⟩ ⟨rfl, rfl⟩ hP hD hS (q0 := 6) (ci := 5) rfl rfl rfl rfl hl rfl (Nat.le_of_ble_eq_true rfl) dX7_comesTo_61 ⟨by decide, by decide⟩ (fun H locs hP hD hS => ?_)
      refine lv_goto (tgt := 85) hx hb dX7_comesTo_64 (by decide) ?_
      exact t_X7_comesTo_85 X  hf hP hD hS (lv_sub hl [2, 3, 4] rfl)
end S_X7_comesTo
theorem c_X7_comesTo (l : Launch) (D : va_G) (cA : ClassId) (A : Nat → Prop) (ad : Nat → Nat) (ta : Nat) (σ : St) (x1 x2 : Int32) (r : Int32) (σ' : St) (hf : F_X7_comesTo x1 x2 σ = some (r, σ')) : MI l D cA A (wC cA ad) yX7_comesTo cX7_comesTo 5 (some .boolean) rm_X7_comesTo [.ref (ad 8), .int x1, .int x2] ta σ r σ' 0 0 := by
  refine enter (by decide) (Nat.le_of_ble_eq_true rfl) ?_
  intro p e s m below meth c ls X hnm hP hD hS hl
  exact t_X7_comesTo_0 X hf hP hD hS hl
