abbrev rm_X1_await : Room := { frames := 1, cells := 0, slots := 0, locals := 22 }
def F_X1_await (x1 : Int32) (x2 : Int32) (x3 : Int32) (σ : St) : Rs :=
  if 24 ≤ (gF σ 10) then (some (0, σ)) else (bd (sA σ 29 (wr 24 (gA σ 29) (gF σ 10) x1)) (fun s2 => bd (sA s2 30 (wr 24 (gA s2 30) (gF s2 10) x2)) (fun s3 => bd (sA s3 31 (wr 24 (gA s3 31) (gF s3 10) x3)) (fun s4 => bd (sF s4 10 ((gF s4 10) + 1)) (fun s5 => some (0, s5))))))
section S_X1_await
variable {p : Program} {l : Launch} {e : Env} {s : State} {m : MethodId} {args : Array Value} {below : List Frame} {meth : Method} {c : Code}
variable {D : va_G} {cA : ClassId} {A : Nat → Prop} {ad : Nat → Nat} {r : Int32} {σ' : St} {ta : Nat}
set_option maxHeartbeats 4000000 in
set_option maxRecDepth 100000 in
theorem t_X1_await_0  (X : Fx p s m meth c D cA A RX1 cX1_await 4 none)  {x1 x2 x3 : Int32} { σ : St} {H : Heap} {locs : List Loc} {ls : Array Slot} (hf : F_X1_await x1 x2 x3 σ = some (r, σ')) (hP : va_P D vwCl (wC cA ad ta σ) H) (hD : va_D A (wC cA ad ta σ)) (hS : va_S A s.heap H locs) (hl : lv_has ls 4 [(0, .ref (ad 5)), (1, .int x1), (2, .int x2), (3, .int x3)]) : W p l e (rm_X1_await) s m args below meth c H locs 0 0 (MQ below (QV D cA A (wC cA ad) σ' ta) args s 0 0 A) (F0 m 0 ls []) := by
  obtain ⟨hx, hb, hr, hml, hown, hlk, hE, hK, hA⟩ := id X
  rw [F_X1_await] at hf
  refine lv_aload_n hx hb dX1_await_0 rfl (lv_at hl 0 rfl) ?_
  refine gC_Pla_waiting X hP kw175 dX1_await_1 ?_
  refine lv_bipush (v := 24) hx hb dX1_await_4 (by decide) ?_
  refine lv_icmp_ge (tgt := 55) hx hb dX1_await_6 (by decide) (fun c1 => ?_) (fun c1 => ?_)
  · have hf := it_t c1 hf
    obtain ⟨rfl, rfl⟩ := Prod.mk.inj (Option.some.inj hf)
    exact ret_v X hP hD hS dX1_await_55
  · have hf := it_f c1 hf
    refine lv_aload_n hx hb dX1_await_9 rfl (lv_at hl 0 rfl) ?_
    refine gC_Pla_groups X hP kw171 dX1_await_10 ?_
    refine lv_aload_n hx hb dX1_await_13 rfl (lv_at hl 0 rfl) ?_
    refine gC_Pla_waiting X hP kw175 dX1_await_14 ?_
    refine lv_iload_n hx hb dX1_await_17 rfl (lv_at hl 1 rfl) ?_
    refine callSN_v X cs_X8_set kw474 (c_set l D cA A (wC cA ad) ta σ 29 (ad 29) 24 29 (gF σ 10) x1 (by decide) rfl (fun f => wC_a29 f)) ⟨by decide, by decide⟩ ⟨rfl, rfl⟩ hP hD hS rfl hl rfl (Nat.le_of_ble_eq_true rfl) dX1_await_18 ⟨by decide, by decide⟩ (fun H locs hP hD hS => ?_)
    obtain ⟨s2, es2, hf⟩ := bd_e hf
    rw [← es2] at hP hD
    refine lv_aload_n hx hb dX1_await_21 rfl (lv_at hl 0 rfl) ?_
    refine gC_Pla_labels X hP kw172 dX1_await_22 ?_
    refine lv_aload_n hx hb dX1_await_25 rfl (lv_at hl 0 rfl) ?_
    refine gC_Pla_waiting X hP kw175 dX1_await_26 ?_
    refine lv_iload_n hx hb dX1_await_29 rfl (lv_at hl 2 rfl) ?_
    refine callSN_v X cs_X8_set kw474 (c_set l D cA A (wC cA ad) ta s2 30 (ad 30) 24 30 (gF s2 10) x2 (by decide) rfl (fun f => wC_a30 f)) ⟨by decide, by decide⟩ ⟨rfl, rfl⟩ hP hD hS rfl hl rfl (Nat.le_of_ble_eq_true rfl) dX1_await_30 ⟨by decide, by decide⟩ (fun H locs hP hD hS => ?_)
    obtain ⟨s3, es3, hf⟩ := bd_e hf
    rw [← es3] at hP hD
    refine lv_aload_n hx hb dX1_await_33 rfl (lv_at hl 0 rfl) ?_
    refine gC_Pla_depths X hP kw173 dX1_await_34 ?_
    refine lv_aload_n hx hb dX1_await_37 rfl (lv_at hl 0 rfl) ?_
    refine gC_Pla_waiting X hP kw175 dX1_await_38 ?_
    refine lv_iload_n hx hb dX1_await_41 rfl (lv_at hl 3 rfl) ?_
    refine callSN_v X cs_X8_set kw474 (c_set l D cA A (wC cA ad) ta s3 31 (ad 31) 24 31 (gF s3 10) x3 (by decide) rfl (fun f => wC_a31 f)) ⟨by decide, by decide⟩ ⟨rfl, rfl⟩ hP hD hS rfl hl rfl (Nat.le_of_ble_eq_true rfl) dX1_await_42 ⟨by decide, by decide⟩ (fun H locs hP hD hS => ?_)
    obtain ⟨s4, es4, hf⟩ := bd_e hf
    rw [← es4] at hP hD
    refine lv_aload_n hx hb dX1_await_45 rfl (lv_at hl 0 rfl) ?_
    refine lv_dup hx hb dX1_await_46 rfl ?_
    refine gC_Pla_waiting X hP kw175 dX1_await_47 ?_
    refine lv_iconst (v := 1) hx hb dX1_await_50 (by decide) ?_
    refine lv_iadd hx hb dX1_await_51 ?_
    refine pC_Pla_waiting X hP hD hS kw175 dX1_await_52 (fun H locs hP hD hS => ?_)
    obtain ⟨s5, es5, hf⟩ := bd_e hf
    rw [← es5] at hP hD
    obtain ⟨rfl, rfl⟩ := Prod.mk.inj (Option.some.inj hf)
    exact ret_v X hP hD hS dX1_await_55
end S_X1_await
theorem c_X1_await (l : Launch) (D : va_G) (cA : ClassId) (A : Nat → Prop) (ad : Nat → Nat) (ta : Nat) (σ : St) (x1 x2 x3 : Int32) (r : Int32) (σ' : St) (hf : F_X1_await x1 x2 x3 σ = some (r, σ')) : MV l D cA A (wC cA ad) yX1_await cX1_await 4 none rm_X1_await [.ref (ad 5), .int x1, .int x2, .int x3] ta σ σ' 0 0 := by
  refine enter (by decide) (Nat.le_of_ble_eq_true rfl) ?_
  intro p e s m below meth c ls X hnm hP hD hS hl
  exact t_X1_await_0 X hf hP hD hS hl
abbrev rm_X1_firstOf : Room := { frames := 1, cells := 0, slots := 0, locals := 20 }
def F_X1_firstOf (x0 : Int32) (σ : St) : Rs :=
  bo (F_J6_bitCount_0f7a4 ((x0 &&& (-x0)) - 1) σ) (fun r1 s2 => some (r1, s2))
section S_X1_firstOf
variable {p : Program} {l : Launch} {e : Env} {s : State} {m : MethodId} {args : Array Value} {below : List Frame} {meth : Method} {c : Code}
variable {D : va_G} {cA : ClassId} {A : Nat → Prop} {ad : Nat → Nat} {r : Int32} {σ' : St} {ta : Nat}
set_option maxHeartbeats 4000000 in
set_option maxRecDepth 100000 in
theorem t_X1_firstOf_0  (X : Fx p s m meth c D cA A RX1 cX1_firstOf 1 (some .int))  {x0 : Int32} { σ : St} {H : Heap} {locs : List Loc} {ls : Array Slot} (hf : F_X1_firstOf x0 σ = some (r, σ')) (hP : va_P D vwCl (wC cA ad ta σ) H) (hD : va_D A (wC cA ad ta σ)) (hS : va_S A s.heap H locs) (hl : lv_has ls 1 [(0, .int x0)]) : W p l e (rm_X1_firstOf) s m args below meth c H locs 0 0 (MQ below (QI D cA A (wC cA ad) r σ' ta) args s 0 0 A) (F0 m 0 ls []) := by
  obtain ⟨hx, hb, hr, hml, hown, hlk, hE, hK, hA⟩ := id X
  rw [F_X1_firstOf] at hf
  refine lv_iload_n hx hb dX1_firstOf_0 rfl (lv_at hl 0 rfl) ?_
  refine lv_iload_n hx hb dX1_firstOf_1 rfl (lv_at hl 0 rfl) ?_
  refine lv_ineg hx hb dX1_firstOf_2 ?_
  refine lv_iand hx hb dX1_firstOf_3 ?_
  refine lv_iconst (v := 1) hx hb dX1_firstOf_4 (by decide) ?_
  refine lv_isub hx hb dX1_firstOf_5 ?_
  obtain ⟨r1, s2, h3, hf⟩ := bo_e hf
  refine callS_i X cs_J6_bitCount_0f7a4 kw487 (c_J6_bitCount_0f7a4 l D cA A (wC cA ad) ta σ ((x0 &&& (-x0)) - 1) r1 s2 h3) ⟨by decide, by decide⟩ ⟨rfl, rfl⟩ hP hD hS rfl hl rfl (Nat.le_of_ble_eq_true rfl) dX1_firstOf_6 ⟨by decide, by decide⟩ (fun H locs hP hD hS => ?_)
  obtain ⟨rfl, rfl⟩ := Prod.mk.inj (Option.some.inj hf)
  exact ret_i X hP hD hS dX1_firstOf_9
end S_X1_firstOf
theorem c_X1_firstOf (l : Launch) (D : va_G) (cA : ClassId) (A : Nat → Prop) (ad : Nat → Nat) (ta : Nat) (σ : St) (x0 : Int32) (r : Int32) (σ' : St) (hf : F_X1_firstOf x0 σ = some (r, σ')) : MI l D cA A (wC cA ad) yX1_firstOf cX1_firstOf 1 (some .int) rm_X1_firstOf [.int x0] ta σ r σ' 0 0 := by
  refine enter (by decide) (Nat.le_of_ble_eq_true rfl) ?_
  intro p e s m below meth c ls X hnm hP hD hS hl
  exact t_X1_firstOf_0 X hf hP hD hS hl
abbrev rm_X1_startCursors : Room := { frames := 2, cells := 0, slots := 0, locals := 42 }
def F_X1_startCursors_37 (k2 : Int32 → Int32 → St → Rs) (x1 : Int32) (x2 : Int32) (σ : St) : Rs :=
  k2 x1 (x2 + 1) σ
def F_X1_startCursors_2  : Nat → Int32 → Int32 → St → Rs
  | 0, _, _, _ => none
  | n + 1, x1, x2, σ => if (gF σ 8) ≤ x2 then (some (0, σ)) else (bo (F_X8_has x1 x2 σ) (fun r2 s3 => if r2 = 0 then (F_X1_startCursors_37 (F_X1_startCursors_2 n) x1 x2 s3) else (bo (F_X3_start x2 s3) (fun r6 s7 => bd (sA s7 32 (wr 24 (gA s7 32) x2 r6)) (fun s9 => F_X1_startCursors_37 (F_X1_startCursors_2 n) x1 x2 s9)))))
def F_X1_startCursors (x1 : Int32) (σ : St) : Rs :=
  F_X1_startCursors_2 5000 x1 0 σ
section S_X1_startCursors
variable {p : Program} {l : Launch} {e : Env} {s : State} {m : MethodId} {args : Array Value} {below : List Frame} {meth : Method} {c : Code}
variable {D : va_G} {cA : ClassId} {A : Nat → Prop} {ad : Nat → Nat} {r : Int32} {σ' : St} {ta : Nat}
set_option maxHeartbeats 4000000 in
set_option maxRecDepth 100000 in
theorem t_X1_startCursors_37 {k2 : Int32 → Int32 → St → Rs} (X : Fx p s m meth c D cA A RX1 cX1_startCursors 3 none) (K2 : ∀ (x1 x2 : Int32) (σ : St) (H : Heap) (locs : List Loc) (ls : Array Slot), k2 x1 x2 σ = some (r, σ') → va_P D vwCl (wC cA ad ta σ) H → va_D A (wC cA ad ta σ) → va_S A s.heap H locs → lv_has ls 3 [(0, .ref (ad 5)), (1, .int x1), (2, .int x2)] → W p l e (rm_X1_startCursors) s m args below meth c H locs 0 0 (MQ below (QV D cA A (wC cA ad) σ' ta) args s 0 0 A) (F0 m 2 ls [])) {x1 x2 : Int32} { σ : St} {H : Heap} {locs : List Loc} {ls : Array Slot} (hf : F_X1_startCursors_37 k2 x1 x2 σ = some (r, σ')) (hP : va_P D vwCl (wC cA ad ta σ) H) (hD : va_D A (wC cA ad ta σ)) (hS : va_S A s.heap H locs) (hl : lv_has ls 3 [(0, .ref (ad 5)), (1, .int x1), (2, .int x2)]) : W p l e (rm_X1_startCursors) s m args below meth c H locs 0 0 (MQ below (QV D cA A (wC cA ad) σ' ta) args s 0 0 A) (F0 m 37 ls []) := by
  obtain ⟨hx, hb, hr, hml, hown, hlk, hE, hK, hA⟩ := id X
  rw [F_X1_startCursors_37] at hf
  refine lv_iinc (v := (x2 + 1)) (lv' := [(2, .int (x2 + 1)), (0, .ref (ad 5)), (1, .int x1)]) hx hb dX1_startCursors_37 hl (k := 2) rfl rfl (by decide) rfl (fun ls hl => ?_)
  refine lv_goto (tgt := 2) hx hb dX1_startCursors_40 (by decide) ?_
  exact K2 x1 (x2 + 1) σ _ _ _ hf hP hD hS (lv_sub hl [1, 2, 0] rfl)
set_option maxHeartbeats 4000000 in
set_option maxRecDepth 100000 in
theorem t_X1_startCursors_2  (X : Fx p s m meth c D cA A RX1 cX1_startCursors 3 none)  : ∀ (n : Nat) (x1 x2 : Int32) (σ : St) (H : Heap) (locs : List Loc) (ls : Array Slot), F_X1_startCursors_2 n x1 x2 σ = some (r, σ') → va_P D vwCl (wC cA ad ta σ) H → va_D A (wC cA ad ta σ) → va_S A s.heap H locs → lv_has ls 3 [(0, .ref (ad 5)), (1, .int x1), (2, .int x2)] → W p l e (rm_X1_startCursors) s m args below meth c H locs 0 0 (MQ below (QV D cA A (wC cA ad) σ' ta) args s 0 0 A) (F0 m 2 ls []) := by
  obtain ⟨hx, hb, hr, hml, hown, hlk, hE, hK, hA⟩ := id X
  intro n
  induction n with
  | zero =>
    intro x1 x2 σ H locs ls hf
    cases (show (none : Rs) = some _ from hf)
  | succ n ih =>
    intro x1 x2 σ H locs ls hf hP hD hS hl
    rw [F_X1_startCursors_2] at hf
    refine lv_iload_n hx hb dX1_startCursors_2 rfl (lv_at hl 2 rfl) ?_
    refine lv_aload_n hx hb dX1_startCursors_3 rfl (lv_at hl 0 rfl) ?_
    refine gC_Pla_rules X hP kw169 dX1_startCursors_4 ?_
    refine gCN_Rul_many X hP kw112 dX1_startCursors_7 ?_
    refine lv_icmp_ge (tgt := 43) hx hb dX1_startCursors_10 (by decide) (fun c1 => ?_) (fun c1 => ?_)
    · have hf := it_t c1 hf
      obtain ⟨rfl, rfl⟩ := Prod.mk.inj (Option.some.inj hf)
      exact ret_v X hP hD hS dX1_startCursors_43
    · have hf := it_f c1 hf
      refine lv_iload_n hx hb dX1_startCursors_13 rfl (lv_at hl 1 rfl) ?_
      refine lv_iload_n hx hb dX1_startCursors_14 rfl (lv_at hl 2 rfl) ?_
      obtain ⟨r2, s3, h4, hf⟩ := bo_e hf
      refine callSN_i X cs_X8_has kw497 (c_X8_has l D cA A ad ta σ x1 x2 r2 s3 h4) ⟨by decide, by decide⟩ ⟨rfl, rfl⟩ hP hD hS rfl hl rfl (Nat.le_of_ble_eq_true rfl) dX1_startCursors_15 ⟨by decide, by decide⟩ (fun H locs hP hD hS => ?_)
      refine lv_if_eq (tgt := 37) hx hb dX1_startCursors_18 (by decide) (fun c5 => ?_) (fun c5 => ?_)
      · have hf := it_t c5 hf
        exact t_X1_startCursors_37 X ih hf hP hD hS (lv_sub hl [0, 1, 2] rfl)
      · have hf := it_f c5 hf
        refine lv_aload_n hx hb dX1_startCursors_21 rfl (lv_at hl 0 rfl) ?_
        refine gC_Pla_cursor X hP kw174 dX1_startCursors_22 ?_
        refine lv_iload_n hx hb dX1_startCursors_25 rfl (lv_at hl 2 rfl) ?_
        refine lv_aload_n hx hb dX1_startCursors_26 rfl (lv_at hl 0 rfl) ?_
        refine gC_Pla_rules X hP kw169 dX1_startCursors_27 ?_
        refine lv_iload_n hx hb dX1_startCursors_30 rfl (lv_at hl 2 rfl) ?_
        obtain ⟨r6, s7, h8, hf⟩ := bo_e hf
        refine callVN_i X cv_X3_start kw500 (c_X3_start l D cA A ad ta s3 x2 r6 s7 h8) ⟨by decide, by decide⟩ ⟨rfl, rfl⟩ hP hD hS (q0 := 3) (ci := 3) rfl rfl rfl rfl hl rfl (Nat.le_of_ble_eq_true rfl) dX1_startCursors_31 ⟨by decide, by decide⟩ (fun H locs hP hD hS => ?_)
        refine callSN_v X cs_X8_set kw474 (c_set l D cA A (wC cA ad) ta s7 32 (ad 32) 24 32 x2 r6 (by decide) rfl (fun f => wC_a32 f)) ⟨by decide, by decide⟩ ⟨rfl, rfl⟩ hP hD hS rfl hl rfl (Nat.le_of_ble_eq_true rfl) dX1_startCursors_34 ⟨by decide, by decide⟩ (fun H locs hP hD hS => ?_)
        obtain ⟨s9, es9, hf⟩ := bd_e hf
        rw [← es9] at hP hD
        exact t_X1_startCursors_37 X ih hf hP hD hS (lv_sub hl [0, 1, 2] rfl)
set_option maxHeartbeats 4000000 in
set_option maxRecDepth 100000 in
theorem t_X1_startCursors_0  (X : Fx p s m meth c D cA A RX1 cX1_startCursors 3 none)  {x1 : Int32} { σ : St} {H : Heap} {locs : List Loc} {ls : Array Slot} (hf : F_X1_startCursors x1 σ = some (r, σ')) (hP : va_P D vwCl (wC cA ad ta σ) H) (hD : va_D A (wC cA ad ta σ)) (hS : va_S A s.heap H locs) (hl : lv_has ls 3 [(0, .ref (ad 5)), (1, .int x1)]) : W p l e (rm_X1_startCursors) s m args below meth c H locs 0 0 (MQ below (QV D cA A (wC cA ad) σ' ta) args s 0 0 A) (F0 m 0 ls []) := by
  obtain ⟨hx, hb, hr, hml, hown, hlk, hE, hK, hA⟩ := id X
  rw [F_X1_startCursors] at hf
  refine lv_iconst (v := 0) hx hb dX1_startCursors_0 (by decide) ?_
  refine lv_istore_n (lv' := [(2, .int 0), (0, .ref (ad 5)), (1, .int x1)]) hx hb dX1_startCursors_1 rfl hl (by decide) rfl (fun ls hl => ?_)
  exact t_X1_startCursors_2 X  5000 x1 0 σ _ _ _ hf hP hD hS (lv_sub hl [1, 2, 0] rfl)
end S_X1_startCursors
theorem c_X1_startCursors (l : Launch) (D : va_G) (cA : ClassId) (A : Nat → Prop) (ad : Nat → Nat) (ta : Nat) (σ : St) (x1 : Int32) (r : Int32) (σ' : St) (hf : F_X1_startCursors x1 σ = some (r, σ')) : MV l D cA A (wC cA ad) yX1_startCursors cX1_startCursors 3 none rm_X1_startCursors [.ref (ad 5), .int x1] ta σ σ' 0 0 := by
  refine enter (by decide) (Nat.le_of_ble_eq_true rfl) ?_
  intro p e s m below meth c ls X hnm hP hD hS hl
  exact t_X1_startCursors_0 X hf hP hD hS hl
abbrev rm_X1_enter : Room := { frames := 1, cells := 0, slots := 0, locals := 22 }
def F_X1_enter_39 (k2 : Int32 → Int32 → St → Rs) (x1 : Int32) (x2 : Int32) (σ : St) : Rs :=
  k2 x1 (x2 + 1) σ
def F_X1_enter_2  : Nat → Int32 → Int32 → St → Rs
  | 0, _, _, _ => none
  | n + 1, x1, x2, σ => if (gF σ 8) ≤ x2 then (some (0, σ)) else (bo (F_X8_has x1 x2 σ) (fun r2 s3 => if r2 = 0 then (F_X1_enter_39 (F_X1_enter_2 n) x1 x2 s3) else (bd (rd 24 (gA s3 32) x2) (fun y6 => bd (sA s3 32 (wr 24 (gA s3 32) x2 (y6 + 1))) (fun s7 => F_X1_enter_39 (F_X1_enter_2 n) x1 x2 s7)))))
def F_X1_enter (x1 : Int32) (σ : St) : Rs :=
  F_X1_enter_2 5000 x1 0 σ
section S_X1_enter
variable {p : Program} {l : Launch} {e : Env} {s : State} {m : MethodId} {args : Array Value} {below : List Frame} {meth : Method} {c : Code}
variable {D : va_G} {cA : ClassId} {A : Nat → Prop} {ad : Nat → Nat} {r : Int32} {σ' : St} {ta : Nat}
set_option maxHeartbeats 4000000 in
set_option maxRecDepth 100000 in
theorem t_X1_enter_39 {k2 : Int32 → Int32 → St → Rs} (X : Fx p s m meth c D cA A RX1 cX1_enter 3 none) (K2 : ∀ (x1 x2 : Int32) (σ : St) (H : Heap) (locs : List Loc) (ls : Array Slot), k2 x1 x2 σ = some (r, σ') → va_P D vwCl (wC cA ad ta σ) H → va_D A (wC cA ad ta σ) → va_S A s.heap H locs → lv_has ls 3 [(0, .ref (ad 5)), (1, .int x1), (2, .int x2)] → W p l e (rm_X1_enter) s m args below meth c H locs 0 0 (MQ below (QV D cA A (wC cA ad) σ' ta) args s 0 0 A) (F0 m 2 ls [])) {x1 x2 : Int32} { σ : St} {H : Heap} {locs : List Loc} {ls : Array Slot} (hf : F_X1_enter_39 k2 x1 x2 σ = some (r, σ')) (hP : va_P D vwCl (wC cA ad ta σ) H) (hD : va_D A (wC cA ad ta σ)) (hS : va_S A s.heap H locs) (hl : lv_has ls 3 [(0, .ref (ad 5)), (1, .int x1), (2, .int x2)]) : W p l e (rm_X1_enter) s m args below meth c H locs 0 0 (MQ below (QV D cA A (wC cA ad) σ' ta) args s 0 0 A) (F0 m 39 ls []) := by
  obtain ⟨hx, hb, hr, hml, hown, hlk, hE, hK, hA⟩ := id X
  rw [F_X1_enter_39] at hf
  refine lv_iinc (v := (x2 + 1)) (lv' := [(2, .int (x2 + 1)), (0, .ref (ad 5)), (1, .int x1)]) hx hb dX1_enter_39 hl (k := 2) rfl rfl (by decide) rfl (fun ls hl => ?_)
  refine lv_goto (tgt := 2) hx hb dX1_enter_42 (by decide) ?_
  exact K2 x1 (x2 + 1) σ _ _ _ hf hP hD hS (lv_sub hl [1, 2, 0] rfl)
set_option maxHeartbeats 4000000 in
set_option maxRecDepth 100000 in
theorem t_X1_enter_2  (X : Fx p s m meth c D cA A RX1 cX1_enter 3 none)  : ∀ (n : Nat) (x1 x2 : Int32) (σ : St) (H : Heap) (locs : List Loc) (ls : Array Slot), F_X1_enter_2 n x1 x2 σ = some (r, σ') → va_P D vwCl (wC cA ad ta σ) H → va_D A (wC cA ad ta σ) → va_S A s.heap H locs → lv_has ls 3 [(0, .ref (ad 5)), (1, .int x1), (2, .int x2)] → W p l e (rm_X1_enter) s m args below meth c H locs 0 0 (MQ below (QV D cA A (wC cA ad) σ' ta) args s 0 0 A) (F0 m 2 ls []) := by
  obtain ⟨hx, hb, hr, hml, hown, hlk, hE, hK, hA⟩ := id X
  intro n
  induction n with
  | zero =>
    intro x1 x2 σ H locs ls hf
    cases (show (none : Rs) = some _ from hf)
  | succ n ih =>
    intro x1 x2 σ H locs ls hf hP hD hS hl
    rw [F_X1_enter_2] at hf
    refine lv_iload_n hx hb dX1_enter_2 rfl (lv_at hl 2 rfl) ?_
    refine lv_aload_n hx hb dX1_enter_3 rfl (lv_at hl 0 rfl) ?_
    refine gC_Pla_rules X hP kw169 dX1_enter_4 ?_
    refine gCN_Rul_many X hP kw112 dX1_enter_7 ?_
    refine lv_icmp_ge (tgt := 45) hx hb dX1_enter_10 (by decide) (fun c1 => ?_) (fun c1 => ?_)
    · have hf := it_t c1 hf
      obtain ⟨rfl, rfl⟩ := Prod.mk.inj (Option.some.inj hf)
      exact ret_v X hP hD hS dX1_enter_45
    · have hf := it_f c1 hf
      refine lv_iload_n hx hb dX1_enter_13 rfl (lv_at hl 1 rfl) ?_
      refine lv_iload_n hx hb dX1_enter_14 rfl (lv_at hl 2 rfl) ?_
      obtain ⟨r2, s3, h4, hf⟩ := bo_e hf
      refine callSN_i X cs_X8_has kw497 (c_X8_has l D cA A ad ta σ x1 x2 r2 s3 h4) ⟨by decide, by decide⟩ ⟨rfl, rfl⟩ hP hD hS rfl hl rfl (Nat.le_of_ble_eq_true rfl) dX1_enter_15 ⟨by decide, by decide⟩ (fun H locs hP hD hS => ?_)
      refine lv_if_eq (tgt := 39) hx hb dX1_enter_18 (by decide) (fun c5 => ?_) (fun c5 => ?_)
      · have hf := it_t c5 hf
        exact t_X1_enter_39 X ih hf hP hD hS (lv_sub hl [0, 1, 2] rfl)
      · have hf := it_f c5 hf
        refine lv_aload_n hx hb dX1_enter_21 rfl (lv_at hl 0 rfl) ?_
        refine gC_Pla_cursor X hP kw174 dX1_enter_22 ?_
        refine lv_iload_n hx hb dX1_enter_25 rfl (lv_at hl 2 rfl) ?_
        refine lv_aload_n hx hb dX1_enter_26 rfl (lv_at hl 0 rfl) ?_
        refine gC_Pla_cursor X hP kw174 dX1_enter_27 ?_
        refine lv_iload_n hx hb dX1_enter_30 rfl (lv_at hl 2 rfl) ?_
        refine callSN_i X cs_X8_get kw475 (c_get l D cA A (wC cA ad) ta s3 32 (ad 32) 24 (gA s3 32) x2 (by decide) rfl) ⟨by decide, by decide⟩ ⟨rfl, rfl⟩ hP hD hS rfl hl rfl (Nat.le_of_ble_eq_true rfl) dX1_enter_31 ⟨by decide, by decide⟩ (fun H locs hP hD hS => ?_)
        refine lv_topi (fun y6 ey6 => ?_)
        have hf := bd_x ey6 hf
        refine lv_iconst (v := 1) hx hb dX1_enter_34 (by decide) ?_
        refine lv_iadd hx hb dX1_enter_35 ?_
        refine callSN_v X cs_X8_set kw474 (c_set l D cA A (wC cA ad) ta s3 32 (ad 32) 24 32 x2 (y6 + 1) (by decide) rfl (fun f => wC_a32 f)) ⟨by decide, by decide⟩ ⟨rfl, rfl⟩ hP hD hS rfl hl rfl (Nat.le_of_ble_eq_true rfl) dX1_enter_36 ⟨by decide, by decide⟩ (fun H locs hP hD hS => ?_)
        obtain ⟨s7, es7, hf⟩ := bd_e hf
        rw [← es7] at hP hD
        exact t_X1_enter_39 X ih hf hP hD hS (lv_sub hl [0, 1, 2] rfl)
set_option maxHeartbeats 4000000 in
set_option maxRecDepth 100000 in
theorem t_X1_enter_0  (X : Fx p s m meth c D cA A RX1 cX1_enter 3 none)  {x1 : Int32} { σ : St} {H : Heap} {locs : List Loc} {ls : Array Slot} (hf : F_X1_enter x1 σ = some (r, σ')) (hP : va_P D vwCl (wC cA ad ta σ) H) (hD : va_D A (wC cA ad ta σ)) (hS : va_S A s.heap H locs) (hl : lv_has ls 3 [(0, .ref (ad 5)), (1, .int x1)]) : W p l e (rm_X1_enter) s m args below meth c H locs 0 0 (MQ below (QV D cA A (wC cA ad) σ' ta) args s 0 0 A) (F0 m 0 ls []) := by
  obtain ⟨hx, hb, hr, hml, hown, hlk, hE, hK, hA⟩ := id X
  rw [F_X1_enter] at hf
  refine lv_iconst (v := 0) hx hb dX1_enter_0 (by decide) ?_
  refine lv_istore_n (lv' := [(2, .int 0), (0, .ref (ad 5)), (1, .int x1)]) hx hb dX1_enter_1 rfl hl (by decide) rfl (fun ls hl => ?_)
  exact t_X1_enter_2 X  5000 x1 0 σ _ _ _ hf hP hD hS (lv_sub hl [1, 2, 0] rfl)
end S_X1_enter
theorem c_X1_enter (l : Launch) (D : va_G) (cA : ClassId) (A : Nat → Prop) (ad : Nat → Nat) (ta : Nat) (σ : St) (x1 : Int32) (r : Int32) (σ' : St) (hf : F_X1_enter x1 σ = some (r, σ')) : MV l D cA A (wC cA ad) yX1_enter cX1_enter 3 none rm_X1_enter [.ref (ad 5), .int x1] ta σ σ' 0 0 := by
  refine enter (by decide) (Nat.le_of_ble_eq_true rfl) ?_
  intro p e s m below meth c ls X hnm hP hD hS hl
  exact t_X1_enter_0 X hf hP hD hS hl
abbrev rm_X1_needing : Room := { frames := 2, cells := 0, slots := 0, locals := 42 }
def F_X1_needing_47 (k4 : Int32 → Int32 → Int32 → St → Rs) (x1 : Int32) (x2 : Int32) (x3 : Int32) (σ : St) : Rs :=
  k4 x1 x2 (x3 + 1) σ
def F_X1_needing_4  : Nat → Int32 → Int32 → Int32 → St → Rs
  | 0, _, _, _, _ => none
  | n + 1, x1, x2, x3, σ => if (gF σ 8) ≤ x3 then (some (x2, σ)) else (bo (F_X8_has x1 x3 σ) (fun r2 s3 => if r2 = 0 then (F_X1_needing_47 (F_X1_needing_4 n) x1 x2 x3 s3) else (bd (rd 24 (gA s3 32) x3) (fun y6 => bo (F_X3_isVariable y6 s3) (fun r7 s8 => if r7 = 0 then (bd (x2 ||| (1 <<< (x3 &&& 31))) (fun y11 => F_X1_needing_47 (F_X1_needing_4 n) x1 y11 x3 s8)) else (F_X1_needing_47 (F_X1_needing_4 n) x1 x2 x3 s8))))))
def F_X1_needing (x1 : Int32) (σ : St) : Rs :=
  F_X1_needing_4 5000 x1 0 0 σ
section S_X1_needing
variable {p : Program} {l : Launch} {e : Env} {s : State} {m : MethodId} {args : Array Value} {below : List Frame} {meth : Method} {c : Code}
variable {D : va_G} {cA : ClassId} {A : Nat → Prop} {ad : Nat → Nat} {r : Int32} {σ' : St} {ta : Nat}
set_option maxHeartbeats 4000000 in
set_option maxRecDepth 100000 in
theorem t_X1_needing_47 {k4 : Int32 → Int32 → Int32 → St → Rs} (X : Fx p s m meth c D cA A RX1 cX1_needing 4 (some .int)) (K4 : ∀ (x1 x2 x3 : Int32) (σ : St) (H : Heap) (locs : List Loc) (ls : Array Slot), k4 x1 x2 x3 σ = some (r, σ') → va_P D vwCl (wC cA ad ta σ) H → va_D A (wC cA ad ta σ) → va_S A s.heap H locs → lv_has ls 4 [(0, .ref (ad 5)), (1, .int x1), (2, .int x2), (3, .int x3)] → W p l e (rm_X1_needing) s m args below meth c H locs 0 0 (MQ below (QI D cA A (wC cA ad) r σ' ta) args s 0 0 A) (F0 m 4 ls [])) {x1 x2 x3 : Int32} { σ : St} {H : Heap} {locs : List Loc} {ls : Array Slot} (hf : F_X1_needing_47 k4 x1 x2 x3 σ = some (r, σ')) (hP : va_P D vwCl (wC cA ad ta σ) H) (hD : va_D A (wC cA ad ta σ)) (hS : va_S A s.heap H locs) (hl : lv_has ls 4 [(0, .ref (ad 5)), (1, .int x1), (2, .int x2), (3, .int x3)]) : W p l e (rm_X1_needing) s m args below meth c H locs 0 0 (MQ below (QI D cA A (wC cA ad) r σ' ta) args s 0 0 A) (F0 m 47 ls []) := by
  obtain ⟨hx, hb, hr, hml, hown, hlk, hE, hK, hA⟩ := id X
  rw [F_X1_needing_47] at hf
  refine lv_iinc (v := (x3 + 1)) (lv' := [(3, .int (x3 + 1)), (0, .ref (ad 5)), (1, .int x1), (2, .int x2)]) hx hb dX1_needing_47 hl (k := 3) rfl rfl (by decide) rfl (fun ls hl => ?_)
  refine lv_goto (tgt := 4) hx hb dX1_needing_50 (by decide) ?_
  exact K4 x1 x2 (x3 + 1) σ _ _ _ hf hP hD hS (lv_sub hl [1, 2, 3, 0] rfl)
set_option maxHeartbeats 4000000 in
set_option maxRecDepth 100000 in
theorem t_X1_needing_4  (X : Fx p s m meth c D cA A RX1 cX1_needing 4 (some .int))  : ∀ (n : Nat) (x1 x2 x3 : Int32) (σ : St) (H : Heap) (locs : List Loc) (ls : Array Slot), F_X1_needing_4 n x1 x2 x3 σ = some (r, σ') → va_P D vwCl (wC cA ad ta σ) H → va_D A (wC cA ad ta σ) → va_S A s.heap H locs → lv_has ls 4 [(0, .ref (ad 5)), (1, .int x1), (2, .int x2), (3, .int x3)] → W p l e (rm_X1_needing) s m args below meth c H locs 0 0 (MQ below (QI D cA A (wC cA ad) r σ' ta) args s 0 0 A) (F0 m 4 ls []) := by
  obtain ⟨hx, hb, hr, hml, hown, hlk, hE, hK, hA⟩ := id X
  intro n
  induction n with
  | zero =>
    intro x1 x2 x3 σ H locs ls hf
    cases (show (none : Rs) = some _ from hf)
  | succ n ih =>
    intro x1 x2 x3 σ H locs ls hf hP hD hS hl
    rw [F_X1_needing_4] at hf
    refine lv_iload_n hx hb dX1_needing_4 rfl (lv_at hl 3 rfl) ?_
    refine lv_aload_n hx hb dX1_needing_5 rfl (lv_at hl 0 rfl) ?_
    refine gC_Pla_rules X hP kw169 dX1_needing_6 ?_
    refine gCN_Rul_many X hP kw112 dX1_needing_9 ?_
    refine lv_icmp_ge (tgt := 53) hx hb dX1_needing_12 (by decide) (fun c1 => ?_) (fun c1 => ?_)
    · have hf := it_t c1 hf
      refine lv_iload_n hx hb dX1_needing_53 rfl (lv_at hl 2 rfl) ?_
      obtain ⟨rfl, rfl⟩ := Prod.mk.inj (Option.some.inj hf)
      exact ret_i X hP hD hS dX1_needing_54
    · have hf := it_f c1 hf
      refine lv_iload_n hx hb dX1_needing_15 rfl (lv_at hl 1 rfl) ?_
      refine lv_iload_n hx hb dX1_needing_16 rfl (lv_at hl 3 rfl) ?_
      obtain ⟨r2, s3, h4, hf⟩ := bo_e hf
      refine callSN_i X cs_X8_has kw497 (c_X8_has l D cA A ad ta σ x1 x3 r2 s3 h4) ⟨by decide, by decide⟩ ⟨rfl, rfl⟩ hP hD hS rfl hl rfl (Nat.le_of_ble_eq_true rfl) dX1_needing_17 ⟨by decide, by decide⟩ (fun H locs hP hD hS => ?_)
      refine lv_if_eq (tgt := 47) hx hb dX1_needing_20 (by decide) (fun c5 => ?_) (fun c5 => ?_)
      · have hf := it_t c5 hf
        exact t_X1_needing_47 X ih hf hP hD hS (lv_sub hl [0, 1, 2, 3] rfl)
      · have hf := it_f c5 hf
        refine lv_aload_n hx hb dX1_needing_23 rfl (lv_at hl 0 rfl) ?_
        refine gC_Pla_rules X hP kw169 dX1_needing_24 ?_
        refine lv_aload_n hx hb dX1_needing_27 rfl (lv_at hl 0 rfl) ?_
        refine gC_Pla_cursor X hP kw174 dX1_needing_28 ?_
        refine lv_iload_n hx hb dX1_needing_31 rfl (lv_at hl 3 rfl) ?_
        refine callSN_i X cs_X8_get kw475 (c_get l D cA A (wC cA ad) ta s3 32 (ad 32) 24 (gA s3 32) x3 (by decide) rfl) ⟨by decide, by decide⟩ ⟨rfl, rfl⟩ hP hD hS rfl hl rfl (Nat.le_of_ble_eq_true rfl) dX1_needing_32 ⟨by decide, by decide⟩ (fun H locs hP hD hS => ?_)
        refine lv_topi (fun y6 ey6 => ?_)
        have hf := bd_x ey6 hf
        obtain ⟨r7, s8, h9, hf⟩ := bo_e hf
        refine callVN_i X cv_X3_isVariable kw513 (c_X3_isVariable l D cA A ad ta s3 y6 r7 s8 h9) ⟨by decide, by decide⟩ ⟨rfl, rfl⟩ hP hD hS (q0 := 3) (ci := 3) rfl rfl rfl rfl hl rfl (Nat.le_of_ble_eq_true rfl) dX1_needing_35 ⟨by decide, by decide⟩ (fun H locs hP hD hS => ?_)
        refine lv_if_ne (tgt := 47) hx hb dX1_needing_38 (by decide) (fun c10 => ?_) (fun c10 => ?_)
        · have hf := it_f c10 hf
          exact t_X1_needing_47 X ih hf hP hD hS (lv_sub hl [0, 1, 2, 3] rfl)
        · have hf := it_t c10 hf
          refine lv_iload_n hx hb dX1_needing_41 rfl (lv_at hl 2 rfl) ?_
          refine lv_iconst (v := 1) hx hb dX1_needing_42 (by decide) ?_
          refine lv_iload_n hx hb dX1_needing_43 rfl (lv_at hl 3 rfl) ?_
          refine lv_ishl hx hb dX1_needing_44 ?_
          refine lv_ior hx hb dX1_needing_45 ?_
          refine lv_topi (fun y11 ey11 => ?_)
          have hf := bd_x ey11 hf
          refine lv_istore_n (lv' := [(2, .int y11), (0, .ref (ad 5)), (1, .int x1), (3, .int x3)]) hx hb dX1_needing_46 rfl hl (by decide) rfl (fun ls hl => ?_)
          exact t_X1_needing_47 X ih hf hP hD hS (lv_sub hl [1, 2, 0, 3] rfl)
set_option maxHeartbeats 4000000 in
set_option maxRecDepth 100000 in
theorem t_X1_needing_0  (X : Fx p s m meth c D cA A RX1 cX1_needing 4 (some .int))  {x1 : Int32} { σ : St} {H : Heap} {locs : List Loc} {ls : Array Slot} (hf : F_X1_needing x1 σ = some (r, σ')) (hP : va_P D vwCl (wC cA ad ta σ) H) (hD : va_D A (wC cA ad ta σ)) (hS : va_S A s.heap H locs) (hl : lv_has ls 4 [(0, .ref (ad 5)), (1, .int x1)]) : W p l e (rm_X1_needing) s m args below meth c H locs 0 0 (MQ below (QI D cA A (wC cA ad) r σ' ta) args s 0 0 A) (F0 m 0 ls []) := by
  obtain ⟨hx, hb, hr, hml, hown, hlk, hE, hK, hA⟩ := id X
  rw [F_X1_needing] at hf
  refine lv_iconst (v := 0) hx hb dX1_needing_0 (by decide) ?_
  refine lv_istore_n (lv' := [(2, .int 0), (0, .ref (ad 5)), (1, .int x1)]) hx hb dX1_needing_1 rfl hl (by decide) rfl (fun ls hl => ?_)
  refine lv_iconst (v := 0) hx hb dX1_needing_2 (by decide) ?_
  refine lv_istore_n (lv' := [(3, .int 0), (2, .int 0), (0, .ref (ad 5)), (1, .int x1)]) hx hb dX1_needing_3 rfl hl (by decide) rfl (fun ls hl => ?_)
  exact t_X1_needing_4 X  5000 x1 0 0 σ _ _ _ hf hP hD hS (lv_sub hl [2, 3, 1, 0] rfl)
end S_X1_needing
theorem c_X1_needing (l : Launch) (D : va_G) (cA : ClassId) (A : Nat → Prop) (ad : Nat → Nat) (ta : Nat) (σ : St) (x1 : Int32) (r : Int32) (σ' : St) (hf : F_X1_needing x1 σ = some (r, σ')) : MI l D cA A (wC cA ad) yX1_needing cX1_needing 4 (some .int) rm_X1_needing [.ref (ad 5), .int x1] ta σ r σ' 0 0 := by
  refine enter (by decide) (Nat.le_of_ble_eq_true rfl) ?_
  intro p e s m below meth c ls X hnm hP hD hS hl
  exact t_X1_needing_0 X hf hP hD hS hl
abbrev rm_X1_pass : Room := { frames := 1, cells := 0, slots := 0, locals := 22 }
def F_X1_pass_47 (k2 : Int32 → Int32 → St → Rs) (x1 : Int32) (x2 : Int32) (σ : St) : Rs :=
  k2 x1 (x2 + 1) σ
def F_X1_pass_2  : Nat → Int32 → Int32 → St → Rs
  | 0, _, _, _ => none
  | n + 1, x1, x2, σ => if (gF σ 8) ≤ x2 then (some (0, σ)) else (bo (F_X8_has x1 x2 σ) (fun r2 s3 => if r2 = 0 then (F_X1_pass_47 (F_X1_pass_2 n) x1 x2 s3) else (bd (rd 24 (gA s3 32) x2) (fun y6 => bd (rd 512 (gA s3 21) y6) (fun y7 => bd (sA s3 32 (wr 24 (gA s3 32) x2 y7)) (fun s8 => F_X1_pass_47 (F_X1_pass_2 n) x1 x2 s8))))))
def F_X1_pass (x1 : Int32) (σ : St) : Rs :=
  F_X1_pass_2 5000 x1 0 σ
section S_X1_pass
variable {p : Program} {l : Launch} {e : Env} {s : State} {m : MethodId} {args : Array Value} {below : List Frame} {meth : Method} {c : Code}
variable {D : va_G} {cA : ClassId} {A : Nat → Prop} {ad : Nat → Nat} {r : Int32} {σ' : St} {ta : Nat}
set_option maxHeartbeats 4000000 in
set_option maxRecDepth 100000 in
theorem t_X1_pass_47 {k2 : Int32 → Int32 → St → Rs} (X : Fx p s m meth c D cA A RX1 cX1_pass 3 none) (K2 : ∀ (x1 x2 : Int32) (σ : St) (H : Heap) (locs : List Loc) (ls : Array Slot), k2 x1 x2 σ = some (r, σ') → va_P D vwCl (wC cA ad ta σ) H → va_D A (wC cA ad ta σ) → va_S A s.heap H locs → lv_has ls 3 [(0, .ref (ad 5)), (1, .int x1), (2, .int x2)] → W p l e (rm_X1_pass) s m args below meth c H locs 0 0 (MQ below (QV D cA A (wC cA ad) σ' ta) args s 0 0 A) (F0 m 2 ls [])) {x1 x2 : Int32} { σ : St} {H : Heap} {locs : List Loc} {ls : Array Slot} (hf : F_X1_pass_47 k2 x1 x2 σ = some (r, σ')) (hP : va_P D vwCl (wC cA ad ta σ) H) (hD : va_D A (wC cA ad ta σ)) (hS : va_S A s.heap H locs) (hl : lv_has ls 3 [(0, .ref (ad 5)), (1, .int x1), (2, .int x2)]) : W p l e (rm_X1_pass) s m args below meth c H locs 0 0 (MQ below (QV D cA A (wC cA ad) σ' ta) args s 0 0 A) (F0 m 47 ls []) := by
  obtain ⟨hx, hb, hr, hml, hown, hlk, hE, hK, hA⟩ := id X
  rw [F_X1_pass_47] at hf
  refine lv_iinc (v := (x2 + 1)) (lv' := [(2, .int (x2 + 1)), (0, .ref (ad 5)), (1, .int x1)]) hx hb dX1_pass_47 hl (k := 2) rfl rfl (by decide) rfl (fun ls hl => ?_)
  refine lv_goto (tgt := 2) hx hb dX1_pass_50 (by decide) ?_
  exact K2 x1 (x2 + 1) σ _ _ _ hf hP hD hS (lv_sub hl [1, 2, 0] rfl)
set_option maxHeartbeats 4000000 in
set_option maxRecDepth 100000 in
theorem t_X1_pass_2  (X : Fx p s m meth c D cA A RX1 cX1_pass 3 none)  : ∀ (n : Nat) (x1 x2 : Int32) (σ : St) (H : Heap) (locs : List Loc) (ls : Array Slot), F_X1_pass_2 n x1 x2 σ = some (r, σ') → va_P D vwCl (wC cA ad ta σ) H → va_D A (wC cA ad ta σ) → va_S A s.heap H locs → lv_has ls 3 [(0, .ref (ad 5)), (1, .int x1), (2, .int x2)] → W p l e (rm_X1_pass) s m args below meth c H locs 0 0 (MQ below (QV D cA A (wC cA ad) σ' ta) args s 0 0 A) (F0 m 2 ls []) := by
  obtain ⟨hx, hb, hr, hml, hown, hlk, hE, hK, hA⟩ := id X
  intro n
  induction n with
  | zero =>
    intro x1 x2 σ H locs ls hf
    cases (show (none : Rs) = some _ from hf)
  | succ n ih =>
    intro x1 x2 σ H locs ls hf hP hD hS hl
    rw [F_X1_pass_2] at hf
    refine lv_iload_n hx hb dX1_pass_2 rfl (lv_at hl 2 rfl) ?_
    refine lv_aload_n hx hb dX1_pass_3 rfl (lv_at hl 0 rfl) ?_
    refine gC_Pla_rules X hP kw169 dX1_pass_4 ?_
    refine gCN_Rul_many X hP kw112 dX1_pass_7 ?_
    refine lv_icmp_ge (tgt := 53) hx hb dX1_pass_10 (by decide) (fun c1 => ?_) (fun c1 => ?_)
    · have hf := it_t c1 hf
      obtain ⟨rfl, rfl⟩ := Prod.mk.inj (Option.some.inj hf)
      exact ret_v X hP hD hS dX1_pass_53
    · have hf := it_f c1 hf
      refine lv_iload_n hx hb dX1_pass_13 rfl (lv_at hl 1 rfl) ?_
      refine lv_iload_n hx hb dX1_pass_14 rfl (lv_at hl 2 rfl) ?_
      obtain ⟨r2, s3, h4, hf⟩ := bo_e hf
      refine callSN_i X cs_X8_has kw497 (c_X8_has l D cA A ad ta σ x1 x2 r2 s3 h4) ⟨by decide, by decide⟩ ⟨rfl, rfl⟩ hP hD hS rfl hl rfl (Nat.le_of_ble_eq_true rfl) dX1_pass_15 ⟨by decide, by decide⟩ (fun H locs hP hD hS => ?_)
      refine lv_if_eq (tgt := 47) hx hb dX1_pass_18 (by decide) (fun c5 => ?_) (fun c5 => ?_)
      · have hf := it_t c5 hf
        exact t_X1_pass_47 X ih hf hP hD hS (lv_sub hl [0, 1, 2] rfl)
      · have hf := it_f c5 hf
        refine lv_aload_n hx hb dX1_pass_21 rfl (lv_at hl 0 rfl) ?_
        refine gC_Pla_cursor X hP kw174 dX1_pass_22 ?_
        refine lv_iload_n hx hb dX1_pass_25 rfl (lv_at hl 2 rfl) ?_
        refine lv_aload_n hx hb dX1_pass_26 rfl (lv_at hl 0 rfl) ?_
        refine gC_Pla_rules X hP kw169 dX1_pass_27 ?_
        refine gCN_Rul_end X hP kw107 dX1_pass_30 ?_
        refine lv_aload_n hx hb dX1_pass_33 rfl (lv_at hl 0 rfl) ?_
        refine gC_Pla_cursor X hP kw174 dX1_pass_34 ?_
        refine lv_iload_n hx hb dX1_pass_37 rfl (lv_at hl 2 rfl) ?_
        refine callSN_i X cs_X8_get kw475 (c_get l D cA A (wC cA ad) ta s3 32 (ad 32) 24 (gA s3 32) x2 (by decide) rfl) ⟨by decide, by decide⟩ ⟨rfl, rfl⟩ hP hD hS rfl hl rfl (Nat.le_of_ble_eq_true rfl) dX1_pass_38 ⟨by decide, by decide⟩ (fun H locs hP hD hS => ?_)
        refine lv_topi (fun y6 ey6 => ?_)
        have hf := bd_x ey6 hf
        refine callSN_i X cs_X8_get kw475 (c_get l D cA A (wC cA ad) ta s3 21 (ad 21) 512 (gA s3 21) y6 (by decide) rfl) ⟨by decide, by decide⟩ ⟨rfl, rfl⟩ hP hD hS rfl hl rfl (Nat.le_of_ble_eq_true rfl) dX1_pass_41 ⟨by decide, by decide⟩ (fun H locs hP hD hS => ?_)
        refine lv_topi (fun y7 ey7 => ?_)
        have hf := bd_x ey7 hf
        refine callSN_v X cs_X8_set kw474 (c_set l D cA A (wC cA ad) ta s3 32 (ad 32) 24 32 x2 y7 (by decide) rfl (fun f => wC_a32 f)) ⟨by decide, by decide⟩ ⟨rfl, rfl⟩ hP hD hS rfl hl rfl (Nat.le_of_ble_eq_true rfl) dX1_pass_44 ⟨by decide, by decide⟩ (fun H locs hP hD hS => ?_)
        obtain ⟨s8, es8, hf⟩ := bd_e hf
        rw [← es8] at hP hD
        exact t_X1_pass_47 X ih hf hP hD hS (lv_sub hl [0, 1, 2] rfl)
set_option maxHeartbeats 4000000 in
set_option maxRecDepth 100000 in
theorem t_X1_pass_0  (X : Fx p s m meth c D cA A RX1 cX1_pass 3 none)  {x1 : Int32} { σ : St} {H : Heap} {locs : List Loc} {ls : Array Slot} (hf : F_X1_pass x1 σ = some (r, σ')) (hP : va_P D vwCl (wC cA ad ta σ) H) (hD : va_D A (wC cA ad ta σ)) (hS : va_S A s.heap H locs) (hl : lv_has ls 3 [(0, .ref (ad 5)), (1, .int x1)]) : W p l e (rm_X1_pass) s m args below meth c H locs 0 0 (MQ below (QV D cA A (wC cA ad) σ' ta) args s 0 0 A) (F0 m 0 ls []) := by
  obtain ⟨hx, hb, hr, hml, hown, hlk, hE, hK, hA⟩ := id X
  rw [F_X1_pass] at hf
  refine lv_iconst (v := 0) hx hb dX1_pass_0 (by decide) ?_
  refine lv_istore_n (lv' := [(2, .int 0), (0, .ref (ad 5)), (1, .int x1)]) hx hb dX1_pass_1 rfl hl (by decide) rfl (fun ls hl => ?_)
  exact t_X1_pass_2 X  5000 x1 0 σ _ _ _ hf hP hD hS (lv_sub hl [1, 2, 0] rfl)
end S_X1_pass
theorem c_X1_pass (l : Launch) (D : va_G) (cA : ClassId) (A : Nat → Prop) (ad : Nat → Nat) (ta : Nat) (σ : St) (x1 : Int32) (r : Int32) (σ' : St) (hf : F_X1_pass x1 σ = some (r, σ')) : MV l D cA A (wC cA ad) yX1_pass cX1_pass 3 none rm_X1_pass [.ref (ad 5), .int x1] ta σ σ' 0 0 := by
  refine enter (by decide) (Nat.le_of_ble_eq_true rfl) ?_
  intro p e s m below meth c ls X hnm hP hD hS hl
  exact t_X1_pass_0 X hf hP hD hS hl
abbrev rm_X1_takePosition : Room := { frames := 3, cells := 0, slots := 0, locals := 65 }
def F_X1_takePosition_101 (k15 : Int32 → Int32 → Int32 → Int32 → St → Rs) (x1 : Int32) (x2 : Int32) (x3 : Int32) (x4 : Int32) (σ : St) : Rs :=
  k15 x1 x2 x3 (x4 + 1) σ
def F_X1_takePosition_95 (k15 : Int32 → Int32 → Int32 → Int32 → St → Rs) (x1 : Int32) (x2 : Int32) (x4 : Int32) (z0 : Int32) (σ : St) : Rs :=
  bo (F_X1_pass x1 σ) (fun r1 s2 => F_X1_takePosition_101 k15 x1 x2 z0 x4 s2)
def F_X1_takePosition_15  : Nat → Int32 → Int32 → Int32 → Int32 → St → Rs
  | 0, _, _, _, _, _ => none
  | n + 1, x1, x2, x3, x4, σ => if 160 ≤ x4 then (some (x3, σ)) else (bd (rd 24 (gA σ 32) x2) (fun y2 => bo (F_X3_start (x2 + 1) σ) (fun r3 s4 => if r3 ≤ y2 then (some (x3, s4)) else (bd (rd 24 (gA s4 32) x2) (fun y7 => bo (F_X3_isAsked y7 s4) (fun r8 s9 => if r8 = 0 then (bo (F_X1_needing x1 s9) (fun r12 s13 => if r12 = x1 then (some (x1, s13)) else (if x3 = 0 then (F_X1_takePosition_95 (F_X1_takePosition_15 n) x1 x2 x4 r12 s13) else (F_X1_takePosition_95 (F_X1_takePosition_15 n) x1 x2 x4 x3 s13)))) else (bo (F_X1_enter x1 s9) (fun r17 s18 => F_X1_takePosition_101 (F_X1_takePosition_15 n) x1 x2 x3 x4 s18))))))))
def F_X1_takePosition (x1 : Int32) (σ : St) : Rs :=
  bo (F_X1_firstOf x1 σ) (fun r1 s2 => bo (F_X1_startCursors x1 s2) (fun r4 s5 => F_X1_takePosition_15 5000 x1 r1 0 0 s5))
section S_X1_takePosition
variable {p : Program} {l : Launch} {e : Env} {s : State} {m : MethodId} {args : Array Value} {below : List Frame} {meth : Method} {c : Code}
variable {D : va_G} {cA : ClassId} {A : Nat → Prop} {ad : Nat → Nat} {r : Int32} {σ' : St} {ta : Nat}
set_option maxHeartbeats 4000000 in
set_option maxRecDepth 100000 in
theorem t_X1_takePosition_101 {k15 : Int32 → Int32 → Int32 → Int32 → St → Rs} (X : Fx p s m meth c D cA A RX1 cX1_takePosition 6 (some .int)) (K15 : ∀ (x1 x2 x3 x4 : Int32) (σ : St) (H : Heap) (locs : List Loc) (ls : Array Slot), k15 x1 x2 x3 x4 σ = some (r, σ') → va_P D vwCl (wC cA ad ta σ) H → va_D A (wC cA ad ta σ) → va_S A s.heap H locs → lv_has ls 6 [(0, .ref (ad 5)), (1, .int x1), (2, .int x2), (3, .int x3), (4, .int x4)] → W p l e (rm_X1_takePosition) s m args below meth c H locs 0 0 (MQ below (QI D cA A (wC cA ad) r σ' ta) args s 0 0 A) (F0 m 15 ls [])) {x1 x2 x3 x4 : Int32} { σ : St} {H : Heap} {locs : List Loc} {ls : Array Slot} (hf : F_X1_takePosition_101 k15 x1 x2 x3 x4 σ = some (r, σ')) (hP : va_P D vwCl (wC cA ad ta σ) H) (hD : va_D A (wC cA ad ta σ)) (hS : va_S A s.heap H locs) (hl : lv_has ls 6 [(0, .ref (ad 5)), (1, .int x1), (2, .int x2), (3, .int x3), (4, .int x4)]) : W p l e (rm_X1_takePosition) s m args below meth c H locs 0 0 (MQ below (QI D cA A (wC cA ad) r σ' ta) args s 0 0 A) (F0 m 101 ls []) := by
  obtain ⟨hx, hb, hr, hml, hown, hlk, hE, hK, hA⟩ := id X
  rw [F_X1_takePosition_101] at hf
  refine lv_iinc (v := (x4 + 1)) (lv' := [(4, .int (x4 + 1)), (0, .ref (ad 5)), (1, .int x1), (2, .int x2), (3, .int x3)]) hx hb dX1_takePosition_101 hl (k := 4) rfl rfl (by decide) rfl (fun ls hl => ?_)
  refine lv_goto (tgt := 15) hx hb dX1_takePosition_104 (by decide) ?_
  exact K15 x1 x2 x3 (x4 + 1) σ _ _ _ hf hP hD hS (lv_sub hl [1, 2, 3, 4, 0] rfl)
set_option maxHeartbeats 4000000 in
set_option maxRecDepth 100000 in
theorem t_X1_takePosition_95 {k15 : Int32 → Int32 → Int32 → Int32 → St → Rs} (X : Fx p s m meth c D cA A RX1 cX1_takePosition 6 (some .int)) (K15 : ∀ (x1 x2 x3 x4 : Int32) (σ : St) (H : Heap) (locs : List Loc) (ls : Array Slot), k15 x1 x2 x3 x4 σ = some (r, σ') → va_P D vwCl (wC cA ad ta σ) H → va_D A (wC cA ad ta σ) → va_S A s.heap H locs → lv_has ls 6 [(0, .ref (ad 5)), (1, .int x1), (2, .int x2), (3, .int x3), (4, .int x4)] → W p l e (rm_X1_takePosition) s m args below meth c H locs 0 0 (MQ below (QI D cA A (wC cA ad) r σ' ta) args s 0 0 A) (F0 m 15 ls [])) {x1 x2 x4 z0 : Int32} { σ : St} {H : Heap} {locs : List Loc} {ls : Array Slot} (hf : F_X1_takePosition_95 k15 x1 x2 x4 z0 σ = some (r, σ')) (hP : va_P D vwCl (wC cA ad ta σ) H) (hD : va_D A (wC cA ad ta σ)) (hS : va_S A s.heap H locs) (hl : lv_has ls 6 [(0, .ref (ad 5)), (1, .int x1), (2, .int x2), (4, .int x4)]) : W p l e (rm_X1_takePosition) s m args below meth c H locs 0 0 (MQ below (QI D cA A (wC cA ad) r σ' ta) args s 0 0 A) (F0 m 95 ls [.int z0]) := by
  obtain ⟨hx, hb, hr, hml, hown, hlk, hE, hK, hA⟩ := id X
  rw [F_X1_takePosition_95] at hf
  refine lv_istore_n (lv' := [(3, .int z0), (0, .ref (ad 5)), (1, .int x1), (2, .int x2), (4, .int x4)]) hx hb dX1_takePosition_95 rfl hl (by decide) rfl (fun ls hl => ?_)
  refine lv_aload_n hx hb dX1_takePosition_96 rfl (lv_at hl 1 rfl) ?_
  refine lv_iload_n hx hb dX1_takePosition_97 rfl (lv_at hl 2 rfl) ?_
  obtain ⟨r1, s2, h3, hf⟩ := bo_e hf
  refine callV_v X cv_X1_pass kw517 (c_X1_pass l D cA A ad ta σ x1 r1 s2 h3) ⟨by decide, by decide⟩ ⟨rfl, rfl⟩ hP hD hS (q0 := 5) (ci := 1) rfl rfl rfl rfl hl rfl (Nat.le_of_ble_eq_true rfl) dX1_takePosition_98 ⟨by decide, by decide⟩ (fun H locs hP hD hS => ?_)
  exact t_X1_takePosition_101 X K15 hf hP hD hS (lv_sub hl [1, 2, 3, 0, 4] rfl)
set_option maxHeartbeats 4000000 in
set_option maxRecDepth 100000 in
theorem t_X1_takePosition_15  (X : Fx p s m meth c D cA A RX1 cX1_takePosition 6 (some .int))  : ∀ (n : Nat) (x1 x2 x3 x4 : Int32) (σ : St) (H : Heap) (locs : List Loc) (ls : Array Slot), F_X1_takePosition_15 n x1 x2 x3 x4 σ = some (r, σ') → va_P D vwCl (wC cA ad ta σ) H → va_D A (wC cA ad ta σ) → va_S A s.heap H locs → lv_has ls 6 [(0, .ref (ad 5)), (1, .int x1), (2, .int x2), (3, .int x3), (4, .int x4)] → W p l e (rm_X1_takePosition) s m args below meth c H locs 0 0 (MQ below (QI D cA A (wC cA ad) r σ' ta) args s 0 0 A) (F0 m 15 ls []) := by
  obtain ⟨hx, hb, hr, hml, hown, hlk, hE, hK, hA⟩ := id X
  intro n
  induction n with
  | zero =>
    intro x1 x2 x3 x4 σ H locs ls hf
    cases (show (none : Rs) = some _ from hf)
  | succ n ih =>
    intro x1 x2 x3 x4 σ H locs ls hf hP hD hS hl
    rw [F_X1_takePosition_15] at hf
    refine lv_iload hx hb dX1_takePosition_15 (lv_at hl 4 rfl) ?_
    refine lv_sipush (v := 160) hx hb dX1_takePosition_17 (by decide) ?_
    refine lv_icmp_ge (tgt := 107) hx hb dX1_takePosition_20 (by decide) (fun c1 => ?_) (fun c1 => ?_)
    · have hf := it_t c1 hf
      refine lv_iload_n hx hb dX1_takePosition_107 rfl (lv_at hl 3 rfl) ?_
      obtain ⟨rfl, rfl⟩ := Prod.mk.inj (Option.some.inj hf)
      exact ret_i X hP hD hS dX1_takePosition_108
    · have hf := it_f c1 hf
      refine lv_aload_n hx hb dX1_takePosition_23 rfl (lv_at hl 0 rfl) ?_
      refine gC_Pla_cursor X hP kw174 dX1_takePosition_24 ?_
      refine lv_iload_n hx hb dX1_takePosition_27 rfl (lv_at hl 2 rfl) ?_
      refine callSN_i X cs_X8_get kw475 (c_get l D cA A (wC cA ad) ta σ 32 (ad 32) 24 (gA σ 32) x2 (by decide) rfl) ⟨by decide, by decide⟩ ⟨rfl, rfl⟩ hP hD hS rfl hl rfl (Nat.le_of_ble_eq_true rfl) dX1_takePosition_28 ⟨by decide, by decide⟩ (fun H locs hP hD hS => ?_)
      refine lv_topi (fun y2 ey2 => ?_)
      have hf := bd_x ey2 hf
      refine lv_aload_n hx hb dX1_takePosition_31 rfl (lv_at hl 0 rfl) ?_
      refine gC_Pla_rules X hP kw169 dX1_takePosition_32 ?_
      refine lv_iload_n hx hb dX1_takePosition_35 rfl (lv_at hl 2 rfl) ?_
      refine lv_iconst (v := 1) hx hb dX1_takePosition_36 (by decide) ?_
      refine lv_iadd hx hb dX1_takePosition_37 ?_
      obtain ⟨r3, s4, h5, hf⟩ := bo_e hf
      refine callVN_i X cv_X3_start kw500 (c_X3_start l D cA A ad ta σ (x2 + 1) r3 s4 h5) ⟨by decide, by decide⟩ ⟨rfl, rfl⟩ hP hD hS (q0 := 3) (ci := 3) rfl rfl rfl rfl hl rfl (Nat.le_of_ble_eq_true rfl) dX1_takePosition_38 ⟨by decide, by decide⟩ (fun H locs hP hD hS => ?_)
      refine lv_icmp_ge (tgt := 107) hx hb dX1_takePosition_41 (by decide) (fun c6 => ?_) (fun c6 => ?_)
      · have hf := it_t c6 hf
        refine lv_iload_n hx hb dX1_takePosition_107 rfl (lv_at hl 3 rfl) ?_
        obtain ⟨rfl, rfl⟩ := Prod.mk.inj (Option.some.inj hf)
        exact ret_i X hP hD hS dX1_takePosition_108
      · have hf := it_f c6 hf
        refine lv_aload_n hx hb dX1_takePosition_44 rfl (lv_at hl 0 rfl) ?_
        refine gC_Pla_rules X hP kw169 dX1_takePosition_45 ?_
        refine lv_aload_n hx hb dX1_takePosition_48 rfl (lv_at hl 0 rfl) ?_
        refine gC_Pla_cursor X hP kw174 dX1_takePosition_49 ?_
        refine lv_iload_n hx hb dX1_takePosition_52 rfl (lv_at hl 2 rfl) ?_
        refine callSN_i X cs_X8_get kw475 (c_get l D cA A (wC cA ad) ta s4 32 (ad 32) 24 (gA s4 32) x2 (by decide) rfl) ⟨by decide, by decide⟩ ⟨rfl, rfl⟩ hP hD hS rfl hl rfl (Nat.le_of_ble_eq_true rfl) dX1_takePosition_53 ⟨by decide, by decide⟩ (fun H locs hP hD hS => ?_)
        refine lv_topi (fun y7 ey7 => ?_)
        have hf := bd_x ey7 hf
        obtain ⟨r8, s9, h10, hf⟩ := bo_e hf
        refine callVN_i X cv_X3_isAsked kw501 (c_X3_isAsked l D cA A ad ta s4 y7 r8 s9 h10) ⟨by decide, by decide⟩ ⟨rfl, rfl⟩ hP hD hS (q0 := 3) (ci := 3) rfl rfl rfl rfl hl rfl (Nat.le_of_ble_eq_true rfl) dX1_takePosition_56 ⟨by decide, by decide⟩ (fun H locs hP hD hS => ?_)
        refine lv_if_eq (tgt := 70) hx hb dX1_takePosition_59 (by decide) (fun c11 => ?_) (fun c11 => ?_)
        · have hf := it_t c11 hf
          refine lv_aload_n hx hb dX1_takePosition_70 rfl (lv_at hl 0 rfl) ?_
          refine lv_iload_n hx hb dX1_takePosition_71 rfl (lv_at hl 1 rfl) ?_
          obtain ⟨r12, s13, h14, hf⟩ := bo_e hf
          refine callV_i X cv_X1_needing kw509 (c_X1_needing l D cA A ad ta s9 x1 r12 s13 h14) ⟨by decide, by decide⟩ ⟨rfl, rfl⟩ hP hD hS (q0 := 5) (ci := 1) rfl rfl rfl rfl hl rfl (Nat.le_of_ble_eq_true rfl) dX1_takePosition_72 ⟨by decide, by decide⟩ (fun H locs hP hD hS => ?_)
          refine lv_istore (lv' := [(5, .int r12), (0, .ref (ad 5)), (1, .int x1), (2, .int x2), (3, .int x3), (4, .int x4)]) hx hb dX1_takePosition_75 hl (by decide) rfl (fun ls hl => ?_)
          refine lv_iload hx hb dX1_takePosition_77 (lv_at hl 0 rfl) ?_
          refine lv_iload_n hx hb dX1_takePosition_79 rfl (lv_at hl 2 rfl) ?_
          refine lv_icmp_ne (tgt := 85) hx hb dX1_takePosition_80 (by decide) (fun c15 => ?_) (fun c15 => ?_)
          · have hf := it_f c15 hf
            refine lv_iload_n hx hb dX1_takePosition_85 rfl (lv_at hl 4 rfl) ?_
            refine lv_if_ne (tgt := 94) hx hb dX1_takePosition_86 (by decide) (fun c16 => ?_) (fun c16 => ?_)
            · have hf := it_f c16 hf
              refine lv_iload_n hx hb dX1_takePosition_94 rfl (lv_at hl 4 rfl) ?_
              exact t_X1_takePosition_95 X ih hf hP hD hS (lv_sub hl [1, 2, 3, 5] rfl)
            · have hf := it_t c16 hf
              refine lv_iload hx hb dX1_takePosition_89 (lv_at hl 0 rfl) ?_
              refine lv_goto (tgt := 95) hx hb dX1_takePosition_91 (by decide) ?_
              exact t_X1_takePosition_95 X ih hf hP hD hS (lv_sub hl [1, 2, 3, 5] rfl)
          · have hf := it_t c15 hf
            refine lv_iload_n hx hb dX1_takePosition_83 rfl (lv_at hl 2 rfl) ?_
            obtain ⟨rfl, rfl⟩ := Prod.mk.inj (Option.some.inj hf)
            exact ret_i X hP hD hS dX1_takePosition_84
        · have hf := it_f c11 hf
          refine lv_aload_n hx hb dX1_takePosition_62 rfl (lv_at hl 0 rfl) ?_
          refine lv_iload_n hx hb dX1_takePosition_63 rfl (lv_at hl 1 rfl) ?_
          obtain ⟨r17, s18, h19, hf⟩ := bo_e hf
          refine callV_v X cv_X1_enter kw505 (c_X1_enter l D cA A ad ta s9 x1 r17 s18 h19) ⟨by decide, by decide⟩ ⟨rfl, rfl⟩ hP hD hS (q0 := 5) (ci := 1) rfl rfl rfl rfl hl rfl (Nat.le_of_ble_eq_true rfl) dX1_takePosition_64 ⟨by decide, by decide⟩ (fun H locs hP hD hS => ?_)
          refine lv_goto (tgt := 101) hx hb dX1_takePosition_67 (by decide) ?_
          exact t_X1_takePosition_101 X ih hf hP hD hS (lv_sub hl [0, 1, 2, 3, 4] rfl)
set_option maxHeartbeats 4000000 in
set_option maxRecDepth 100000 in
theorem t_X1_takePosition_0  (X : Fx p s m meth c D cA A RX1 cX1_takePosition 6 (some .int))  {x1 : Int32} { σ : St} {H : Heap} {locs : List Loc} {ls : Array Slot} (hf : F_X1_takePosition x1 σ = some (r, σ')) (hP : va_P D vwCl (wC cA ad ta σ) H) (hD : va_D A (wC cA ad ta σ)) (hS : va_S A s.heap H locs) (hl : lv_has ls 6 [(0, .ref (ad 5)), (1, .int x1)]) : W p l e (rm_X1_takePosition) s m args below meth c H locs 0 0 (MQ below (QI D cA A (wC cA ad) r σ' ta) args s 0 0 A) (F0 m 0 ls []) := by
  obtain ⟨hx, hb, hr, hml, hown, hlk, hE, hK, hA⟩ := id X
  rw [F_X1_takePosition] at hf
  refine lv_iload_n hx hb dX1_takePosition_0 rfl (lv_at hl 1 rfl) ?_
  obtain ⟨r1, s2, h3, hf⟩ := bo_e hf
  refine callS_i X cs_X1_firstOf kw484 (c_X1_firstOf l D cA A ad ta σ x1 r1 s2 h3) ⟨by decide, by decide⟩ ⟨rfl, rfl⟩ hP hD hS rfl hl rfl (Nat.le_of_ble_eq_true rfl) dX1_takePosition_1 ⟨by decide, by decide⟩ (fun H locs hP hD hS => ?_)
  refine lv_istore_n (lv' := [(2, .int r1), (0, .ref (ad 5)), (1, .int x1)]) hx hb dX1_takePosition_4 rfl hl (by decide) rfl (fun ls hl => ?_)
  refine lv_iconst (v := 0) hx hb dX1_takePosition_5 (by decide) ?_
  refine lv_istore_n (lv' := [(3, .int 0), (2, .int r1), (0, .ref (ad 5)), (1, .int x1)]) hx hb dX1_takePosition_6 rfl hl (by decide) rfl (fun ls hl => ?_)
  refine lv_aload_n hx hb dX1_takePosition_7 rfl (lv_at hl 2 rfl) ?_
  refine lv_iload_n hx hb dX1_takePosition_8 rfl (lv_at hl 3 rfl) ?_
  obtain ⟨r4, s5, h6, hf⟩ := bo_e hf
  refine callV_v X cv_X1_startCursors kw493 (c_X1_startCursors l D cA A ad ta s2 x1 r4 s5 h6) ⟨by decide, by decide⟩ ⟨rfl, rfl⟩ hP hD hS (q0 := 5) (ci := 1) rfl rfl rfl rfl hl rfl (Nat.le_of_ble_eq_true rfl) dX1_takePosition_9 ⟨by decide, by decide⟩ (fun H locs hP hD hS => ?_)
  refine lv_iconst (v := 0) hx hb dX1_takePosition_12 (by decide) ?_
  refine lv_istore (lv' := [(4, .int 0), (3, .int 0), (2, .int r1), (0, .ref (ad 5)), (1, .int x1)]) hx hb dX1_takePosition_13 hl (by decide) rfl (fun ls hl => ?_)
  exact t_X1_takePosition_15 X  5000 x1 r1 0 0 s5 _ _ _ hf hP hD hS (lv_sub hl [3, 4, 2, 1, 0] rfl)
end S_X1_takePosition
theorem c_X1_takePosition (l : Launch) (D : va_G) (cA : ClassId) (A : Nat → Prop) (ad : Nat → Nat) (ta : Nat) (σ : St) (x1 : Int32) (r : Int32) (σ' : St) (hf : F_X1_takePosition x1 σ = some (r, σ')) : MI l D cA A (wC cA ad) yX1_takePosition cX1_takePosition 6 (some .int) rm_X1_takePosition [.ref (ad 5), .int x1] ta σ r σ' 0 0 := by
  refine enter (by decide) (Nat.le_of_ble_eq_true rfl) ?_
  intro p e s m below meth c ls X hnm hP hD hS hl
  exact t_X1_takePosition_0 X hf hP hD hS hl
abbrev rm_X1_lastConstructor : Room := { frames := 1, cells := 0, slots := 0, locals := 21 }
def F_X1_lastConstructor_46 (k4 : Int32 → Int32 → Int32 → St → Rs) (x1 : Int32) (x2 : Int32) (x3 : Int32) (σ : St) : Rs :=
  k4 x1 x2 (x3 + 1) σ
def F_X1_lastConstructor_4  : Nat → Int32 → Int32 → Int32 → St → Rs
  | 0, _, _, _, _ => none
  | n + 1, x1, x2, x3, σ => if (gF σ 8) ≤ x3 then (some (x2, σ)) else (bo (F_X8_has x1 x3 σ) (fun r2 s3 => if r2 = 0 then (F_X1_lastConstructor_46 (F_X1_lastConstructor_4 n) x1 x2 x3 s3) else (bd (rd 24 (gA s3 32) x3) (fun y6 => bd (rd 512 (gA s3 18) y6) (fun y7 => bd (if x2 < y7 then y7 else x2) (fun y8 => F_X1_lastConstructor_46 (F_X1_lastConstructor_4 n) x1 y8 x3 s3))))))
def F_X1_lastConstructor (x1 : Int32) (σ : St) : Rs :=
  F_X1_lastConstructor_4 5000 x1 (-1) 0 σ
section S_X1_lastConstructor
variable {p : Program} {l : Launch} {e : Env} {s : State} {m : MethodId} {args : Array Value} {below : List Frame} {meth : Method} {c : Code}
variable {D : va_G} {cA : ClassId} {A : Nat → Prop} {ad : Nat → Nat} {r : Int32} {σ' : St} {ta : Nat}
set_option maxHeartbeats 4000000 in
set_option maxRecDepth 100000 in
theorem t_X1_lastConstructor_46 {k4 : Int32 → Int32 → Int32 → St → Rs} (X : Fx p s m meth c D cA A RX1 cX1_lastConstructor 4 (some .int)) (K4 : ∀ (x1 x2 x3 : Int32) (σ : St) (H : Heap) (locs : List Loc) (ls : Array Slot), k4 x1 x2 x3 σ = some (r, σ') → va_P D vwCl (wC cA ad ta σ) H → va_D A (wC cA ad ta σ) → va_S A s.heap H locs → lv_has ls 4 [(0, .ref (ad 5)), (1, .int x1), (2, .int x2), (3, .int x3)] → W p l e (rm_X1_lastConstructor) s m args below meth c H locs 0 0 (MQ below (QI D cA A (wC cA ad) r σ' ta) args s 0 0 A) (F0 m 4 ls [])) {x1 x2 x3 : Int32} { σ : St} {H : Heap} {locs : List Loc} {ls : Array Slot} (hf : F_X1_lastConstructor_46 k4 x1 x2 x3 σ = some (r, σ')) (hP : va_P D vwCl (wC cA ad ta σ) H) (hD : va_D A (wC cA ad ta σ)) (hS : va_S A s.heap H locs) (hl : lv_has ls 4 [(0, .ref (ad 5)), (1, .int x1), (2, .int x2), (3, .int x3)]) : W p l e (rm_X1_lastConstructor) s m args below meth c H locs 0 0 (MQ below (QI D cA A (wC cA ad) r σ' ta) args s 0 0 A) (F0 m 46 ls []) := by
  obtain ⟨hx, hb, hr, hml, hown, hlk, hE, hK, hA⟩ := id X
  rw [F_X1_lastConstructor_46] at hf
  refine lv_iinc (v := (x3 + 1)) (lv' := [(3, .int (x3 + 1)), (0, .ref (ad 5)), (1, .int x1), (2, .int x2)]) hx hb dX1_lastConstructor_46 hl (k := 3) rfl rfl (by decide) rfl (fun ls hl => ?_)
  refine lv_goto (tgt := 4) hx hb dX1_lastConstructor_49 (by decide) ?_
  exact K4 x1 x2 (x3 + 1) σ _ _ _ hf hP hD hS (lv_sub hl [1, 2, 3, 0] rfl)
set_option maxHeartbeats 4000000 in
set_option maxRecDepth 100000 in
theorem t_X1_lastConstructor_4  (X : Fx p s m meth c D cA A RX1 cX1_lastConstructor 4 (some .int))  : ∀ (n : Nat) (x1 x2 x3 : Int32) (σ : St) (H : Heap) (locs : List Loc) (ls : Array Slot), F_X1_lastConstructor_4 n x1 x2 x3 σ = some (r, σ') → va_P D vwCl (wC cA ad ta σ) H → va_D A (wC cA ad ta σ) → va_S A s.heap H locs → lv_has ls 4 [(0, .ref (ad 5)), (1, .int x1), (2, .int x2), (3, .int x3)] → W p l e (rm_X1_lastConstructor) s m args below meth c H locs 0 0 (MQ below (QI D cA A (wC cA ad) r σ' ta) args s 0 0 A) (F0 m 4 ls []) := by
  obtain ⟨hx, hb, hr, hml, hown, hlk, hE, hK, hA⟩ := id X
  intro n
  induction n with
  | zero =>
    intro x1 x2 x3 σ H locs ls hf
    cases (show (none : Rs) = some _ from hf)
  | succ n ih =>
    intro x1 x2 x3 σ H locs ls hf hP hD hS hl
    rw [F_X1_lastConstructor_4] at hf
    refine lv_iload_n hx hb dX1_lastConstructor_4 rfl (lv_at hl 3 rfl) ?_
    refine lv_aload_n hx hb dX1_lastConstructor_5 rfl (lv_at hl 0 rfl) ?_
    refine gC_Pla_rules X hP kw169 dX1_lastConstructor_6 ?_
    refine gCN_Rul_many X hP kw112 dX1_lastConstructor_9 ?_
    refine lv_icmp_ge (tgt := 52) hx hb dX1_lastConstructor_12 (by decide) (fun c1 => ?_) (fun c1 => ?_)
    · have hf := it_t c1 hf
      refine lv_iload_n hx hb dX1_lastConstructor_52 rfl (lv_at hl 2 rfl) ?_
      obtain ⟨rfl, rfl⟩ := Prod.mk.inj (Option.some.inj hf)
      exact ret_i X hP hD hS dX1_lastConstructor_53
    · have hf := it_f c1 hf
      refine lv_iload_n hx hb dX1_lastConstructor_15 rfl (lv_at hl 1 rfl) ?_
      refine lv_iload_n hx hb dX1_lastConstructor_16 rfl (lv_at hl 3 rfl) ?_
      obtain ⟨r2, s3, h4, hf⟩ := bo_e hf
      refine callSN_i X cs_X8_has kw497 (c_X8_has l D cA A ad ta σ x1 x3 r2 s3 h4) ⟨by decide, by decide⟩ ⟨rfl, rfl⟩ hP hD hS rfl hl rfl (Nat.le_of_ble_eq_true rfl) dX1_lastConstructor_17 ⟨by decide, by decide⟩ (fun H locs hP hD hS => ?_)
      refine lv_if_eq (tgt := 46) hx hb dX1_lastConstructor_20 (by decide) (fun c5 => ?_) (fun c5 => ?_)
      · have hf := it_t c5 hf
        exact t_X1_lastConstructor_46 X ih hf hP hD hS (lv_sub hl [0, 1, 2, 3] rfl)
      · have hf := it_f c5 hf
        refine lv_iload_n hx hb dX1_lastConstructor_23 rfl (lv_at hl 2 rfl) ?_
        refine lv_aload_n hx hb dX1_lastConstructor_24 rfl (lv_at hl 0 rfl) ?_
        refine gC_Pla_rules X hP kw169 dX1_lastConstructor_25 ?_
        refine gCN_Rul_symbol X hP kw101 dX1_lastConstructor_28 ?_
        refine lv_aload_n hx hb dX1_lastConstructor_31 rfl (lv_at hl 0 rfl) ?_
        refine gC_Pla_cursor X hP kw174 dX1_lastConstructor_32 ?_
        refine lv_iload_n hx hb dX1_lastConstructor_35 rfl (lv_at hl 3 rfl) ?_
        refine callSN_i X cs_X8_get kw475 (c_get l D cA A (wC cA ad) ta s3 32 (ad 32) 24 (gA s3 32) x3 (by decide) rfl) ⟨by decide, by decide⟩ ⟨rfl, rfl⟩ hP hD hS rfl hl rfl (Nat.le_of_ble_eq_true rfl) dX1_lastConstructor_36 ⟨by decide, by decide⟩ (fun H locs hP hD hS => ?_)
        refine lv_topi (fun y6 ey6 => ?_)
        have hf := bd_x ey6 hf
        refine callSN_i X cs_X8_get kw475 (c_get l D cA A (wC cA ad) ta s3 18 (ad 18) 512 (gA s3 18) y6 (by decide) rfl) ⟨by decide, by decide⟩ ⟨rfl, rfl⟩ hP hD hS rfl hl rfl (Nat.le_of_ble_eq_true rfl) dX1_lastConstructor_39 ⟨by decide, by decide⟩ (fun H locs hP hD hS => ?_)
        refine lv_topi (fun y7 ey7 => ?_)
        have hf := bd_x ey7 hf
        refine va_mmax hx hb (hml.trans hl.1.symm) hown (hE.at args kw529) (hE.at args kw530) (hE.at args kw11) (hE.at args kw531) (by decide) (Nat.le_of_ble_eq_true rfl) (by decide) (by decide) dX1_lastConstructor_42 ?_
        refine lv_topi (fun y8 ey8 => ?_)
        have hf := bd_x ey8 hf
        refine lv_istore_n (lv' := [(2, .int y8), (0, .ref (ad 5)), (1, .int x1), (3, .int x3)]) hx hb dX1_lastConstructor_45 rfl hl (by decide) rfl (fun ls hl => ?_)
        exact t_X1_lastConstructor_46 X ih hf hP hD hS (lv_sub hl [1, 2, 0, 3] rfl)
set_option maxHeartbeats 4000000 in
set_option maxRecDepth 100000 in
theorem t_X1_lastConstructor_0  (X : Fx p s m meth c D cA A RX1 cX1_lastConstructor 4 (some .int))  {x1 : Int32} { σ : St} {H : Heap} {locs : List Loc} {ls : Array Slot} (hf : F_X1_lastConstructor x1 σ = some (r, σ')) (hP : va_P D vwCl (wC cA ad ta σ) H) (hD : va_D A (wC cA ad ta σ)) (hS : va_S A s.heap H locs) (hl : lv_has ls 4 [(0, .ref (ad 5)), (1, .int x1)]) : W p l e (rm_X1_lastConstructor) s m args below meth c H locs 0 0 (MQ below (QI D cA A (wC cA ad) r σ' ta) args s 0 0 A) (F0 m 0 ls []) := by
  obtain ⟨hx, hb, hr, hml, hown, hlk, hE, hK, hA⟩ := id X
  rw [F_X1_lastConstructor] at hf
  refine lv_iconst (v := -1) hx hb dX1_lastConstructor_0 (by decide) ?_
  refine lv_istore_n (lv' := [(2, .int (-1)), (0, .ref (ad 5)), (1, .int x1)]) hx hb dX1_lastConstructor_1 rfl hl (by decide) rfl (fun ls hl => ?_)
  refine lv_iconst (v := 0) hx hb dX1_lastConstructor_2 (by decide) ?_
  refine lv_istore_n (lv' := [(3, .int 0), (2, .int (-1)), (0, .ref (ad 5)), (1, .int x1)]) hx hb dX1_lastConstructor_3 rfl hl (by decide) rfl (fun ls hl => ?_)
  exact t_X1_lastConstructor_4 X  5000 x1 (-1) 0 σ _ _ _ hf hP hD hS (lv_sub hl [2, 3, 1, 0] rfl)
end S_X1_lastConstructor
theorem c_X1_lastConstructor (l : Launch) (D : va_G) (cA : ClassId) (A : Nat → Prop) (ad : Nat → Nat) (ta : Nat) (σ : St) (x1 : Int32) (r : Int32) (σ' : St) (hf : F_X1_lastConstructor x1 σ = some (r, σ')) : MI l D cA A (wC cA ad) yX1_lastConstructor cX1_lastConstructor 4 (some .int) rm_X1_lastConstructor [.ref (ad 5), .int x1] ta σ r σ' 0 0 := by
  refine enter (by decide) (Nat.le_of_ble_eq_true rfl) ?_
  intro p e s m below meth c ls X hnm hP hD hS hl
  exact t_X1_lastConstructor_0 X hf hP hD hS hl
abbrev rm_X1_having : Room := { frames := 1, cells := 0, slots := 0, locals := 21 }
def F_X1_having_56 (k5 : Int32 → Int32 → Int32 → Int32 → St → Rs) (x1 : Int32) (x2 : Int32) (x3 : Int32) (x4 : Int32) (σ : St) : Rs :=
  k5 x1 x2 x3 (x4 + 1) σ
def F_X1_having_5  : Nat → Int32 → Int32 → Int32 → Int32 → St → Rs
  | 0, _, _, _, _, _ => none
  | n + 1, x1, x2, x3, x4, σ => if (gF σ 8) ≤ x4 then (some (x3, σ)) else (bo (F_X8_has x1 x4 σ) (fun r2 s3 => if r2 = 0 then (F_X1_having_56 (F_X1_having_5 n) x1 x2 x3 x4 s3) else (bd (rd 24 (gA s3 32) x4) (fun y6 => bd (rd 512 (gA s3 18) y6) (fun y7 => if y7 = x2 then (bd (x3 ||| (1 <<< (x4 &&& 31))) (fun y9 => F_X1_having_56 (F_X1_having_5 n) x1 x2 y9 x4 s3)) else (F_X1_having_56 (F_X1_having_5 n) x1 x2 x3 x4 s3))))))
def F_X1_having (x1 : Int32) (x2 : Int32) (σ : St) : Rs :=
  F_X1_having_5 5000 x1 x2 0 0 σ
section S_X1_having
variable {p : Program} {l : Launch} {e : Env} {s : State} {m : MethodId} {args : Array Value} {below : List Frame} {meth : Method} {c : Code}
variable {D : va_G} {cA : ClassId} {A : Nat → Prop} {ad : Nat → Nat} {r : Int32} {σ' : St} {ta : Nat}
set_option maxHeartbeats 4000000 in
set_option maxRecDepth 100000 in
theorem t_X1_having_56 {k5 : Int32 → Int32 → Int32 → Int32 → St → Rs} (X : Fx p s m meth c D cA A RX1 cX1_having 5 (some .int)) (K5 : ∀ (x1 x2 x3 x4 : Int32) (σ : St) (H : Heap) (locs : List Loc) (ls : Array Slot), k5 x1 x2 x3 x4 σ = some (r, σ') → va_P D vwCl (wC cA ad ta σ) H → va_D A (wC cA ad ta σ) → va_S A s.heap H locs → lv_has ls 5 [(0, .ref (ad 5)), (1, .int x1), (2, .int x2), (3, .int x3), (4, .int x4)] → W p l e (rm_X1_having) s m args below meth c H locs 0 0 (MQ below (QI D cA A (wC cA ad) r σ' ta) args s 0 0 A) (F0 m 5 ls [])) {x1 x2 x3 x4 : Int32} { σ : St} {H : Heap} {locs : List Loc} {ls : Array Slot} (hf : F_X1_having_56 k5 x1 x2 x3 x4 σ = some (r, σ')) (hP : va_P D vwCl (wC cA ad ta σ) H) (hD : va_D A (wC cA ad ta σ)) (hS : va_S A s.heap H locs) (hl : lv_has ls 5 [(0, .ref (ad 5)), (1, .int x1), (2, .int x2), (3, .int x3), (4, .int x4)]) : W p l e (rm_X1_having) s m args below meth c H locs 0 0 (MQ below (QI D cA A (wC cA ad) r σ' ta) args s 0 0 A) (F0 m 56 ls []) := by
  obtain ⟨hx, hb, hr, hml, hown, hlk, hE, hK, hA⟩ := id X
  rw [F_X1_having_56] at hf
  refine lv_iinc (v := (x4 + 1)) (lv' := [(4, .int (x4 + 1)), (0, .ref (ad 5)), (1, .int x1), (2, .int x2), (3, .int x3)]) hx hb dX1_having_56 hl (k := 4) rfl rfl (by decide) rfl (fun ls hl => ?_)
  refine lv_goto (tgt := 5) hx hb dX1_having_59 (by decide) ?_
  exact K5 x1 x2 x3 (x4 + 1) σ _ _ _ hf hP hD hS (lv_sub hl [1, 2, 3, 4, 0] rfl)
set_option maxHeartbeats 4000000 in
set_option maxRecDepth 100000 in
theorem t_X1_having_5  (X : Fx p s m meth c D cA A RX1 cX1_having 5 (some .int))  : ∀ (n : Nat) (x1 x2 x3 x4 : Int32) (σ : St) (H : Heap) (locs : List Loc) (ls : Array Slot), F_X1_having_5 n x1 x2 x3 x4 σ = some (r, σ') → va_P D vwCl (wC cA ad ta σ) H → va_D A (wC cA ad ta σ) → va_S A s.heap H locs → lv_has ls 5 [(0, .ref (ad 5)), (1, .int x1), (2, .int x2), (3, .int x3), (4, .int x4)] → W p l e (rm_X1_having) s m args below meth c H locs 0 0 (MQ below (QI D cA A (wC cA ad) r σ' ta) args s 0 0 A) (F0 m 5 ls []) := by
  obtain ⟨hx, hb, hr, hml, hown, hlk, hE, hK, hA⟩ := id X
  intro n
  induction n with
  | zero =>
    intro x1 x2 x3 x4 σ H locs ls hf
    cases (show (none : Rs) = some _ from hf)
  | succ n ih =>
    intro x1 x2 x3 x4 σ H locs ls hf hP hD hS hl
    rw [F_X1_having_5] at hf
    refine lv_iload hx hb dX1_having_5 (lv_at hl 4 rfl) ?_
    refine lv_aload_n hx hb dX1_having_7 rfl (lv_at hl 0 rfl) ?_
    refine gC_Pla_rules X hP kw169 dX1_having_8 ?_
    refine gCN_Rul_many X hP kw112 dX1_having_11 ?_
    refine lv_icmp_ge (tgt := 62) hx hb dX1_having_14 (by decide) (fun c1 => ?_) (fun c1 => ?_)
    · have hf := it_t c1 hf
      refine lv_iload_n hx hb dX1_having_62 rfl (lv_at hl 3 rfl) ?_
      obtain ⟨rfl, rfl⟩ := Prod.mk.inj (Option.some.inj hf)
      exact ret_i X hP hD hS dX1_having_63
    · have hf := it_f c1 hf
      refine lv_iload_n hx hb dX1_having_17 rfl (lv_at hl 1 rfl) ?_
      refine lv_iload hx hb dX1_having_18 (lv_at hl 4 rfl) ?_
      obtain ⟨r2, s3, h4, hf⟩ := bo_e hf
      refine callSN_i X cs_X8_has kw497 (c_X8_has l D cA A ad ta σ x1 x4 r2 s3 h4) ⟨by decide, by decide⟩ ⟨rfl, rfl⟩ hP hD hS rfl hl rfl (Nat.le_of_ble_eq_true rfl) dX1_having_20 ⟨by decide, by decide⟩ (fun H locs hP hD hS => ?_)
      refine lv_if_eq (tgt := 56) hx hb dX1_having_23 (by decide) (fun c5 => ?_) (fun c5 => ?_)
      · have hf := it_t c5 hf
        exact t_X1_having_56 X ih hf hP hD hS (lv_sub hl [0, 1, 2, 3, 4] rfl)
      · have hf := it_f c5 hf
        refine lv_aload_n hx hb dX1_having_26 rfl (lv_at hl 0 rfl) ?_
        refine gC_Pla_rules X hP kw169 dX1_having_27 ?_
        refine gCN_Rul_symbol X hP kw101 dX1_having_30 ?_
        refine lv_aload_n hx hb dX1_having_33 rfl (lv_at hl 0 rfl) ?_
        refine gC_Pla_cursor X hP kw174 dX1_having_34 ?_
        refine lv_iload hx hb dX1_having_37 (lv_at hl 4 rfl) ?_
        refine callSN_i X cs_X8_get kw475 (c_get l D cA A (wC cA ad) ta s3 32 (ad 32) 24 (gA s3 32) x4 (by decide) rfl) ⟨by decide, by decide⟩ ⟨rfl, rfl⟩ hP hD hS rfl hl rfl (Nat.le_of_ble_eq_true rfl) dX1_having_39 ⟨by decide, by decide⟩ (fun H locs hP hD hS => ?_)
        refine lv_topi (fun y6 ey6 => ?_)
        have hf := bd_x ey6 hf
        refine callSN_i X cs_X8_get kw475 (c_get l D cA A (wC cA ad) ta s3 18 (ad 18) 512 (gA s3 18) y6 (by decide) rfl) ⟨by decide, by decide⟩ ⟨rfl, rfl⟩ hP hD hS rfl hl rfl (Nat.le_of_ble_eq_true rfl) dX1_having_42 ⟨by decide, by decide⟩ (fun H locs hP hD hS => ?_)
        refine lv_topi (fun y7 ey7 => ?_)
        have hf := bd_x ey7 hf
        refine lv_iload_n hx hb dX1_having_45 rfl (lv_at hl 2 rfl) ?_
        refine lv_icmp_ne (tgt := 56) hx hb dX1_having_46 (by decide) (fun c8 => ?_) (fun c8 => ?_)
        · have hf := it_f c8 hf
          exact t_X1_having_56 X ih hf hP hD hS (lv_sub hl [0, 1, 2, 3, 4] rfl)
        · have hf := it_t c8 hf
          refine lv_iload_n hx hb dX1_having_49 rfl (lv_at hl 3 rfl) ?_
          refine lv_iconst (v := 1) hx hb dX1_having_50 (by decide) ?_
          refine lv_iload hx hb dX1_having_51 (lv_at hl 4 rfl) ?_
          refine lv_ishl hx hb dX1_having_53 ?_
          refine lv_ior hx hb dX1_having_54 ?_
          refine lv_topi (fun y9 ey9 => ?_)
          have hf := bd_x ey9 hf
          refine lv_istore_n (lv' := [(3, .int y9), (0, .ref (ad 5)), (1, .int x1), (2, .int x2), (4, .int x4)]) hx hb dX1_having_55 rfl hl (by decide) rfl (fun ls hl => ?_)
          exact t_X1_having_56 X ih hf hP hD hS (lv_sub hl [1, 2, 3, 0, 4] rfl)
set_option maxHeartbeats 4000000 in
set_option maxRecDepth 100000 in
theorem t_X1_having_0  (X : Fx p s m meth c D cA A RX1 cX1_having 5 (some .int))  {x1 x2 : Int32} { σ : St} {H : Heap} {locs : List Loc} {ls : Array Slot} (hf : F_X1_having x1 x2 σ = some (r, σ')) (hP : va_P D vwCl (wC cA ad ta σ) H) (hD : va_D A (wC cA ad ta σ)) (hS : va_S A s.heap H locs) (hl : lv_has ls 5 [(0, .ref (ad 5)), (1, .int x1), (2, .int x2)]) : W p l e (rm_X1_having) s m args below meth c H locs 0 0 (MQ below (QI D cA A (wC cA ad) r σ' ta) args s 0 0 A) (F0 m 0 ls []) := by
  obtain ⟨hx, hb, hr, hml, hown, hlk, hE, hK, hA⟩ := id X
  rw [F_X1_having] at hf
  refine lv_iconst (v := 0) hx hb dX1_having_0 (by decide) ?_
  refine lv_istore_n (lv' := [(3, .int 0), (0, .ref (ad 5)), (1, .int x1), (2, .int x2)]) hx hb dX1_having_1 rfl hl (by decide) rfl (fun ls hl => ?_)
  refine lv_iconst (v := 0) hx hb dX1_having_2 (by decide) ?_
  refine lv_istore (lv' := [(4, .int 0), (3, .int 0), (0, .ref (ad 5)), (1, .int x1), (2, .int x2)]) hx hb dX1_having_3 hl (by decide) rfl (fun ls hl => ?_)
  exact t_X1_having_5 X  5000 x1 x2 0 0 σ _ _ _ hf hP hD hS (lv_sub hl [2, 3, 4, 1, 0] rfl)
end S_X1_having
theorem c_X1_having (l : Launch) (D : va_G) (cA : ClassId) (A : Nat → Prop) (ad : Nat → Nat) (ta : Nat) (σ : St) (x1 x2 : Int32) (r : Int32) (σ' : St) (hf : F_X1_having x1 x2 σ = some (r, σ')) : MI l D cA A (wC cA ad) yX1_having cX1_having 5 (some .int) rm_X1_having [.ref (ad 5), .int x1, .int x2] ta σ r σ' 0 0 := by
  refine enter (by decide) (Nat.le_of_ble_eq_true rfl) ?_
  intro p e s m below meth c ls X hnm hP hD hS hl
  exact t_X1_having_0 X hf hP hD hS hl
abbrev rm_X1_ask : Room := { frames := 2, cells := 0, slots := 0, locals := 45 }
def F_X1_ask_100 (k59 : Int32 → Int32 → Int32 → St → Rs) (x1 : Int32) (x2 : Int32) (x4 : Int32) (σ : St) : Rs :=
  k59 x1 x2 (x4 + 1) σ
def F_X1_ask_59  : Nat → Int32 → Int32 → Int32 → St → Rs
  | 0, _, _, _, _ => none
  | n + 1, x1, x2, x4, σ => if (gF σ 8) ≤ x4 then (some (0, σ)) else (bo (F_X8_has x1 x4 σ) (fun r2 s3 => if r2 = 0 then (F_X1_ask_100 (F_X1_ask_59 n) x1 x2 x4 s3) else (bd (rd 24 (gA s3 32) x4) (fun y6 => bd (sA s3 22 (wr 512 (gA s3 22) y6 x2)) (fun s7 => F_X1_ask_100 (F_X1_ask_59 n) x1 x2 x4 s7)))))
def F_X1_ask_56 (x1 : Int32) (x2 : Int32) (σ : St) : Rs :=
  F_X1_ask_59 5000 x1 x2 0 σ
def F_X1_ask_5  : Nat → Int32 → Int32 → Int32 → Int32 → St → Rs
  | 0, _, _, _, _, _ => none
  | n + 1, x1, x2, x3, x4, σ => if 24 ≤ x4 then (F_X1_ask_56 x1 x2 σ) else (if x3 = 0 then (F_X1_ask_56 x1 x2 σ) else (bo (F_X1_lastConstructor x3 σ) (fun r3 s4 => bo (F_X1_having x3 r3 s4) (fun r6 s7 => bo (F_X1_await r6 r3 (x2 + 1) s7) (fun r9 s10 => bd (x3 &&& (r6 ^^^ (-1))) (fun y12 => F_X1_ask_5 n x1 x2 y12 (x4 + 1) s10))))))
def F_X1_ask (x1 : Int32) (x2 : Int32) (σ : St) : Rs :=
  F_X1_ask_5 5000 x1 x2 x1 0 σ
section S_X1_ask
variable {p : Program} {l : Launch} {e : Env} {s : State} {m : MethodId} {args : Array Value} {below : List Frame} {meth : Method} {c : Code}
variable {D : va_G} {cA : ClassId} {A : Nat → Prop} {ad : Nat → Nat} {r : Int32} {σ' : St} {ta : Nat}
set_option maxHeartbeats 4000000 in
set_option maxRecDepth 100000 in
theorem t_X1_ask_100 {k59 : Int32 → Int32 → Int32 → St → Rs} (X : Fx p s m meth c D cA A RX1 cX1_ask 7 none) (K59 : ∀ (x1 x2 x4 : Int32) (σ : St) (H : Heap) (locs : List Loc) (ls : Array Slot), k59 x1 x2 x4 σ = some (r, σ') → va_P D vwCl (wC cA ad ta σ) H → va_D A (wC cA ad ta σ) → va_S A s.heap H locs → lv_has ls 7 [(0, .ref (ad 5)), (1, .int x1), (2, .int x2), (4, .int x4)] → W p l e (rm_X1_ask) s m args below meth c H locs 0 0 (MQ below (QV D cA A (wC cA ad) σ' ta) args s 0 0 A) (F0 m 59 ls [])) {x1 x2 x4 : Int32} { σ : St} {H : Heap} {locs : List Loc} {ls : Array Slot} (hf : F_X1_ask_100 k59 x1 x2 x4 σ = some (r, σ')) (hP : va_P D vwCl (wC cA ad ta σ) H) (hD : va_D A (wC cA ad ta σ)) (hS : va_S A s.heap H locs) (hl : lv_has ls 7 [(0, .ref (ad 5)), (1, .int x1), (2, .int x2), (4, .int x4)]) : W p l e (rm_X1_ask) s m args below meth c H locs 0 0 (MQ below (QV D cA A (wC cA ad) σ' ta) args s 0 0 A) (F0 m 100 ls []) := by
  obtain ⟨hx, hb, hr, hml, hown, hlk, hE, hK, hA⟩ := id X
  rw [F_X1_ask_100] at hf
  refine lv_iinc (v := (x4 + 1)) (lv' := [(4, .int (x4 + 1)), (0, .ref (ad 5)), (1, .int x1), (2, .int x2)]) hx hb dX1_ask_100 hl (k := 3) rfl rfl (by decide) rfl (fun ls hl => ?_)
  refine lv_goto (tgt := 59) hx hb dX1_ask_103 (by decide) ?_
  exact K59 x1 x2 (x4 + 1) σ _ _ _ hf hP hD hS (lv_sub hl [1, 2, 3, 0] rfl)
set_option maxHeartbeats 4000000 in
set_option maxRecDepth 100000 in
theorem t_X1_ask_59  (X : Fx p s m meth c D cA A RX1 cX1_ask 7 none)  : ∀ (n : Nat) (x1 x2 x4 : Int32) (σ : St) (H : Heap) (locs : List Loc) (ls : Array Slot), F_X1_ask_59 n x1 x2 x4 σ = some (r, σ') → va_P D vwCl (wC cA ad ta σ) H → va_D A (wC cA ad ta σ) → va_S A s.heap H locs → lv_has ls 7 [(0, .ref (ad 5)), (1, .int x1), (2, .int x2), (4, .int x4)] → W p l e (rm_X1_ask) s m args below meth c H locs 0 0 (MQ below (QV D cA A (wC cA ad) σ' ta) args s 0 0 A) (F0 m 59 ls []) := by
  obtain ⟨hx, hb, hr, hml, hown, hlk, hE, hK, hA⟩ := id X
  intro n
  induction n with
  | zero =>
    intro x1 x2 x4 σ H locs ls hf
    cases (show (none : Rs) = some _ from hf)
  | succ n ih =>
    intro x1 x2 x4 σ H locs ls hf hP hD hS hl
    rw [F_X1_ask_59] at hf
    refine lv_iload hx hb dX1_ask_59 (lv_at hl 3 rfl) ?_
    refine lv_aload_n hx hb dX1_ask_61 rfl (lv_at hl 0 rfl) ?_
    refine gC_Pla_rules X hP kw169 dX1_ask_62 ?_
    refine gCN_Rul_many X hP kw112 dX1_ask_65 ?_
    refine lv_icmp_ge (tgt := 106) hx hb dX1_ask_68 (by decide) (fun c1 => ?_) (fun c1 => ?_)
    · have hf := it_t c1 hf
      obtain ⟨rfl, rfl⟩ := Prod.mk.inj (Option.some.inj hf)
      exact ret_v X hP hD hS dX1_ask_106
    · have hf := it_f c1 hf
      refine lv_iload_n hx hb dX1_ask_71 rfl (lv_at hl 1 rfl) ?_
      refine lv_iload hx hb dX1_ask_72 (lv_at hl 3 rfl) ?_
      obtain ⟨r2, s3, h4, hf⟩ := bo_e hf
      refine callSN_i X cs_X8_has kw497 (c_X8_has l D cA A ad ta σ x1 x4 r2 s3 h4) ⟨by decide, by decide⟩ ⟨rfl, rfl⟩ hP hD hS rfl hl rfl (Nat.le_of_ble_eq_true rfl) dX1_ask_74 ⟨by decide, by decide⟩ (fun H locs hP hD hS => ?_)
      refine lv_if_eq (tgt := 100) hx hb dX1_ask_77 (by decide) (fun c5 => ?_) (fun c5 => ?_)
      · have hf := it_t c5 hf
        exact t_X1_ask_100 X ih hf hP hD hS (lv_sub hl [0, 1, 2, 3] rfl)
      · have hf := it_f c5 hf
        refine lv_aload_n hx hb dX1_ask_80 rfl (lv_at hl 0 rfl) ?_
        refine gC_Pla_rules X hP kw169 dX1_ask_81 ?_
        refine gCN_Rul_askedAt X hP kw110 dX1_ask_84 ?_
        refine lv_aload_n hx hb dX1_ask_87 rfl (lv_at hl 0 rfl) ?_
        refine gC_Pla_cursor X hP kw174 dX1_ask_88 ?_
        refine lv_iload hx hb dX1_ask_91 (lv_at hl 3 rfl) ?_
        refine callSN_i X cs_X8_get kw475 (c_get l D cA A (wC cA ad) ta s3 32 (ad 32) 24 (gA s3 32) x4 (by decide) rfl) ⟨by decide, by decide⟩ ⟨rfl, rfl⟩ hP hD hS rfl hl rfl (Nat.le_of_ble_eq_true rfl) dX1_ask_93 ⟨by decide, by decide⟩ (fun H locs hP hD hS => ?_)
        refine lv_topi (fun y6 ey6 => ?_)
        have hf := bd_x ey6 hf
        refine lv_iload_n hx hb dX1_ask_96 rfl (lv_at hl 2 rfl) ?_
        refine callSN_v X cs_X8_set kw474 (c_set l D cA A (wC cA ad) ta s3 22 (ad 22) 512 22 y6 x2 (by decide) rfl (fun f => wC_a22 f)) ⟨by decide, by decide⟩ ⟨rfl, rfl⟩ hP hD hS rfl hl rfl (Nat.le_of_ble_eq_true rfl) dX1_ask_97 ⟨by decide, by decide⟩ (fun H locs hP hD hS => ?_)
        obtain ⟨s7, es7, hf⟩ := bd_e hf
        rw [← es7] at hP hD
        exact t_X1_ask_100 X ih hf hP hD hS (lv_sub hl [0, 1, 2, 3] rfl)
set_option maxHeartbeats 4000000 in
set_option maxRecDepth 100000 in
theorem t_X1_ask_56  (X : Fx p s m meth c D cA A RX1 cX1_ask 7 none)  {x1 x2 : Int32} { σ : St} {H : Heap} {locs : List Loc} {ls : Array Slot} (hf : F_X1_ask_56 x1 x2 σ = some (r, σ')) (hP : va_P D vwCl (wC cA ad ta σ) H) (hD : va_D A (wC cA ad ta σ)) (hS : va_S A s.heap H locs) (hl : lv_has ls 7 [(0, .ref (ad 5)), (1, .int x1), (2, .int x2)]) : W p l e (rm_X1_ask) s m args below meth c H locs 0 0 (MQ below (QV D cA A (wC cA ad) σ' ta) args s 0 0 A) (F0 m 56 ls []) := by
  obtain ⟨hx, hb, hr, hml, hown, hlk, hE, hK, hA⟩ := id X
  rw [F_X1_ask_56] at hf
  refine lv_iconst (v := 0) hx hb dX1_ask_56 (by decide) ?_
  refine lv_istore (lv' := [(4, .int 0), (0, .ref (ad 5)), (1, .int x1), (2, .int x2)]) hx hb dX1_ask_57 hl (by decide) rfl (fun ls hl => ?_)
  exact t_X1_ask_59 X  5000 x1 x2 0 σ _ _ _ hf hP hD hS (lv_sub hl [1, 2, 3, 0] rfl)
set_option maxHeartbeats 4000000 in
set_option maxRecDepth 100000 in
theorem t_X1_ask_5  (X : Fx p s m meth c D cA A RX1 cX1_ask 7 none)  : ∀ (n : Nat) (x1 x2 x3 x4 : Int32) (σ : St) (H : Heap) (locs : List Loc) (ls : Array Slot), F_X1_ask_5 n x1 x2 x3 x4 σ = some (r, σ') → va_P D vwCl (wC cA ad ta σ) H → va_D A (wC cA ad ta σ) → va_S A s.heap H locs → lv_has ls 7 [(0, .ref (ad 5)), (1, .int x1), (2, .int x2), (3, .int x3), (4, .int x4)] → W p l e (rm_X1_ask) s m args below meth c H locs 0 0 (MQ below (QV D cA A (wC cA ad) σ' ta) args s 0 0 A) (F0 m 5 ls []) := by
  obtain ⟨hx, hb, hr, hml, hown, hlk, hE, hK, hA⟩ := id X
  intro n
  induction n with
  | zero =>
    intro x1 x2 x3 x4 σ H locs ls hf
    cases (show (none : Rs) = some _ from hf)
  | succ n ih =>
    intro x1 x2 x3 x4 σ H locs ls hf hP hD hS hl
    rw [F_X1_ask_5] at hf
    refine lv_iload hx hb dX1_ask_5 (lv_at hl 4 rfl) ?_
    refine lv_bipush (v := 24) hx hb dX1_ask_7 (by decide) ?_
    refine lv_icmp_ge (tgt := 56) hx hb dX1_ask_9 (by decide) (fun c1 => ?_) (fun c1 => ?_)
    · have hf := it_t c1 hf
      exact t_X1_ask_56 X  hf hP hD hS (lv_sub hl [0, 1, 2] rfl)
    · have hf := it_f c1 hf
      refine lv_iload_n hx hb dX1_ask_12 rfl (lv_at hl 3 rfl) ?_
      refine lv_if_eq (tgt := 56) hx hb dX1_ask_13 (by decide) (fun c2 => ?_) (fun c2 => ?_)
      · have hf := it_t c2 hf
        exact t_X1_ask_56 X  hf hP hD hS (lv_sub hl [0, 1, 2] rfl)
      · have hf := it_f c2 hf
        refine lv_aload_n hx hb dX1_ask_16 rfl (lv_at hl 0 rfl) ?_
        refine lv_iload_n hx hb dX1_ask_17 rfl (lv_at hl 3 rfl) ?_
        obtain ⟨r3, s4, h5, hf⟩ := bo_e hf
        refine callV_i X cv_X1_lastConstructor kw525 (c_X1_lastConstructor l D cA A ad ta σ x3 r3 s4 h5) ⟨by decide, by decide⟩ ⟨rfl, rfl⟩ hP hD hS (q0 := 5) (ci := 1) rfl rfl rfl rfl hl rfl (Nat.le_of_ble_eq_true rfl) dX1_ask_18 ⟨by decide, by decide⟩ (fun H locs hP hD hS => ?_)
        refine lv_istore (lv' := [(5, .int r3), (0, .ref (ad 5)), (1, .int x1), (2, .int x2), (3, .int x3), (4, .int x4)]) hx hb dX1_ask_21 hl (by decide) rfl (fun ls hl => ?_)
        refine lv_aload_n hx hb dX1_ask_23 rfl (lv_at hl 1 rfl) ?_
        refine lv_iload_n hx hb dX1_ask_24 rfl (lv_at hl 4 rfl) ?_
        refine lv_iload hx hb dX1_ask_25 (lv_at hl 0 rfl) ?_
        obtain ⟨r6, s7, h8, hf⟩ := bo_e hf
        refine callV_i X cv_X1_having kw532 (c_X1_having l D cA A ad ta s4 x3 r3 r6 s7 h8) ⟨by decide, by decide⟩ ⟨rfl, rfl⟩ hP hD hS (q0 := 5) (ci := 1) rfl rfl rfl rfl hl rfl (Nat.le_of_ble_eq_true rfl) dX1_ask_27 ⟨by decide, by decide⟩ (fun H locs hP hD hS => ?_)
        refine lv_istore (lv' := [(6, .int r6), (5, .int r3), (0, .ref (ad 5)), (1, .int x1), (2, .int x2), (3, .int x3), (4, .int x4)]) hx hb dX1_ask_30 hl (by decide) rfl (fun ls hl => ?_)
        refine lv_aload_n hx hb dX1_ask_32 rfl (lv_at hl 2 rfl) ?_
        refine lv_iload hx hb dX1_ask_33 (lv_at hl 0 rfl) ?_
        refine lv_iload hx hb dX1_ask_35 (lv_at hl 1 rfl) ?_
        refine lv_iload_n hx hb dX1_ask_37 rfl (lv_at hl 4 rfl) ?_
        refine lv_iconst (v := 1) hx hb dX1_ask_38 (by decide) ?_
        refine lv_iadd hx hb dX1_ask_39 ?_
        obtain ⟨r9, s10, h11, hf⟩ := bo_e hf
        refine callV_v X cv_X1_await kw470 (c_X1_await l D cA A ad ta s7 r6 r3 (x2 + 1) r9 s10 h11) ⟨by decide, by decide⟩ ⟨rfl, rfl⟩ hP hD hS (q0 := 5) (ci := 1) rfl rfl rfl rfl hl rfl (Nat.le_of_ble_eq_true rfl) dX1_ask_40 ⟨by decide, by decide⟩ (fun H locs hP hD hS => ?_)
        refine lv_iload_n hx hb dX1_ask_43 rfl (lv_at hl 5 rfl) ?_
        refine lv_iload hx hb dX1_ask_44 (lv_at hl 0 rfl) ?_
        refine lv_iconst (v := -1) hx hb dX1_ask_46 (by decide) ?_
        refine lv_ixor hx hb dX1_ask_47 ?_
        refine lv_iand hx hb dX1_ask_48 ?_
        refine lv_topi (fun y12 ey12 => ?_)
        have hf := bd_x ey12 hf
        refine lv_istore_n (lv' := [(3, .int y12), (6, .int r6), (5, .int r3), (0, .ref (ad 5)), (1, .int x1), (2, .int x2), (4, .int x4)]) hx hb dX1_ask_49 rfl hl (by decide) rfl (fun ls hl => ?_)
        refine lv_iinc (v := (x4 + 1)) (lv' := [(4, .int (x4 + 1)), (3, .int y12), (6, .int r6), (5, .int r3), (0, .ref (ad 5)), (1, .int x1), (2, .int x2)]) hx hb dX1_ask_50 hl (k := 6) rfl rfl (by decide) rfl (fun ls hl => ?_)
        refine lv_goto (tgt := 5) hx hb dX1_ask_53 (by decide) ?_
        exact ih x1 x2 y12 (x4 + 1) s10 _ _ _ hf hP hD hS (lv_sub hl [4, 5, 6, 1, 0] rfl)
set_option maxHeartbeats 4000000 in
set_option maxRecDepth 100000 in
theorem t_X1_ask_0  (X : Fx p s m meth c D cA A RX1 cX1_ask 7 none)  {x1 x2 : Int32} { σ : St} {H : Heap} {locs : List Loc} {ls : Array Slot} (hf : F_X1_ask x1 x2 σ = some (r, σ')) (hP : va_P D vwCl (wC cA ad ta σ) H) (hD : va_D A (wC cA ad ta σ)) (hS : va_S A s.heap H locs) (hl : lv_has ls 7 [(0, .ref (ad 5)), (1, .int x1), (2, .int x2)]) : W p l e (rm_X1_ask) s m args below meth c H locs 0 0 (MQ below (QV D cA A (wC cA ad) σ' ta) args s 0 0 A) (F0 m 0 ls []) := by
  obtain ⟨hx, hb, hr, hml, hown, hlk, hE, hK, hA⟩ := id X
  rw [F_X1_ask] at hf
  refine lv_iload_n hx hb dX1_ask_0 rfl (lv_at hl 1 rfl) ?_
  refine lv_istore_n (lv' := [(3, .int x1), (0, .ref (ad 5)), (1, .int x1), (2, .int x2)]) hx hb dX1_ask_1 rfl hl (by decide) rfl (fun ls hl => ?_)
  refine lv_iconst (v := 0) hx hb dX1_ask_2 (by decide) ?_
  refine lv_istore (lv' := [(4, .int 0), (3, .int x1), (0, .ref (ad 5)), (1, .int x1), (2, .int x2)]) hx hb dX1_ask_3 hl (by decide) rfl (fun ls hl => ?_)
  exact t_X1_ask_5 X  5000 x1 x2 x1 0 σ _ _ _ hf hP hD hS (lv_sub hl [2, 3, 4, 1, 0] rfl)
end S_X1_ask
theorem c_X1_ask (l : Launch) (D : va_G) (cA : ClassId) (A : Nat → Prop) (ad : Nat → Nat) (ta : Nat) (σ : St) (x1 x2 : Int32) (r : Int32) (σ' : St) (hf : F_X1_ask x1 x2 σ = some (r, σ')) : MV l D cA A (wC cA ad) yX1_ask cX1_ask 7 none rm_X1_ask [.ref (ad 5), .int x1, .int x2] ta σ σ' 0 0 := by
  refine enter (by decide) (Nat.le_of_ble_eq_true rfl) ?_
  intro p e s m below meth c ls X hnm hP hD hS hl
  exact t_X1_ask_0 X hf hP hD hS hl
abbrev rm_X1_partByNeed : Room := { frames := 2, cells := 0, slots := 0, locals := 45 }
def F_X1_partByNeed_80 (k17 : Int32 → Int32 → Int32 → Int32 → Int32 → Int32 → St → Rs) (x1 : Int32) (x2 : Int32) (x3 : Int32) (x4 : Int32) (x5 : Int32) (x6 : Int32) (σ : St) : Rs :=
  k17 x1 x2 x3 x4 x5 (x6 + (-1)) σ
def F_X1_partByNeed_86 (x3 : Int32) (x4 : Int32) (σ : St) : Rs :=
  bo (F_X1_await x4 (-1) (x3 + 1) σ) (fun r1 s2 => some (0, s2))
def F_X1_partByNeed_63 (k17 : Int32 → Int32 → Int32 → Int32 → Int32 → Int32 → St → Rs) (x1 : Int32) (x2 : Int32) (x3 : Int32) (x4 : Int32) (x6 : Int32) (σ : St) : Rs :=
  bd (x4 ||| (1 <<< (x6 &&& 31))) (fun y1 => bo (F_X8_has x2 x6 σ) (fun r2 s3 => F_X1_partByNeed_80 k17 x1 x2 x3 y1 r2 x6 s3))
def F_X1_partByNeed_17  : Nat → Int32 → Int32 → Int32 → Int32 → Int32 → Int32 → St → Rs
  | 0, _, _, _, _, _, _, _ => none
  | n + 1, x1, x2, x3, x4, x5, x6, σ => if x6 < 0 then (F_X1_partByNeed_86 x3 x4 σ) else (bo (F_X8_has x1 x6 σ) (fun r2 s3 => if r2 = 0 then (F_X1_partByNeed_80 (F_X1_partByNeed_17 n) x1 x2 x3 x4 x5 x6 s3) else (if x4 = 0 then (F_X1_partByNeed_63 (F_X1_partByNeed_17 n) x1 x2 x3 x4 x6 s3) else (bo (F_X8_has x2 x6 s3) (fun r7 s8 => if r7 = x5 then (F_X1_partByNeed_63 (F_X1_partByNeed_17 n) x1 x2 x3 x4 x6 s8) else (bo (F_X1_await x4 (-1) (x3 + 1) s8) (fun r11 s12 => F_X1_partByNeed_63 (F_X1_partByNeed_17 n) x1 x2 x3 0 x6 s12)))))))
def F_X1_partByNeed (x1 : Int32) (x2 : Int32) (x3 : Int32) (σ : St) : Rs :=
  bd ((gF σ 8) - 1) (fun y1 => F_X1_partByNeed_17 5000 x1 x2 x3 0 0 y1 σ)
section S_X1_partByNeed
variable {p : Program} {l : Launch} {e : Env} {s : State} {m : MethodId} {args : Array Value} {below : List Frame} {meth : Method} {c : Code}
variable {D : va_G} {cA : ClassId} {A : Nat → Prop} {ad : Nat → Nat} {r : Int32} {σ' : St} {ta : Nat}
set_option maxHeartbeats 4000000 in
set_option maxRecDepth 100000 in
theorem t_X1_partByNeed_80 {k17 : Int32 → Int32 → Int32 → Int32 → Int32 → Int32 → St → Rs} (X : Fx p s m meth c D cA A RX1 cX1_partByNeed 7 none) (K17 : ∀ (x1 x2 x3 x4 x5 x6 : Int32) (σ : St) (H : Heap) (locs : List Loc) (ls : Array Slot), k17 x1 x2 x3 x4 x5 x6 σ = some (r, σ') → va_P D vwCl (wC cA ad ta σ) H → va_D A (wC cA ad ta σ) → va_S A s.heap H locs → lv_has ls 7 [(0, .ref (ad 5)), (1, .int x1), (2, .int x2), (3, .int x3), (4, .int x4), (5, .int x5), (6, .int x6)] → W p l e (rm_X1_partByNeed) s m args below meth c H locs 0 0 (MQ below (QV D cA A (wC cA ad) σ' ta) args s 0 0 A) (F0 m 17 ls [])) {x1 x2 x3 x4 x5 x6 : Int32} { σ : St} {H : Heap} {locs : List Loc} {ls : Array Slot} (hf : F_X1_partByNeed_80 k17 x1 x2 x3 x4 x5 x6 σ = some (r, σ')) (hP : va_P D vwCl (wC cA ad ta σ) H) (hD : va_D A (wC cA ad ta σ)) (hS : va_S A s.heap H locs) (hl : lv_has ls 7 [(0, .ref (ad 5)), (1, .int x1), (2, .int x2), (3, .int x3), (4, .int x4), (5, .int x5), (6, .int x6)]) : W p l e (rm_X1_partByNeed) s m args below meth c H locs 0 0 (MQ below (QV D cA A (wC cA ad) σ' ta) args s 0 0 A) (F0 m 80 ls []) := by
  obtain ⟨hx, hb, hr, hml, hown, hlk, hE, hK, hA⟩ := id X
  rw [F_X1_partByNeed_80] at hf
  refine lv_iinc (v := (x6 + (-1))) (lv' := [(6, .int (x6 + (-1))), (0, .ref (ad 5)), (1, .int x1), (2, .int x2), (3, .int x3), (4, .int x4), (5, .int x5)]) hx hb dX1_partByNeed_80 hl (k := 6) rfl rfl (by decide) rfl (fun ls hl => ?_)
  refine lv_goto (tgt := 17) hx hb dX1_partByNeed_83 (by decide) ?_
  exact K17 x1 x2 x3 x4 x5 (x6 + (-1)) σ _ _ _ hf hP hD hS (lv_sub hl [1, 2, 3, 4, 5, 6, 0] rfl)
set_option maxHeartbeats 4000000 in
set_option maxRecDepth 100000 in
theorem t_X1_partByNeed_86  (X : Fx p s m meth c D cA A RX1 cX1_partByNeed 7 none)  {x3 x4 : Int32} { σ : St} {H : Heap} {locs : List Loc} {ls : Array Slot} (hf : F_X1_partByNeed_86 x3 x4 σ = some (r, σ')) (hP : va_P D vwCl (wC cA ad ta σ) H) (hD : va_D A (wC cA ad ta σ)) (hS : va_S A s.heap H locs) (hl : lv_has ls 7 [(0, .ref (ad 5)), (3, .int x3), (4, .int x4)]) : W p l e (rm_X1_partByNeed) s m args below meth c H locs 0 0 (MQ below (QV D cA A (wC cA ad) σ' ta) args s 0 0 A) (F0 m 86 ls []) := by
  obtain ⟨hx, hb, hr, hml, hown, hlk, hE, hK, hA⟩ := id X
  rw [F_X1_partByNeed_86] at hf
  refine lv_aload_n hx hb dX1_partByNeed_86 rfl (lv_at hl 0 rfl) ?_
  refine lv_iload hx hb dX1_partByNeed_87 (lv_at hl 2 rfl) ?_
  refine lv_iconst (v := -1) hx hb dX1_partByNeed_89 (by decide) ?_
  refine lv_iload_n hx hb dX1_partByNeed_90 rfl (lv_at hl 1 rfl) ?_
  refine lv_iconst (v := 1) hx hb dX1_partByNeed_91 (by decide) ?_
  refine lv_iadd hx hb dX1_partByNeed_92 ?_
  obtain ⟨r1, s2, h3, hf⟩ := bo_e hf
  refine callV_v X cv_X1_await kw470 (c_X1_await l D cA A ad ta σ x4 (-1) (x3 + 1) r1 s2 h3) ⟨by decide, by decide⟩ ⟨rfl, rfl⟩ hP hD hS (q0 := 5) (ci := 1) rfl rfl rfl rfl hl rfl (Nat.le_of_ble_eq_true rfl) dX1_partByNeed_93 ⟨by decide, by decide⟩ (fun H locs hP hD hS => ?_)
  obtain ⟨rfl, rfl⟩ := Prod.mk.inj (Option.some.inj hf)
  exact ret_v X hP hD hS dX1_partByNeed_96
set_option maxHeartbeats 4000000 in
set_option maxRecDepth 100000 in
theorem t_X1_partByNeed_63 {k17 : Int32 → Int32 → Int32 → Int32 → Int32 → Int32 → St → Rs} (X : Fx p s m meth c D cA A RX1 cX1_partByNeed 7 none) (K17 : ∀ (x1 x2 x3 x4 x5 x6 : Int32) (σ : St) (H : Heap) (locs : List Loc) (ls : Array Slot), k17 x1 x2 x3 x4 x5 x6 σ = some (r, σ') → va_P D vwCl (wC cA ad ta σ) H → va_D A (wC cA ad ta σ) → va_S A s.heap H locs → lv_has ls 7 [(0, .ref (ad 5)), (1, .int x1), (2, .int x2), (3, .int x3), (4, .int x4), (5, .int x5), (6, .int x6)] → W p l e (rm_X1_partByNeed) s m args below meth c H locs 0 0 (MQ below (QV D cA A (wC cA ad) σ' ta) args s 0 0 A) (F0 m 17 ls [])) {x1 x2 x3 x4 x6 : Int32} { σ : St} {H : Heap} {locs : List Loc} {ls : Array Slot} (hf : F_X1_partByNeed_63 k17 x1 x2 x3 x4 x6 σ = some (r, σ')) (hP : va_P D vwCl (wC cA ad ta σ) H) (hD : va_D A (wC cA ad ta σ)) (hS : va_S A s.heap H locs) (hl : lv_has ls 7 [(0, .ref (ad 5)), (1, .int x1), (2, .int x2), (3, .int x3), (4, .int x4), (6, .int x6)]) : W p l e (rm_X1_partByNeed) s m args below meth c H locs 0 0 (MQ below (QV D cA A (wC cA ad) σ' ta) args s 0 0 A) (F0 m 63 ls []) := by
  obtain ⟨hx, hb, hr, hml, hown, hlk, hE, hK, hA⟩ := id X
  rw [F_X1_partByNeed_63] at hf
  refine lv_iload hx hb dX1_partByNeed_63 (lv_at hl 4 rfl) ?_
  refine lv_iconst (v := 1) hx hb dX1_partByNeed_65 (by decide) ?_
  refine lv_iload hx hb dX1_partByNeed_66 (lv_at hl 5 rfl) ?_
  refine lv_ishl hx hb dX1_partByNeed_68 ?_
  refine lv_ior hx hb dX1_partByNeed_69 ?_
  refine lv_topi (fun y1 ey1 => ?_)
  have hf := bd_x ey1 hf
  refine lv_istore (lv' := [(4, .int y1), (0, .ref (ad 5)), (1, .int x1), (2, .int x2), (3, .int x3), (6, .int x6)]) hx hb dX1_partByNeed_70 hl (by decide) rfl (fun ls hl => ?_)
  refine lv_iload_n hx hb dX1_partByNeed_72 rfl (lv_at hl 3 rfl) ?_
  refine lv_iload hx hb dX1_partByNeed_73 (lv_at hl 5 rfl) ?_
  obtain ⟨r2, s3, h4, hf⟩ := bo_e hf
  refine callSN_i X cs_X8_has kw497 (c_X8_has l D cA A ad ta σ x2 x6 r2 s3 h4) ⟨by decide, by decide⟩ ⟨rfl, rfl⟩ hP hD hS rfl hl rfl (Nat.le_of_ble_eq_true rfl) dX1_partByNeed_75 ⟨by decide, by decide⟩ (fun H locs hP hD hS => ?_)
  refine lv_istore (lv' := [(5, .int r2), (4, .int y1), (0, .ref (ad 5)), (1, .int x1), (2, .int x2), (3, .int x3), (6, .int x6)]) hx hb dX1_partByNeed_78 hl (by decide) rfl (fun ls hl => ?_)
  exact t_X1_partByNeed_80 X K17 hf hP hD hS (lv_sub hl [2, 3, 4, 5, 1, 0, 6] rfl)
set_option maxHeartbeats 4000000 in
set_option maxRecDepth 100000 in
theorem t_X1_partByNeed_17  (X : Fx p s m meth c D cA A RX1 cX1_partByNeed 7 none)  : ∀ (n : Nat) (x1 x2 x3 x4 x5 x6 : Int32) (σ : St) (H : Heap) (locs : List Loc) (ls : Array Slot), F_X1_partByNeed_17 n x1 x2 x3 x4 x5 x6 σ = some (r, σ') → va_P D vwCl (wC cA ad ta σ) H → va_D A (wC cA ad ta σ) → va_S A s.heap H locs → lv_has ls 7 [(0, .ref (ad 5)), (1, .int x1), (2, .int x2), (3, .int x3), (4, .int x4), (5, .int x5), (6, .int x6)] → W p l e (rm_X1_partByNeed) s m args below meth c H locs 0 0 (MQ below (QV D cA A (wC cA ad) σ' ta) args s 0 0 A) (F0 m 17 ls []) := by
  obtain ⟨hx, hb, hr, hml, hown, hlk, hE, hK, hA⟩ := id X
  intro n
  induction n with
  | zero =>
    intro x1 x2 x3 x4 x5 x6 σ H locs ls hf
    cases (show (none : Rs) = some _ from hf)
  | succ n ih =>
    intro x1 x2 x3 x4 x5 x6 σ H locs ls hf hP hD hS hl
    rw [F_X1_partByNeed_17] at hf
    refine lv_iload hx hb dX1_partByNeed_17 (lv_at hl 6 rfl) ?_
    refine lv_if_lt (tgt := 86) hx hb dX1_partByNeed_19 (by decide) (fun c1 => ?_) (fun c1 => ?_)
    · have hf := it_t c1 hf
      exact t_X1_partByNeed_86 X  hf hP hD hS (lv_sub hl [0, 3, 4] rfl)
    · have hf := it_f c1 hf
      refine lv_iload_n hx hb dX1_partByNeed_22 rfl (lv_at hl 1 rfl) ?_
      refine lv_iload hx hb dX1_partByNeed_23 (lv_at hl 6 rfl) ?_
      obtain ⟨r2, s3, h4, hf⟩ := bo_e hf
      refine callSN_i X cs_X8_has kw497 (c_X8_has l D cA A ad ta σ x1 x6 r2 s3 h4) ⟨by decide, by decide⟩ ⟨rfl, rfl⟩ hP hD hS rfl hl rfl (Nat.le_of_ble_eq_true rfl) dX1_partByNeed_25 ⟨by decide, by decide⟩ (fun H locs hP hD hS => ?_)
      refine lv_if_ne (tgt := 34) hx hb dX1_partByNeed_28 (by decide) (fun c5 => ?_) (fun c5 => ?_)
      · have hf := it_f c5 hf
        refine lv_iload hx hb dX1_partByNeed_34 (lv_at hl 4 rfl) ?_
        refine lv_if_eq (tgt := 63) hx hb dX1_partByNeed_36 (by decide) (fun c6 => ?_) (fun c6 => ?_)
        · have hf := it_t c6 hf
          exact t_X1_partByNeed_63 X ih hf hP hD hS (lv_sub hl [0, 1, 2, 3, 4, 6] rfl)
        · have hf := it_f c6 hf
          refine lv_iload_n hx hb dX1_partByNeed_39 rfl (lv_at hl 2 rfl) ?_
          refine lv_iload hx hb dX1_partByNeed_40 (lv_at hl 6 rfl) ?_
          obtain ⟨r7, s8, h9, hf⟩ := bo_e hf
          refine callSN_i X cs_X8_has kw497 (c_X8_has l D cA A ad ta s3 x2 x6 r7 s8 h9) ⟨by decide, by decide⟩ ⟨rfl, rfl⟩ hP hD hS rfl hl rfl (Nat.le_of_ble_eq_true rfl) dX1_partByNeed_42 ⟨by decide, by decide⟩ (fun H locs hP hD hS => ?_)
          refine lv_iload hx hb dX1_partByNeed_45 (lv_at hl 5 rfl) ?_
          refine lv_icmp_eq (tgt := 63) hx hb dX1_partByNeed_47 (by decide) (fun c10 => ?_) (fun c10 => ?_)
          · have hf := it_t c10 hf
            exact t_X1_partByNeed_63 X ih hf hP hD hS (lv_sub hl [0, 1, 2, 3, 4, 6] rfl)
          · have hf := it_f c10 hf
            refine lv_aload_n hx hb dX1_partByNeed_50 rfl (lv_at hl 0 rfl) ?_
            refine lv_iload hx hb dX1_partByNeed_51 (lv_at hl 4 rfl) ?_
            refine lv_iconst (v := -1) hx hb dX1_partByNeed_53 (by decide) ?_
            refine lv_iload_n hx hb dX1_partByNeed_54 rfl (lv_at hl 3 rfl) ?_
            refine lv_iconst (v := 1) hx hb dX1_partByNeed_55 (by decide) ?_
            refine lv_iadd hx hb dX1_partByNeed_56 ?_
            obtain ⟨r11, s12, h13, hf⟩ := bo_e hf
            refine callV_v X cv_X1_await kw470 (c_X1_await l D cA A ad ta s8 x4 (-1) (x3 + 1) r11 s12 h13) ⟨by decide, by decide⟩ ⟨rfl, rfl⟩ hP hD hS (q0 := 5) (ci := 1) rfl rfl rfl rfl hl rfl (Nat.le_of_ble_eq_true rfl) dX1_partByNeed_57 ⟨by decide, by decide⟩ (fun H locs hP hD hS => ?_)
            refine lv_iconst (v := 0) hx hb dX1_partByNeed_60 (by decide) ?_
            refine lv_istore (lv' := [(4, .int 0), (0, .ref (ad 5)), (1, .int x1), (2, .int x2), (3, .int x3), (5, .int x5), (6, .int x6)]) hx hb dX1_partByNeed_61 hl (by decide) rfl (fun ls hl => ?_)
            exact t_X1_partByNeed_63 X ih hf hP hD hS (lv_sub hl [1, 2, 3, 4, 0, 6] rfl)
      · have hf := it_t c5 hf
        refine lv_goto (tgt := 80) hx hb dX1_partByNeed_31 (by decide) ?_
        exact t_X1_partByNeed_80 X ih hf hP hD hS (lv_sub hl [0, 1, 2, 3, 4, 5, 6] rfl)
set_option maxHeartbeats 4000000 in
set_option maxRecDepth 100000 in
theorem t_X1_partByNeed_0  (X : Fx p s m meth c D cA A RX1 cX1_partByNeed 7 none)  {x1 x2 x3 : Int32} { σ : St} {H : Heap} {locs : List Loc} {ls : Array Slot} (hf : F_X1_partByNeed x1 x2 x3 σ = some (r, σ')) (hP : va_P D vwCl (wC cA ad ta σ) H) (hD : va_D A (wC cA ad ta σ)) (hS : va_S A s.heap H locs) (hl : lv_has ls 7 [(0, .ref (ad 5)), (1, .int x1), (2, .int x2), (3, .int x3)]) : W p l e (rm_X1_partByNeed) s m args below meth c H locs 0 0 (MQ below (QV D cA A (wC cA ad) σ' ta) args s 0 0 A) (F0 m 0 ls []) := by
  obtain ⟨hx, hb, hr, hml, hown, hlk, hE, hK, hA⟩ := id X
  rw [F_X1_partByNeed] at hf
  refine lv_iconst (v := 0) hx hb dX1_partByNeed_0 (by decide) ?_
  refine lv_istore (lv' := [(4, .int 0), (0, .ref (ad 5)), (1, .int x1), (2, .int x2), (3, .int x3)]) hx hb dX1_partByNeed_1 hl (by decide) rfl (fun ls hl => ?_)
  refine lv_iconst (v := 0) hx hb dX1_partByNeed_3 (by decide) ?_
  refine lv_istore (lv' := [(5, .int 0), (4, .int 0), (0, .ref (ad 5)), (1, .int x1), (2, .int x2), (3, .int x3)]) hx hb dX1_partByNeed_4 hl (by decide) rfl (fun ls hl => ?_)
  refine lv_aload_n hx hb dX1_partByNeed_6 rfl (lv_at hl 2 rfl) ?_
  refine gC_Pla_rules X hP kw169 dX1_partByNeed_7 ?_
  refine gCN_Rul_many X hP kw112 dX1_partByNeed_10 ?_
  refine lv_iconst (v := 1) hx hb dX1_partByNeed_13 (by decide) ?_
  refine lv_isub hx hb dX1_partByNeed_14 ?_
  refine lv_topi (fun y1 ey1 => ?_)
  have hf := bd_x ey1 hf
  refine lv_istore (lv' := [(6, .int y1), (5, .int 0), (4, .int 0), (0, .ref (ad 5)), (1, .int x1), (2, .int x2), (3, .int x3)]) hx hb dX1_partByNeed_15 hl (by decide) rfl (fun ls hl => ?_)
  exact t_X1_partByNeed_17 X  5000 x1 x2 x3 0 0 y1 σ _ _ _ hf hP hD hS (lv_sub hl [3, 4, 5, 6, 2, 1, 0] rfl)
end S_X1_partByNeed
theorem c_X1_partByNeed (l : Launch) (D : va_G) (cA : ClassId) (A : Nat → Prop) (ad : Nat → Nat) (ta : Nat) (σ : St) (x1 x2 x3 : Int32) (r : Int32) (σ' : St) (hf : F_X1_partByNeed x1 x2 x3 σ = some (r, σ')) : MV l D cA A (wC cA ad) yX1_partByNeed cX1_partByNeed 7 none rm_X1_partByNeed [.ref (ad 5), .int x1, .int x2, .int x3] ta σ σ' 0 0 := by
  refine enter (by decide) (Nat.le_of_ble_eq_true rfl) ?_
  intro p e s m below meth c ls X hnm hP hD hS hl
  exact t_X1_partByNeed_0 X hf hP hD hS hl
abbrev rm_X1_partEach : Room := { frames := 2, cells := 0, slots := 0, locals := 45 }
def F_X1_partEach_33 (k10 : Int32 → Int32 → Int32 → St → Rs) (x1 : Int32) (x2 : Int32) (x3 : Int32) (σ : St) : Rs :=
  k10 x1 x2 (x3 + (-1)) σ
def F_X1_partEach_10  : Nat → Int32 → Int32 → Int32 → St → Rs
  | 0, _, _, _, _ => none
  | n + 1, x1, x2, x3, σ => if x3 < 0 then (some (0, σ)) else (bo (F_X8_has x1 x3 σ) (fun r2 s3 => if r2 = 0 then (F_X1_partEach_33 (F_X1_partEach_10 n) x1 x2 x3 s3) else (bo (F_X1_await (1 <<< (x3 &&& 31)) (-1) (x2 + 1) s3) (fun r6 s7 => F_X1_partEach_33 (F_X1_partEach_10 n) x1 x2 x3 s7))))
def F_X1_partEach (x1 : Int32) (x2 : Int32) (σ : St) : Rs :=
  bd ((gF σ 8) - 1) (fun y1 => F_X1_partEach_10 5000 x1 x2 y1 σ)
section S_X1_partEach
variable {p : Program} {l : Launch} {e : Env} {s : State} {m : MethodId} {args : Array Value} {below : List Frame} {meth : Method} {c : Code}
variable {D : va_G} {cA : ClassId} {A : Nat → Prop} {ad : Nat → Nat} {r : Int32} {σ' : St} {ta : Nat}
set_option maxHeartbeats 4000000 in
set_option maxRecDepth 100000 in
theorem t_X1_partEach_33 {k10 : Int32 → Int32 → Int32 → St → Rs} (X : Fx p s m meth c D cA A RX1 cX1_partEach 4 none) (K10 : ∀ (x1 x2 x3 : Int32) (σ : St) (H : Heap) (locs : List Loc) (ls : Array Slot), k10 x1 x2 x3 σ = some (r, σ') → va_P D vwCl (wC cA ad ta σ) H → va_D A (wC cA ad ta σ) → va_S A s.heap H locs → lv_has ls 4 [(0, .ref (ad 5)), (1, .int x1), (2, .int x2), (3, .int x3)] → W p l e (rm_X1_partEach) s m args below meth c H locs 0 0 (MQ below (QV D cA A (wC cA ad) σ' ta) args s 0 0 A) (F0 m 10 ls [])) {x1 x2 x3 : Int32} { σ : St} {H : Heap} {locs : List Loc} {ls : Array Slot} (hf : F_X1_partEach_33 k10 x1 x2 x3 σ = some (r, σ')) (hP : va_P D vwCl (wC cA ad ta σ) H) (hD : va_D A (wC cA ad ta σ)) (hS : va_S A s.heap H locs) (hl : lv_has ls 4 [(0, .ref (ad 5)), (1, .int x1), (2, .int x2), (3, .int x3)]) : W p l e (rm_X1_partEach) s m args below meth c H locs 0 0 (MQ below (QV D cA A (wC cA ad) σ' ta) args s 0 0 A) (F0 m 33 ls []) := by
  obtain ⟨hx, hb, hr, hml, hown, hlk, hE, hK, hA⟩ := id X
  rw [F_X1_partEach_33] at hf
  refine lv_iinc (v := (x3 + (-1))) (lv' := [(3, .int (x3 + (-1))), (0, .ref (ad 5)), (1, .int x1), (2, .int x2)]) hx hb dX1_partEach_33 hl (k := 3) rfl rfl (by decide) rfl (fun ls hl => ?_)
  refine lv_goto (tgt := 10) hx hb dX1_partEach_36 (by decide) ?_
  exact K10 x1 x2 (x3 + (-1)) σ _ _ _ hf hP hD hS (lv_sub hl [1, 2, 3, 0] rfl)
set_option maxHeartbeats 4000000 in
set_option maxRecDepth 100000 in
theorem t_X1_partEach_10  (X : Fx p s m meth c D cA A RX1 cX1_partEach 4 none)  : ∀ (n : Nat) (x1 x2 x3 : Int32) (σ : St) (H : Heap) (locs : List Loc) (ls : Array Slot), F_X1_partEach_10 n x1 x2 x3 σ = some (r, σ') → va_P D vwCl (wC cA ad ta σ) H → va_D A (wC cA ad ta σ) → va_S A s.heap H locs → lv_has ls 4 [(0, .ref (ad 5)), (1, .int x1), (2, .int x2), (3, .int x3)] → W p l e (rm_X1_partEach) s m args below meth c H locs 0 0 (MQ below (QV D cA A (wC cA ad) σ' ta) args s 0 0 A) (F0 m 10 ls []) := by
  obtain ⟨hx, hb, hr, hml, hown, hlk, hE, hK, hA⟩ := id X
  intro n
  induction n with
  | zero =>
    intro x1 x2 x3 σ H locs ls hf
    cases (show (none : Rs) = some _ from hf)
  | succ n ih =>
    intro x1 x2 x3 σ H locs ls hf hP hD hS hl
    rw [F_X1_partEach_10] at hf
    refine lv_iload_n hx hb dX1_partEach_10 rfl (lv_at hl 3 rfl) ?_
    refine lv_if_lt (tgt := 39) hx hb dX1_partEach_11 (by decide) (fun c1 => ?_) (fun c1 => ?_)
    · have hf := it_t c1 hf
      obtain ⟨rfl, rfl⟩ := Prod.mk.inj (Option.some.inj hf)
      exact ret_v X hP hD hS dX1_partEach_39
    · have hf := it_f c1 hf
      refine lv_iload_n hx hb dX1_partEach_14 rfl (lv_at hl 1 rfl) ?_
      refine lv_iload_n hx hb dX1_partEach_15 rfl (lv_at hl 3 rfl) ?_
      obtain ⟨r2, s3, h4, hf⟩ := bo_e hf
      refine callSN_i X cs_X8_has kw497 (c_X8_has l D cA A ad ta σ x1 x3 r2 s3 h4) ⟨by decide, by decide⟩ ⟨rfl, rfl⟩ hP hD hS rfl hl rfl (Nat.le_of_ble_eq_true rfl) dX1_partEach_16 ⟨by decide, by decide⟩ (fun H locs hP hD hS => ?_)
      refine lv_if_eq (tgt := 33) hx hb dX1_partEach_19 (by decide) (fun c5 => ?_) (fun c5 => ?_)
      · have hf := it_t c5 hf
        exact t_X1_partEach_33 X ih hf hP hD hS (lv_sub hl [0, 1, 2, 3] rfl)
      · have hf := it_f c5 hf
        refine lv_aload_n hx hb dX1_partEach_22 rfl (lv_at hl 0 rfl) ?_
        refine lv_iconst (v := 1) hx hb dX1_partEach_23 (by decide) ?_
        refine lv_iload_n hx hb dX1_partEach_24 rfl (lv_at hl 3 rfl) ?_
        refine lv_ishl hx hb dX1_partEach_25 ?_
        refine lv_iconst (v := -1) hx hb dX1_partEach_26 (by decide) ?_
        refine lv_iload_n hx hb dX1_partEach_27 rfl (lv_at hl 2 rfl) ?_
        refine lv_iconst (v := 1) hx hb dX1_partEach_28 (by decide) ?_
        refine lv_iadd hx hb dX1_partEach_29 ?_
        obtain ⟨r6, s7, h8, hf⟩ := bo_e hf
        refine callV_v X cv_X1_await kw470 (c_X1_await l D cA A ad ta s3 (1 <<< (x3 &&& 31)) (-1) (x2 + 1) r6 s7 h8) ⟨by decide, by decide⟩ ⟨rfl, rfl⟩ hP hD hS (q0 := 5) (ci := 1) rfl rfl rfl rfl hl rfl (Nat.le_of_ble_eq_true rfl) dX1_partEach_30 ⟨by decide, by decide⟩ (fun H locs hP hD hS => ?_)
        exact t_X1_partEach_33 X ih hf hP hD hS (lv_sub hl [0, 1, 2, 3] rfl)
set_option maxHeartbeats 4000000 in
set_option maxRecDepth 100000 in
theorem t_X1_partEach_0  (X : Fx p s m meth c D cA A RX1 cX1_partEach 4 none)  {x1 x2 : Int32} { σ : St} {H : Heap} {locs : List Loc} {ls : Array Slot} (hf : F_X1_partEach x1 x2 σ = some (r, σ')) (hP : va_P D vwCl (wC cA ad ta σ) H) (hD : va_D A (wC cA ad ta σ)) (hS : va_S A s.heap H locs) (hl : lv_has ls 4 [(0, .ref (ad 5)), (1, .int x1), (2, .int x2)]) : W p l e (rm_X1_partEach) s m args below meth c H locs 0 0 (MQ below (QV D cA A (wC cA ad) σ' ta) args s 0 0 A) (F0 m 0 ls []) := by
  obtain ⟨hx, hb, hr, hml, hown, hlk, hE, hK, hA⟩ := id X
  rw [F_X1_partEach] at hf
  refine lv_aload_n hx hb dX1_partEach_0 rfl (lv_at hl 0 rfl) ?_
  refine gC_Pla_rules X hP kw169 dX1_partEach_1 ?_
  refine gCN_Rul_many X hP kw112 dX1_partEach_4 ?_
  refine lv_iconst (v := 1) hx hb dX1_partEach_7 (by decide) ?_
  refine lv_isub hx hb dX1_partEach_8 ?_
  refine lv_topi (fun y1 ey1 => ?_)
  have hf := bd_x ey1 hf
  refine lv_istore_n (lv' := [(3, .int y1), (0, .ref (ad 5)), (1, .int x1), (2, .int x2)]) hx hb dX1_partEach_9 rfl hl (by decide) rfl (fun ls hl => ?_)
  exact t_X1_partEach_10 X  5000 x1 x2 y1 σ _ _ _ hf hP hD hS (lv_sub hl [1, 2, 3, 0] rfl)
end S_X1_partEach
theorem c_X1_partEach (l : Launch) (D : va_G) (cA : ClassId) (A : Nat → Prop) (ad : Nat → Nat) (ta : Nat) (σ : St) (x1 x2 : Int32) (r : Int32) (σ' : St) (hf : F_X1_partEach x1 x2 σ = some (r, σ')) : MV l D cA A (wC cA ad) yX1_partEach cX1_partEach 4 none rm_X1_partEach [.ref (ad 5), .int x1, .int x2] ta σ σ' 0 0 := by
  refine enter (by decide) (Nat.le_of_ble_eq_true rfl) ?_
  intro p e s m below meth c ls X hnm hP hD hS hl
  exact t_X1_partEach_0 X hf hP hD hS hl
abbrev rm_X1_grow : Room := { frames := 4, cells := 0, slots := 0, locals := 90 }
def F_X1_grow (x1 : Int32) (x2 : Int32) (x3 : Int32) (σ : St) : Rs :=
  bo (F_X1_takePosition x1 σ) (fun r1 s2 => bd (gF s2 10) (fun y4 => if r1 = x1 then (bo (F_X1_firstOf x1 s2) (fun r29 s30 => bd (rd 24 (gA s30 32) r29) (fun y32 => bo (F_X1_ask x1 x3 s30) (fun r33 s34 => bo (F_X6_add 1 y32 x2 x3 ((gF s34 10) - y4) s34) (fun r36 s37 => some (0, s37)))))) else (if r1 = 0 then (bo (F_J6_bitCount_0f7a4 x1 s2) (fun r7 s8 => if r7 ≤ 1 then (bo (F_X1_firstOf x1 s8) (fun r11 s12 => bo (F_X6_add 0 r11 x2 x3 0 s12) (fun r14 s15 => some (0, s15)))) else (bo (F_X1_partEach x1 x3 s8) (fun r17 s18 => bo (F_X6_add 2 (-1) x2 x3 ((gF s18 10) - y4) s18) (fun r20 s21 => some (0, s21)))))) else (bo (F_X1_partByNeed x1 r1 x3 s2) (fun r23 s24 => bo (F_X6_add 2 (-1) x2 x3 ((gF s24 10) - y4) s24) (fun r26 s27 => some (0, s27)))))))
section S_X1_grow
variable {p : Program} {l : Launch} {e : Env} {s : State} {m : MethodId} {args : Array Value} {below : List Frame} {meth : Method} {c : Code}
variable {D : va_G} {cA : ClassId} {A : Nat → Prop} {ad : Nat → Nat} {r : Int32} {σ' : St} {ta : Nat}
set_option maxHeartbeats 4000000 in
set_option maxRecDepth 100000 in
theorem t_X1_grow_0  (X : Fx p s m meth c D cA A RX1 cX1_grow 7 none)  {x1 x2 x3 : Int32} { σ : St} {H : Heap} {locs : List Loc} {ls : Array Slot} (hf : F_X1_grow x1 x2 x3 σ = some (r, σ')) (hP : va_P D vwCl (wC cA ad ta σ) H) (hD : va_D A (wC cA ad ta σ)) (hS : va_S A s.heap H locs) (hl : lv_has ls 7 [(0, .ref (ad 5)), (1, .int x1), (2, .int x2), (3, .int x3)]) : W p l e (rm_X1_grow) s m args below meth c H locs 0 0 (MQ below (QV D cA A (wC cA ad) σ' ta) args s 0 0 A) (F0 m 0 ls []) := by
  obtain ⟨hx, hb, hr, hml, hown, hlk, hE, hK, hA⟩ := id X
  rw [F_X1_grow] at hf
  refine lv_aload_n hx hb dX1_grow_0 rfl (lv_at hl 0 rfl) ?_
  refine lv_iload_n hx hb dX1_grow_1 rfl (lv_at hl 1 rfl) ?_
  obtain ⟨r1, s2, h3, hf⟩ := bo_e hf
  refine callV_i X cv_X1_takePosition kw480 (c_X1_takePosition l D cA A ad ta σ x1 r1 s2 h3) ⟨by decide, by decide⟩ ⟨rfl, rfl⟩ hP hD hS (q0 := 5) (ci := 1) rfl rfl rfl rfl hl rfl (Nat.le_of_ble_eq_true rfl) dX1_grow_2 ⟨by decide, by decide⟩ (fun H locs hP hD hS => ?_)
  refine lv_istore (lv' := [(4, .int r1), (0, .ref (ad 5)), (1, .int x1), (2, .int x2), (3, .int x3)]) hx hb dX1_grow_5 hl (by decide) rfl (fun ls hl => ?_)
  refine lv_aload_n hx hb dX1_grow_7 rfl (lv_at hl 1 rfl) ?_
  refine gC_Pla_waiting X hP kw175 dX1_grow_8 ?_
  refine lv_topi (fun y4 ey4 => ?_)
  have hf := bd_x ey4 hf
  refine lv_istore (lv' := [(5, .int y4), (4, .int r1), (0, .ref (ad 5)), (1, .int x1), (2, .int x2), (3, .int x3)]) hx hb dX1_grow_11 hl (by decide) rfl (fun ls hl => ?_)
  refine lv_iload hx hb dX1_grow_13 (lv_at hl 1 rfl) ?_
  refine lv_iload_n hx hb dX1_grow_15 rfl (lv_at hl 3 rfl) ?_
  refine lv_icmp_ne (tgt := 60) hx hb dX1_grow_16 (by decide) (fun c5 => ?_) (fun c5 => ?_)
  · have hf := it_f c5 hf
    refine lv_iload hx hb dX1_grow_60 (lv_at hl 1 rfl) ?_
    refine lv_if_eq (tgt := 94) hx hb dX1_grow_62 (by decide) (fun c6 => ?_) (fun c6 => ?_)
    · have hf := it_t c6 hf
      refine lv_iload_n hx hb dX1_grow_94 rfl (lv_at hl 3 rfl) ?_
      obtain ⟨r7, s8, h9, hf⟩ := bo_e hf
      refine callS_i X cs_J6_bitCount_0f7a4 kw487 (c_J6_bitCount_0f7a4 l D cA A (wC cA ad) ta s2 x1 r7 s8 h9) ⟨by decide, by decide⟩ ⟨rfl, rfl⟩ hP hD hS rfl hl rfl (Nat.le_of_ble_eq_true rfl) dX1_grow_95 ⟨by decide, by decide⟩ (fun H locs hP hD hS => ?_)
      refine lv_iconst (v := 1) hx hb dX1_grow_98 (by decide) ?_
      refine lv_icmp_le (tgt := 129) hx hb dX1_grow_99 (by decide) (fun c10 => ?_) (fun c10 => ?_)
      · have hf := it_t c10 hf
        refine lv_aload_n hx hb dX1_grow_129 rfl (lv_at hl 2 rfl) ?_
        refine gC_Pla_tree X hP kw170 dX1_grow_130 ?_
        refine lv_iconst (v := 0) hx hb dX1_grow_133 (by decide) ?_
        refine lv_iload_n hx hb dX1_grow_134 rfl (lv_at hl 3 rfl) ?_
        obtain ⟨r11, s12, h13, hf⟩ := bo_e hf
        refine callS_i X cs_X1_firstOf kw484 (c_X1_firstOf l D cA A ad ta s8 x1 r11 s12 h13) ⟨by decide, by decide⟩ ⟨rfl, rfl⟩ hP hD hS rfl hl rfl (Nat.le_of_ble_eq_true rfl) dX1_grow_135 ⟨by decide, by decide⟩ (fun H locs hP hD hS => ?_)
        refine lv_iload_n hx hb dX1_grow_138 rfl (lv_at hl 4 rfl) ?_
        refine lv_iload_n hx hb dX1_grow_139 rfl (lv_at hl 5 rfl) ?_
        refine lv_iconst (v := 0) hx hb dX1_grow_140 (by decide) ?_
        obtain ⟨r14, s15, h16, hf⟩ := bo_e hf
        refine callVN_v X cv_X6_add kw536 (c_X6_add l D cA A ad ta s12 0 r11 x2 x3 0 r14 s15 h16) ⟨by decide, by decide⟩ ⟨rfl, rfl⟩ hP hD hS (q0 := 4) (ci := 6) rfl rfl rfl rfl hl rfl (Nat.le_of_ble_eq_true rfl) dX1_grow_141 ⟨by decide, by decide⟩ (fun H locs hP hD hS => ?_)
        obtain ⟨rfl, rfl⟩ := Prod.mk.inj (Option.some.inj hf)
        exact ret_v X hP hD hS dX1_grow_144
      · have hf := it_f c10 hf
        refine lv_aload_n hx hb dX1_grow_102 rfl (lv_at hl 2 rfl) ?_
        refine lv_iload_n hx hb dX1_grow_103 rfl (lv_at hl 3 rfl) ?_
        refine lv_iload_n hx hb dX1_grow_104 rfl (lv_at hl 5 rfl) ?_
        obtain ⟨r17, s18, h19, hf⟩ := bo_e hf
        refine callV_v X cv_X1_partEach kw545 (c_X1_partEach l D cA A ad ta s8 x1 x3 r17 s18 h19) ⟨by decide, by decide⟩ ⟨rfl, rfl⟩ hP hD hS (q0 := 5) (ci := 1) rfl rfl rfl rfl hl rfl (Nat.le_of_ble_eq_true rfl) dX1_grow_105 ⟨by decide, by decide⟩ (fun H locs hP hD hS => ?_)
        refine lv_aload_n hx hb dX1_grow_108 rfl (lv_at hl 2 rfl) ?_
        refine gC_Pla_tree X hP kw170 dX1_grow_109 ?_
        refine lv_iconst (v := 2) hx hb dX1_grow_112 (by decide) ?_
        refine lv_iconst (v := -1) hx hb dX1_grow_113 (by decide) ?_
        refine lv_iload_n hx hb dX1_grow_114 rfl (lv_at hl 4 rfl) ?_
        refine lv_iload_n hx hb dX1_grow_115 rfl (lv_at hl 5 rfl) ?_
        refine lv_aload_n hx hb dX1_grow_116 rfl (lv_at hl 2 rfl) ?_
        refine gC_Pla_waiting X hP kw175 dX1_grow_117 ?_
        refine lv_iload hx hb dX1_grow_120 (lv_at hl 0 rfl) ?_
        refine lv_isub hx hb dX1_grow_122 ?_
        obtain ⟨r20, s21, h22, hf⟩ := bo_e hf
        refine callVN_v X cv_X6_add kw536 (c_X6_add l D cA A ad ta s18 2 (-1) x2 x3 ((gF s18 10) - y4) r20 s21 h22) ⟨by decide, by decide⟩ ⟨rfl, rfl⟩ hP hD hS (q0 := 4) (ci := 6) rfl rfl rfl rfl hl rfl (Nat.le_of_ble_eq_true rfl) dX1_grow_123 ⟨by decide, by decide⟩ (fun H locs hP hD hS => ?_)
        refine lv_goto (tgt := 144) hx hb dX1_grow_126 (by decide) ?_
        obtain ⟨rfl, rfl⟩ := Prod.mk.inj (Option.some.inj hf)
        exact ret_v X hP hD hS dX1_grow_144
    · have hf := it_f c6 hf
      refine lv_aload_n hx hb dX1_grow_65 rfl (lv_at hl 2 rfl) ?_
      refine lv_iload_n hx hb dX1_grow_66 rfl (lv_at hl 3 rfl) ?_
      refine lv_iload hx hb dX1_grow_67 (lv_at hl 1 rfl) ?_
      refine lv_iload_n hx hb dX1_grow_69 rfl (lv_at hl 5 rfl) ?_
      obtain ⟨r23, s24, h25, hf⟩ := bo_e hf
      refine callV_v X cv_X1_partByNeed kw541 (c_X1_partByNeed l D cA A ad ta s2 x1 r1 x3 r23 s24 h25) ⟨by decide, by decide⟩ ⟨rfl, rfl⟩ hP hD hS (q0 := 5) (ci := 1) rfl rfl rfl rfl hl rfl (Nat.le_of_ble_eq_true rfl) dX1_grow_70 ⟨by decide, by decide⟩ (fun H locs hP hD hS => ?_)
      refine lv_aload_n hx hb dX1_grow_73 rfl (lv_at hl 2 rfl) ?_
      refine gC_Pla_tree X hP kw170 dX1_grow_74 ?_
      refine lv_iconst (v := 2) hx hb dX1_grow_77 (by decide) ?_
      refine lv_iconst (v := -1) hx hb dX1_grow_78 (by decide) ?_
      refine lv_iload_n hx hb dX1_grow_79 rfl (lv_at hl 4 rfl) ?_
      refine lv_iload_n hx hb dX1_grow_80 rfl (lv_at hl 5 rfl) ?_
      refine lv_aload_n hx hb dX1_grow_81 rfl (lv_at hl 2 rfl) ?_
      refine gC_Pla_waiting X hP kw175 dX1_grow_82 ?_
      refine lv_iload hx hb dX1_grow_85 (lv_at hl 0 rfl) ?_
      refine lv_isub hx hb dX1_grow_87 ?_
      obtain ⟨r26, s27, h28, hf⟩ := bo_e hf
      refine callVN_v X cv_X6_add kw536 (c_X6_add l D cA A ad ta s24 2 (-1) x2 x3 ((gF s24 10) - y4) r26 s27 h28) ⟨by decide, by decide⟩ ⟨rfl, rfl⟩ hP hD hS (q0 := 4) (ci := 6) rfl rfl rfl rfl hl rfl (Nat.le_of_ble_eq_true rfl) dX1_grow_88 ⟨by decide, by decide⟩ (fun H locs hP hD hS => ?_)
      refine lv_goto (tgt := 144) hx hb dX1_grow_91 (by decide) ?_
      obtain ⟨rfl, rfl⟩ := Prod.mk.inj (Option.some.inj hf)
      exact ret_v X hP hD hS dX1_grow_144
  · have hf := it_t c5 hf
    refine lv_aload_n hx hb dX1_grow_19 rfl (lv_at hl 2 rfl) ?_
    refine gC_Pla_cursor X hP kw174 dX1_grow_20 ?_
    refine lv_iload_n hx hb dX1_grow_23 rfl (lv_at hl 3 rfl) ?_
    obtain ⟨r29, s30, h31, hf⟩ := bo_e hf
    refine callS_i X cs_X1_firstOf kw484 (c_X1_firstOf l D cA A ad ta s2 x1 r29 s30 h31) ⟨by decide, by decide⟩ ⟨rfl, rfl⟩ hP hD hS rfl hl rfl (Nat.le_of_ble_eq_true rfl) dX1_grow_24 ⟨by decide, by decide⟩ (fun H locs hP hD hS => ?_)
    refine callSN_i X cs_X8_get kw475 (c_get l D cA A (wC cA ad) ta s30 32 (ad 32) 24 (gA s30 32) r29 (by decide) rfl) ⟨by decide, by decide⟩ ⟨rfl, rfl⟩ hP hD hS rfl hl rfl (Nat.le_of_ble_eq_true rfl) dX1_grow_27 ⟨by decide, by decide⟩ (fun H locs hP hD hS => ?_)
    refine lv_topi (fun y32 ey32 => ?_)
    have hf := bd_x ey32 hf
    refine lv_istore (lv' := [(6, .int y32), (5, .int y4), (4, .int r1), (0, .ref (ad 5)), (1, .int x1), (2, .int x2), (3, .int x3)]) hx hb dX1_grow_30 hl (by decide) rfl (fun ls hl => ?_)
    refine lv_aload_n hx hb dX1_grow_32 rfl (lv_at hl 3 rfl) ?_
    refine lv_iload_n hx hb dX1_grow_33 rfl (lv_at hl 4 rfl) ?_
    refine lv_iload_n hx hb dX1_grow_34 rfl (lv_at hl 6 rfl) ?_
    obtain ⟨r33, s34, h35, hf⟩ := bo_e hf
    refine callV_v X cv_X1_ask kw521 (c_X1_ask l D cA A ad ta s30 x1 x3 r33 s34 h35) ⟨by decide, by decide⟩ ⟨rfl, rfl⟩ hP hD hS (q0 := 5) (ci := 1) rfl rfl rfl rfl hl rfl (Nat.le_of_ble_eq_true rfl) dX1_grow_35 ⟨by decide, by decide⟩ (fun H locs hP hD hS => ?_)
    refine lv_aload_n hx hb dX1_grow_38 rfl (lv_at hl 3 rfl) ?_
    refine gC_Pla_tree X hP kw170 dX1_grow_39 ?_
    refine lv_iconst (v := 1) hx hb dX1_grow_42 (by decide) ?_
    refine lv_iload hx hb dX1_grow_43 (lv_at hl 0 rfl) ?_
    refine lv_iload_n hx hb dX1_grow_45 rfl (lv_at hl 5 rfl) ?_
    refine lv_iload_n hx hb dX1_grow_46 rfl (lv_at hl 6 rfl) ?_
    refine lv_aload_n hx hb dX1_grow_47 rfl (lv_at hl 3 rfl) ?_
    refine gC_Pla_waiting X hP kw175 dX1_grow_48 ?_
    refine lv_iload hx hb dX1_grow_51 (lv_at hl 1 rfl) ?_
    refine lv_isub hx hb dX1_grow_53 ?_
    obtain ⟨r36, s37, h38, hf⟩ := bo_e hf
    refine callVN_v X cv_X6_add kw536 (c_X6_add l D cA A ad ta s34 1 y32 x2 x3 ((gF s34 10) - y4) r36 s37 h38) ⟨by decide, by decide⟩ ⟨rfl, rfl⟩ hP hD hS (q0 := 4) (ci := 6) rfl rfl rfl rfl hl rfl (Nat.le_of_ble_eq_true rfl) dX1_grow_54 ⟨by decide, by decide⟩ (fun H locs hP hD hS => ?_)
    refine lv_goto (tgt := 144) hx hb dX1_grow_57 (by decide) ?_
    obtain ⟨rfl, rfl⟩ := Prod.mk.inj (Option.some.inj hf)
    exact ret_v X hP hD hS dX1_grow_144
end S_X1_grow
theorem c_X1_grow (l : Launch) (D : va_G) (cA : ClassId) (A : Nat → Prop) (ad : Nat → Nat) (ta : Nat) (σ : St) (x1 x2 x3 : Int32) (r : Int32) (σ' : St) (hf : F_X1_grow x1 x2 x3 σ = some (r, σ')) : MV l D cA A (wC cA ad) yX1_grow cX1_grow 7 none rm_X1_grow [.ref (ad 5), .int x1, .int x2, .int x3] ta σ σ' 0 0 := by
  refine enter (by decide) (Nat.le_of_ble_eq_true rfl) ?_
  intro p e s m below meth c ls X hnm hP hD hS hl
  exact t_X1_grow_0 X hf hP hD hS hl
abbrev rm_X1_plant : Room := { frames := 5, cells := 0, slots := 0, locals := 116 }
def F_X1_plant_48  : Nat → Int32 → St → Rs
  | 0, _, _ => none
  | n + 1, x1, σ => if 560 ≤ x1 then (some (0, σ)) else (if (gF σ 10) ≤ 0 then (some (0, σ)) else (bd (sF σ 10 ((gF σ 10) - 1)) (fun s3 => bd (rd 24 (gA s3 29) (gF s3 10)) (fun y4 => bd (rd 24 (gA s3 30) (gF s3 10)) (fun y5 => bd (rd 24 (gA s3 31) (gF s3 10)) (fun y6 => bo (F_X1_grow y4 y5 y6 s3) (fun r7 s8 => F_X1_plant_48 n (x1 + 1) s8)))))))
def F_X1_plant_46  (σ : St) : Rs :=
  F_X1_plant_48 5000 0 σ
def F_X1_plant  (σ : St) : Rs :=
  bo (F_X6_clear  σ) (fun r1 s2 => bo (F_X3_forgetAsked  s2) (fun r4 s5 => bd (sF s5 10 0) (fun s7 => if (gF s7 8) ≤ 0 then (F_X1_plant_46 s7) else (bo (F_X1_await ((1 <<< ((gF s7 8) &&& 31)) - 1) (-1) 0 s7) (fun r9 s10 => F_X1_plant_46 s10)))))
section S_X1_plant
variable {p : Program} {l : Launch} {e : Env} {s : State} {m : MethodId} {args : Array Value} {below : List Frame} {meth : Method} {c : Code}
variable {D : va_G} {cA : ClassId} {A : Nat → Prop} {ad : Nat → Nat} {r : Int32} {σ' : St} {ta : Nat}
set_option maxHeartbeats 4000000 in
set_option maxRecDepth 100000 in
theorem t_X1_plant_48  (X : Fx p s m meth c D cA A RX1 cX1_plant 2 none)  : ∀ (n : Nat) (x1 : Int32) (σ : St) (H : Heap) (locs : List Loc) (ls : Array Slot), F_X1_plant_48 n x1 σ = some (r, σ') → va_P D vwCl (wC cA ad ta σ) H → va_D A (wC cA ad ta σ) → va_S A s.heap H locs → lv_has ls 2 [(0, .ref (ad 5)), (1, .int x1)] → W p l e (rm_X1_plant) s m args below meth c H locs 0 0 (MQ below (QV D cA A (wC cA ad) σ' ta) args s 0 0 A) (F0 m 48 ls []) := by
  obtain ⟨hx, hb, hr, hml, hown, hlk, hE, hK, hA⟩ := id X
  intro n
  induction n with
  | zero =>
    intro x1 σ H locs ls hf
    cases (show (none : Rs) = some _ from hf)
  | succ n ih =>
    intro x1 σ H locs ls hf hP hD hS hl
    rw [F_X1_plant_48] at hf
    refine lv_iload_n hx hb dX1_plant_48 rfl (lv_at hl 1 rfl) ?_
    refine lv_sipush (v := 560) hx hb dX1_plant_49 (by decide) ?_
    refine lv_icmp_ge (tgt := 115) hx hb dX1_plant_52 (by decide) (fun c1 => ?_) (fun c1 => ?_)
    · have hf := it_t c1 hf
      obtain ⟨rfl, rfl⟩ := Prod.mk.inj (Option.some.inj hf)
      exact ret_v X hP hD hS dX1_plant_115
    · have hf := it_f c1 hf
      refine lv_aload_n hx hb dX1_plant_55 rfl (lv_at hl 0 rfl) ?_
      refine gC_Pla_waiting X hP kw175 dX1_plant_56 ?_
      refine lv_if_le (tgt := 115) hx hb dX1_plant_59 (by decide) (fun c2 => ?_) (fun c2 => ?_)
      · have hf := it_t c2 hf
        obtain ⟨rfl, rfl⟩ := Prod.mk.inj (Option.some.inj hf)
        exact ret_v X hP hD hS dX1_plant_115
      · have hf := it_f c2 hf
        refine lv_aload_n hx hb dX1_plant_62 rfl (lv_at hl 0 rfl) ?_
        refine lv_dup hx hb dX1_plant_63 rfl ?_
        refine gC_Pla_waiting X hP kw175 dX1_plant_64 ?_
        refine lv_iconst (v := 1) hx hb dX1_plant_67 (by decide) ?_
        refine lv_isub hx hb dX1_plant_68 ?_
        refine pC_Pla_waiting X hP hD hS kw175 dX1_plant_69 (fun H locs hP hD hS => ?_)
        obtain ⟨s3, es3, hf⟩ := bd_e hf
        rw [← es3] at hP hD
        refine lv_aload_n hx hb dX1_plant_72 rfl (lv_at hl 0 rfl) ?_
        refine lv_aload_n hx hb dX1_plant_73 rfl (lv_at hl 0 rfl) ?_
        refine gC_Pla_groups X hP kw171 dX1_plant_74 ?_
        refine lv_aload_n hx hb dX1_plant_77 rfl (lv_at hl 0 rfl) ?_
        refine gC_Pla_waiting X hP kw175 dX1_plant_78 ?_
        refine callSN_i X cs_X8_get kw475 (c_get l D cA A (wC cA ad) ta s3 29 (ad 29) 24 (gA s3 29) (gF s3 10) (by decide) rfl) ⟨by decide, by decide⟩ ⟨rfl, rfl⟩ hP hD hS rfl hl rfl (Nat.le_of_ble_eq_true rfl) dX1_plant_81 ⟨by decide, by decide⟩ (fun H locs hP hD hS => ?_)
        refine lv_topi (fun y4 ey4 => ?_)
        have hf := bd_x ey4 hf
        refine lv_aload_n hx hb dX1_plant_84 rfl (lv_at hl 0 rfl) ?_
        refine gC_Pla_labels X hP kw172 dX1_plant_85 ?_
        refine lv_aload_n hx hb dX1_plant_88 rfl (lv_at hl 0 rfl) ?_
        refine gC_Pla_waiting X hP kw175 dX1_plant_89 ?_
        refine callSN_i X cs_X8_get kw475 (c_get l D cA A (wC cA ad) ta s3 30 (ad 30) 24 (gA s3 30) (gF s3 10) (by decide) rfl) ⟨by decide, by decide⟩ ⟨rfl, rfl⟩ hP hD hS rfl hl rfl (Nat.le_of_ble_eq_true rfl) dX1_plant_92 ⟨by decide, by decide⟩ (fun H locs hP hD hS => ?_)
        refine lv_topi (fun y5 ey5 => ?_)
        have hf := bd_x ey5 hf
        refine lv_aload_n hx hb dX1_plant_95 rfl (lv_at hl 0 rfl) ?_
        refine gC_Pla_depths X hP kw173 dX1_plant_96 ?_
        refine lv_aload_n hx hb dX1_plant_99 rfl (lv_at hl 0 rfl) ?_
        refine gC_Pla_waiting X hP kw175 dX1_plant_100 ?_
        refine callSN_i X cs_X8_get kw475 (c_get l D cA A (wC cA ad) ta s3 31 (ad 31) 24 (gA s3 31) (gF s3 10) (by decide) rfl) ⟨by decide, by decide⟩ ⟨rfl, rfl⟩ hP hD hS rfl hl rfl (Nat.le_of_ble_eq_true rfl) dX1_plant_103 ⟨by decide, by decide⟩ (fun H locs hP hD hS => ?_)
        refine lv_topi (fun y6 ey6 => ?_)
        have hf := bd_x ey6 hf
        obtain ⟨r7, s8, h9, hf⟩ := bo_e hf
        refine callV_v X cv_X1_grow kw476 (c_X1_grow l D cA A ad ta s3 y4 y5 y6 r7 s8 h9) ⟨by decide, by decide⟩ ⟨rfl, rfl⟩ hP hD hS (q0 := 5) (ci := 1) rfl rfl rfl rfl hl rfl (Nat.le_of_ble_eq_true rfl) dX1_plant_106 ⟨by decide, by decide⟩ (fun H locs hP hD hS => ?_)
        refine lv_iinc (v := (x1 + 1)) (lv' := [(1, .int (x1 + 1)), (0, .ref (ad 5))]) hx hb dX1_plant_109 hl (k := 1) rfl rfl (by decide) rfl (fun ls hl => ?_)
        refine lv_goto (tgt := 48) hx hb dX1_plant_112 (by decide) ?_
        exact ih (x1 + 1) s8 _ _ _ hf hP hD hS (lv_sub hl [1, 0] rfl)
set_option maxHeartbeats 4000000 in
set_option maxRecDepth 100000 in
theorem t_X1_plant_46  (X : Fx p s m meth c D cA A RX1 cX1_plant 2 none)  { σ : St} {H : Heap} {locs : List Loc} {ls : Array Slot} (hf : F_X1_plant_46 σ = some (r, σ')) (hP : va_P D vwCl (wC cA ad ta σ) H) (hD : va_D A (wC cA ad ta σ)) (hS : va_S A s.heap H locs) (hl : lv_has ls 2 [(0, .ref (ad 5))]) : W p l e (rm_X1_plant) s m args below meth c H locs 0 0 (MQ below (QV D cA A (wC cA ad) σ' ta) args s 0 0 A) (F0 m 46 ls []) := by
  obtain ⟨hx, hb, hr, hml, hown, hlk, hE, hK, hA⟩ := id X
  rw [F_X1_plant_46] at hf
  refine lv_iconst (v := 0) hx hb dX1_plant_46 (by decide) ?_
  refine lv_istore_n (lv' := [(1, .int 0), (0, .ref (ad 5))]) hx hb dX1_plant_47 rfl hl (by decide) rfl (fun ls hl => ?_)
  exact t_X1_plant_48 X  5000 0 σ _ _ _ hf hP hD hS (lv_sub hl [1, 0] rfl)
set_option maxHeartbeats 4000000 in
set_option maxRecDepth 100000 in
theorem t_X1_plant_0  (X : Fx p s m meth c D cA A RX1 cX1_plant 2 none)  { σ : St} {H : Heap} {locs : List Loc} {ls : Array Slot} (hf : F_X1_plant σ = some (r, σ')) (hP : va_P D vwCl (wC cA ad ta σ) H) (hD : va_D A (wC cA ad ta σ)) (hS : va_S A s.heap H locs) (hl : lv_has ls 2 [(0, .ref (ad 5))]) : W p l e (rm_X1_plant) s m args below meth c H locs 0 0 (MQ below (QV D cA A (wC cA ad) σ' ta) args s 0 0 A) (F0 m 0 ls []) := by
  obtain ⟨hx, hb, hr, hml, hown, hlk, hE, hK, hA⟩ := id X
  rw [F_X1_plant] at hf
  refine lv_aload_n hx hb dX1_plant_0 rfl (lv_at hl 0 rfl) ?_
  refine gC_Pla_tree X hP kw170 dX1_plant_1 ?_
  obtain ⟨r1, s2, h3, hf⟩ := bo_e hf
  refine callVN_v X cv_X6_clear kw461 (c_X6_clear l D cA A ad ta σ  r1 s2 h3) ⟨by decide, by decide⟩ ⟨rfl, rfl⟩ hP hD hS (q0 := 4) (ci := 6) rfl rfl rfl rfl hl rfl (Nat.le_of_ble_eq_true rfl) dX1_plant_4 ⟨by decide, by decide⟩ (fun H locs hP hD hS => ?_)
  refine lv_aload_n hx hb dX1_plant_7 rfl (lv_at hl 0 rfl) ?_
  refine gC_Pla_rules X hP kw169 dX1_plant_8 ?_
  obtain ⟨r4, s5, h6, hf⟩ := bo_e hf
  refine callVN_v X cv_X3_forgetAsked kw465 (c_X3_forgetAsked l D cA A ad ta s2  r4 s5 h6) ⟨by decide, by decide⟩ ⟨rfl, rfl⟩ hP hD hS (q0 := 3) (ci := 3) rfl rfl rfl rfl hl rfl (Nat.le_of_ble_eq_true rfl) dX1_plant_11 ⟨by decide, by decide⟩ (fun H locs hP hD hS => ?_)
  refine lv_aload_n hx hb dX1_plant_14 rfl (lv_at hl 0 rfl) ?_
  refine lv_iconst (v := 0) hx hb dX1_plant_15 (by decide) ?_
  refine pC_Pla_waiting X hP hD hS kw175 dX1_plant_16 (fun H locs hP hD hS => ?_)
  obtain ⟨s7, es7, hf⟩ := bd_e hf
  rw [← es7] at hP hD
  refine lv_aload_n hx hb dX1_plant_19 rfl (lv_at hl 0 rfl) ?_
  refine gC_Pla_rules X hP kw169 dX1_plant_20 ?_
  refine gCN_Rul_many X hP kw112 dX1_plant_23 ?_
  refine lv_if_le (tgt := 46) hx hb dX1_plant_26 (by decide) (fun c8 => ?_) (fun c8 => ?_)
  · have hf := it_t c8 hf
    exact t_X1_plant_46 X  hf hP hD hS (lv_sub hl [0] rfl)
  · have hf := it_f c8 hf
    refine lv_aload_n hx hb dX1_plant_29 rfl (lv_at hl 0 rfl) ?_
    refine lv_iconst (v := 1) hx hb dX1_plant_30 (by decide) ?_
    refine lv_aload_n hx hb dX1_plant_31 rfl (lv_at hl 0 rfl) ?_
    refine gC_Pla_rules X hP kw169 dX1_plant_32 ?_
    refine gCN_Rul_many X hP kw112 dX1_plant_35 ?_
    refine lv_ishl hx hb dX1_plant_38 ?_
    refine lv_iconst (v := 1) hx hb dX1_plant_39 (by decide) ?_
    refine lv_isub hx hb dX1_plant_40 ?_
    refine lv_iconst (v := -1) hx hb dX1_plant_41 (by decide) ?_
    refine lv_iconst (v := 0) hx hb dX1_plant_42 (by decide) ?_
    obtain ⟨r9, s10, h11, hf⟩ := bo_e hf
    refine callV_v X cv_X1_await kw470 (c_X1_await l D cA A ad ta s7 ((1 <<< ((gF s7 8) &&& 31)) - 1) (-1) 0 r9 s10 h11) ⟨by decide, by decide⟩ ⟨rfl, rfl⟩ hP hD hS (q0 := 5) (ci := 1) rfl rfl rfl rfl hl rfl (Nat.le_of_ble_eq_true rfl) dX1_plant_43 ⟨by decide, by decide⟩ (fun H locs hP hD hS => ?_)
    exact t_X1_plant_46 X  hf hP hD hS (lv_sub hl [0] rfl)
end S_X1_plant
theorem c_X1_plant (l : Launch) (D : va_G) (cA : ClassId) (A : Nat → Prop) (ad : Nat → Nat) (ta : Nat) (σ : St) (r : Int32) (σ' : St) (hf : F_X1_plant σ = some (r, σ')) : MV l D cA A (wC cA ad) yX1_plant cX1_plant 2 none rm_X1_plant [.ref (ad 5)] ta σ σ' 0 0 := by
  refine enter (by decide) (Nat.le_of_ble_eq_true rfl) ?_
  intro p e s m below meth c ls X hnm hP hD hS hl
  exact t_X1_plant_0 X hf hP hD hS hl
