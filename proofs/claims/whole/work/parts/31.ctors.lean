theorem kwO : (.code objectInit ⟨#[0xb1]⟩ 1 none : Cond) ∈ lw_tbl := List.mem_append_right _ (List.mem_of_getElem? (i := 21) (by decide +kernel))
section CT
variable {p : Program} {l : Launch} {e : Env} {R : Room} {s : State} {m : MethodId} {args : Array Value} {below : List Frame} {meth : Method} {c : Code} {H : Heap} {locs : List Loc} {cells slots : Nat} {Q : State → Prop}
variable {D : va_G} {cA : ClassId} {A : Nat → Prop} {own : String} {cc : ByteArray} {nL pc index : Nat} {rt : Option FieldType} {ls : Array Slot}
variable {y : MethodName} {b : ByteArray} {nC n mc ms : Nat} {rm : Room} {o : Nat} {As rest st0 : List Value} {Wp : (Nat → Nat) → va_W} {w0 : va_W} {S : Type}
abbrev QC (D : va_G) (cA : ClassId) (A : Nat → Prop) (Wp : (Nat → Nat) → va_W) : Array Value → State → Outcome → State → Prop :=
  va_Qv (fun _ : Nat → Nat => True) (fun u t => Wd D cA A (Wp u) t) A
theorem ret_c (X : Fx p s m meth c D cA A own cc nL none) (u : Nat → Nat) (hP : va_P D vwCl (Wp u) H) (hD : va_D A (Wp u)) (hS : va_S A s.heap H locs) (hdg : decode cc pc = .ok (.return_, 1)) :
    W p l e R s m args below meth c H locs cells slots (MQ below (QC D cA A Wp) args s cells slots A) (F0 m pc ls []) := by
  obtain ⟨hx, hb, hr, hml, hown, hlk, hE, hK, hA⟩ := X
  exact W.vret hx hb hr (fun t ht hW => ⟨⟨u, rfl, trivial, hE.warm hW, by rw [ht]; exact hP, va_K.moved hW.alike hK, hD, fun q hq => hA q (Nat.le_trans hS.1 (by rw [ht] at hq; exact hq))⟩, hS.F ht⟩) hS.2.2 hdg hlk
theorem obj_i (X : Fx p s m meth c D cA A own cc nL rt) (hl : Cond.methodLink own index objectInit ∈ lw_tbl) {lv : List (Nat × Value)} (hlv : lv_has ls nL lv) {a : Nat} (hd : decode cc pc = .ok (.invokespecial index, 3)) (hf : 1 ≤ R.frames) (ho : 12 ≤ R.locals)
    (kk : W p l e R s m args below meth c H locs cells slots Q (F0 m (pc + 3) ls [])) : W p l e R s m args below meth c H locs cells slots Q (F0 m pc ls [.ref a]) := by
  obtain ⟨hx, hb, hr, hml, hown, hlk, hE, hK, hA⟩ := X
  exact W.objInit hx hb hown (hE.at args hl) (hE.at args kw20) (hE.at args kwO) rfl (by rw [hml]; exact hlv.1) rfl hd hf ho kk
/-- what an initialiser's contract needs -/
def Ci (y : MethodName) (b : ByteArray) (nL : Nat) (n : Nat) : Prop :=
  Cond.code y b nL none ∈ lw_tbl ∧ Cond.initialized y.cls ∈ lw_tbl ∧ Cond.instanceMethod y ∈ lw_tbl ∧ y.name = "<init>" ∧ (y.cls ≠ "java/lang/invoke/MethodHandle" ∧ y.cls ≠ "java/lang/invoke/VarHandle") ∧ (parseMethodDescriptor y.desc).map (fun d => d.parameters.length) = some n
theorem callIN_c {host : String} (X : Fx p s m meth c D cA A own cc nL rt) (cv : Ci y b nC n) (hl : Cond.methodLinkNest own index y host ∈ lw_tbl)
    (hM : Met l y [.code y b nC none] rm (va_Pc (.ref o :: As) (Wd D cA A w0)) (QC D cA A Wp) mc ms A)
    (hR : rm.frames + 1 ≤ R.frames ∧ 8 + (nC + 11) + rm.locals ≤ R.locals) (hm : rm.cells = mc ∧ rm.slots = ms) (hP : va_P D vwCl w0 H) (hD : va_D A w0) (hS : va_S A s.heap H locs)
    (hn : As.length = n) {lv : List (Nat × Value)} (hlv : lv_has ls nL lv) (hst : st0 = As.reverse ++ .ref o :: rest) (hW : (rest.map fun v => v.category).sum ≤ 8) (hdg : decode cc pc = .ok (.invokespecial index, 3)) (hf : cells + mc ≤ R.cells ∧ slots + ms ≤ R.slots)
    (kk : ∀ (u : Nat → Nat) (H1 : Heap) (locs1 : List Loc), va_P D vwCl (Wp u) H1 → va_D A (Wp u) → va_S A s.heap H1 locs1 → W p l e R s m args below meth c H1 locs1 (cells + mc) (slots + ms) Q (F0 m (pc + 3) ls rest)) :
    W p l e R s m args below meth c H locs cells slots Q (F0 m pc ls st0) := by
  have hpre := pre_of X w0 hP hD hS (.ref o :: As)
  obtain ⟨c1, c2, c3, c4, c5, c6⟩ := cv
  have cb := cn_of X c1 c2 c5 c6 hR hm hl (args := args)
  obtain ⟨hx, hb, -, hml, hown, -, hE, hK, -⟩ := X
  refine va_callv (va_runIN (g := F0 m pc ls st0) (rest := rest) ⟨hx, hb, hml, hown, hE.use args⟩ hM ⟨cb, c4, hE.at args c3⟩ hpre rfl hn hlv.1 hst (lv_room hW) hdg hf) hS (fun q _ h => h) (fun q h => h) (fun u t H1 locs1 ht hvm hp hB hz hk hS1 => ?_)
  obtain ⟨-, hP, -, hD, -⟩ := hB
  rw [ht] at hP
  exact kk u H1 locs1 hP hD hS1
theorem callI_c (X : Fx p s m meth c D cA A own cc nL rt) (cv : Ci y b nC n) (hl : Cond.methodLink own index y ∈ lw_tbl)
    (hM : Met l y [.code y b nC none] rm (va_Pc (.ref o :: As) (Wd D cA A w0)) (QC D cA A Wp) mc ms A)
    (hR : rm.frames + 1 ≤ R.frames ∧ 8 + (nC + 11) + rm.locals ≤ R.locals) (hm : rm.cells = mc ∧ rm.slots = ms) (hP : va_P D vwCl w0 H) (hD : va_D A w0) (hS : va_S A s.heap H locs)
    (hn : As.length = n) {lv : List (Nat × Value)} (hlv : lv_has ls nL lv) (hst : st0 = As.reverse ++ .ref o :: rest) (hW : (rest.map fun v => v.category).sum ≤ 8) (hdg : decode cc pc = .ok (.invokespecial index, 3)) (hf : cells + mc ≤ R.cells ∧ slots + ms ≤ R.slots)
    (kk : ∀ (u : Nat → Nat) (H1 : Heap) (locs1 : List Loc), va_P D vwCl (Wp u) H1 → va_D A (Wp u) → va_S A s.heap H1 locs1 → W p l e R s m args below meth c H1 locs1 (cells + mc) (slots + ms) Q (F0 m (pc + 3) ls rest)) :
    W p l e R s m args below meth c H locs cells slots Q (F0 m pc ls st0) := by
  have hpre := pre_of X w0 hP hD hS (.ref o :: As)
  obtain ⟨c1, c2, c3, c4, c5, c6⟩ := cv
  have cb := cb_of X c1 c2 c5 c6 hR hm hl (args := args)
  obtain ⟨hx, hb, -, hml, hown, -, hE, hK, -⟩ := X
  refine va_callv (va_runI (g := F0 m pc ls st0) (rest := rest) ⟨hx, hb, hml, hown, hE.use args⟩ hM ⟨cb, c4, hE.at args c3⟩ hpre rfl hn hlv.1 hst (lv_room hW) hdg hf) hS (fun q _ h => h) (fun q h => h) (fun u t H1 locs1 ht hvm hp hB hz hk hS1 => ?_)
  obtain ⟨-, hP, -, hD, -⟩ := hB
  rw [ht] at hP
  exact kk u H1 locs1 hP hD hS1
end CT
theorem ci_X4 : Ci yX4_init cX4_init 1 0 := ⟨kw26, kw2, kw25, rfl, by decide, by decide +kernel⟩
theorem ci_X2 : Ci yX2_init cX2_init 1 0 := ⟨kw58, kw3, kw57, rfl, by decide, by decide +kernel⟩
theorem ci_X3 : Ci yX3_init cX3_init 1 0 := ⟨kw96, kw4, kw95, rfl, by decide, by decide +kernel⟩
theorem ci_X6 : Ci yX6_init cX6_init 1 0 := ⟨kw133, kw5, kw132, rfl, by decide, by decide +kernel⟩
theorem ci_X1 : Ci yX1_init cX1_init 3 2 := ⟨kw167, kw6, kw166, rfl, by decide, by decide +kernel⟩
theorem ci_X5 : Ci yX5_init cX5_init 2 1 := ⟨kw195, kw7, kw194, rfl, by decide, by decide +kernel⟩
theorem ci_X0 : Ci yX0_init cX0_init 1 0 := ⟨kw242, kw8, kw241, rfl, by decide, by decide +kernel⟩
theorem ci_X7 : Ci yX7_init cX7_init 5 4 := ⟨kw268, kw9, kw267, rfl, by decide, by decide +kernel⟩
theorem ci_X9 : Ci yX9_init cX9_init 1 0 := ⟨kw677, kw10, kw676, rfl, by decide, by decide +kernel⟩
theorem ci_X8 : Ci yX8_init cX8_init 1 0 := ⟨kw18, kw1, kw17, rfl, by decide, by decide +kernel⟩
abbrev rm_X4_init : Room := { frames := 1, cells := 3, slots := 180, locals := 12 }
set_option maxHeartbeats 4000000 in
set_option maxRecDepth 100000 in
theorem c_X4_init (l : Launch) (D : va_G) (cA : ClassId) (A : Nat → Prop) (o : Nat) (W0 : va_W) : Met l yX4_init [.code yX4_init cX4_init 1 none] rm_X4_init (va_Pc [.ref o] (Wd D cA A ((o, .inr (4, [.null, .null, .null, .int 0, .int 0, .int 0, .int 0])) :: W0))) (QC D cA A (fun u => (o, .inr (4, [.ref (u 0), .ref (u 1), .ref (u 2), .int 0, .int 0, .int (-1), .int 0])) :: (((W0 ++ [(u 0, .inl (cA, 60, .inl (fun _ => 0)))])  ++ [(u 1, .inl (cA, 60, .inl (fun _ => 0)))])  ++ [(u 2, .inl (cA, 60, .inl (fun _ => 0)))]))) 3 180 A := by
  refine enter (by decide) (Nat.le_of_ble_eq_true rfl) ?_
  intro p e s m below meth c ls X hin hP hD hS hl
  obtain ⟨hx, hb, hr, hml, hown, hlk, hE, hK, hA⟩ := id X
  have hl : lv_has ls 1 [(0, .ref o)] := hl
  refine lv_aload_n hx hb dX4_init_0 rfl (lv_at hl 0 rfl) ?_
  refine obj_i X kw27 hl dX4_init_1 (by decide) (by decide) ?_
  refine lv_aload_n hx hb dX4_init_4 rfl (lv_at hl 0 rfl) ?_
  refine lv_bipush (v := 60) hx hb dX4_init_5 (by decide) ?_
  refine newI (N := 60) X hP hD hS (by decide) (by decide) (by decide) (by decide) (by decide) dX4_init_7 (fun q0 H hP hD hS => ?_)
  refine va_putF hx hb (hE.use _) inG4 tyX4 tyX4_ok nmX4 hown hK hP hD hS 0 rfl rfl 0 (by decide) (hE.at _ kw28) (fun _ h => h) rfl hin rfl rfl rfl rfl (Nat.le_of_ble_eq_true rfl) dX4_init_9 (fun H locs hP hD hS => ?_)
  have hP : va_P D vwCl ((o, .inr (4, [.ref q0, .null, .null, .int 0, .int 0, .int 0, .int 0])) :: (W0 ++ [(q0, .inl (cA, 60, .inl (fun _ => 0)))])) H := hP
  have hD : va_D A ((o, .inr (4, [.ref q0, .null, .null, .int 0, .int 0, .int 0, .int 0])) :: (W0 ++ [(q0, .inl (cA, 60, .inl (fun _ => 0)))])) := hD
  refine lv_aload_n hx hb dX4_init_12 rfl (lv_at hl 0 rfl) ?_
  refine lv_bipush (v := 60) hx hb dX4_init_13 (by decide) ?_
  refine newI (N := 60) X hP hD hS (by decide) (by decide) (by decide) (by decide) (by decide) dX4_init_15 (fun q1 H hP hD hS => ?_)
  refine va_putF hx hb (hE.use _) inG4 tyX4 tyX4_ok nmX4 hown hK hP hD hS 0 rfl rfl 1 (by decide) (hE.at _ kw29) (fun _ h => h) rfl hin rfl rfl rfl rfl (Nat.le_of_ble_eq_true rfl) dX4_init_17 (fun H locs hP hD hS => ?_)
  have hP : va_P D vwCl ((o, .inr (4, [.ref q0, .ref q1, .null, .int 0, .int 0, .int 0, .int 0])) :: ((W0 ++ [(q0, .inl (cA, 60, .inl (fun _ => 0)))])  ++ [(q1, .inl (cA, 60, .inl (fun _ => 0)))])) H := hP
  have hD : va_D A ((o, .inr (4, [.ref q0, .ref q1, .null, .int 0, .int 0, .int 0, .int 0])) :: ((W0 ++ [(q0, .inl (cA, 60, .inl (fun _ => 0)))])  ++ [(q1, .inl (cA, 60, .inl (fun _ => 0)))])) := hD
  refine lv_aload_n hx hb dX4_init_20 rfl (lv_at hl 0 rfl) ?_
  refine lv_bipush (v := 60) hx hb dX4_init_21 (by decide) ?_
  refine newI (N := 60) X hP hD hS (by decide) (by decide) (by decide) (by decide) (by decide) dX4_init_23 (fun q2 H hP hD hS => ?_)
  refine va_putF hx hb (hE.use _) inG4 tyX4 tyX4_ok nmX4 hown hK hP hD hS 0 rfl rfl 2 (by decide) (hE.at _ kw30) (fun _ h => h) rfl hin rfl rfl rfl rfl (Nat.le_of_ble_eq_true rfl) dX4_init_25 (fun H locs hP hD hS => ?_)
  have hP : va_P D vwCl ((o, .inr (4, [.ref q0, .ref q1, .ref q2, .int 0, .int 0, .int 0, .int 0])) :: (((W0 ++ [(q0, .inl (cA, 60, .inl (fun _ => 0)))])  ++ [(q1, .inl (cA, 60, .inl (fun _ => 0)))])  ++ [(q2, .inl (cA, 60, .inl (fun _ => 0)))])) H := hP
  have hD : va_D A ((o, .inr (4, [.ref q0, .ref q1, .ref q2, .int 0, .int 0, .int 0, .int 0])) :: (((W0 ++ [(q0, .inl (cA, 60, .inl (fun _ => 0)))])  ++ [(q1, .inl (cA, 60, .inl (fun _ => 0)))])  ++ [(q2, .inl (cA, 60, .inl (fun _ => 0)))])) := hD
  refine lv_aload_n hx hb dX4_init_28 rfl (lv_at hl 0 rfl) ?_
  refine lv_iconst (v := -1) hx hb dX4_init_29 (by decide) ?_
  refine va_put hx hb (hE.use _) inG4 tyX4 tyX4_ok nmX4 hown hK hP hD hS 0 rfl rfl 5 (by decide) (hE.at _ kw35) (fun _ h => h) rfl rfl rfl rfl (Nat.le_of_ble_eq_true rfl) dX4_init_30 (fun H locs hP hD hS => ?_)
  have hP : va_P D vwCl ((o, .inr (4, [.ref q0, .ref q1, .ref q2, .int 0, .int 0, .int (-1), .int 0])) :: (((W0 ++ [(q0, .inl (cA, 60, .inl (fun _ => 0)))])  ++ [(q1, .inl (cA, 60, .inl (fun _ => 0)))])  ++ [(q2, .inl (cA, 60, .inl (fun _ => 0)))])) H := hP
  have hD : va_D A ((o, .inr (4, [.ref q0, .ref q1, .ref q2, .int 0, .int 0, .int (-1), .int 0])) :: (((W0 ++ [(q0, .inl (cA, 60, .inl (fun _ => 0)))])  ++ [(q1, .inl (cA, 60, .inl (fun _ => 0)))])  ++ [(q2, .inl (cA, 60, .inl (fun _ => 0)))])) := hD
  exact ret_c X (fun k => [q0, q1, q2].getD k 0) hP hD hS dX4_init_33
abbrev rm_X2_init : Room := { frames := 1, cells := 5, slots := 648, locals := 12 }
set_option maxHeartbeats 4000000 in
set_option maxRecDepth 100000 in
theorem c_X2_init (l : Launch) (D : va_G) (cA : ClassId) (A : Nat → Prop) (o : Nat) (W0 : va_W) : Met l yX2_init [.code yX2_init cX2_init 1 none] rm_X2_init (va_Pc [.ref o] (Wd D cA A ((o, .inr (2, [.null, .null, .null, .null, .null, .int 0, .int 0, .int 0])) :: W0))) (QC D cA A (fun u => (o, .inr (2, [.ref (u 0), .ref (u 1), .ref (u 2), .ref (u 3), .ref (u 4), .int 0, .int 0, .int 0])) :: (((((W0 ++ [(u 0, .inl (cA, 160, .inl (fun _ => 0)))])  ++ [(u 1, .inl (cA, 160, .inl (fun _ => 0)))])  ++ [(u 2, .inl (cA, 160, .inl (fun _ => 0)))])  ++ [(u 3, .inl (cA, 160, .inl (fun _ => 0)))])  ++ [(u 4, .inl (cA, 8, .inl (fun _ => 0)))]))) 5 648 A := by
  refine enter (by decide) (Nat.le_of_ble_eq_true rfl) ?_
  intro p e s m below meth c ls X hin hP hD hS hl
  obtain ⟨hx, hb, hr, hml, hown, hlk, hE, hK, hA⟩ := id X
  have hl : lv_has ls 1 [(0, .ref o)] := hl
  refine lv_aload_n hx hb dX2_init_0 rfl (lv_at hl 0 rfl) ?_
  refine obj_i X kw59 hl dX2_init_1 (by decide) (by decide) ?_
  refine lv_aload_n hx hb dX2_init_4 rfl (lv_at hl 0 rfl) ?_
  refine lv_sipush (v := 160) hx hb dX2_init_5 (by decide) ?_
  refine newI (N := 160) X hP hD hS (by decide) (by decide) (by decide) (by decide) (by decide) dX2_init_8 (fun q0 H hP hD hS => ?_)
  refine va_putF hx hb (hE.use _) inG2 tyX2 tyX2_ok nmX2 hown hK hP hD hS 0 rfl rfl 0 (by decide) (hE.at _ kw60) (fun _ h => h) rfl hin rfl rfl rfl rfl (Nat.le_of_ble_eq_true rfl) dX2_init_10 (fun H locs hP hD hS => ?_)
  have hP : va_P D vwCl ((o, .inr (2, [.ref q0, .null, .null, .null, .null, .int 0, .int 0, .int 0])) :: (W0 ++ [(q0, .inl (cA, 160, .inl (fun _ => 0)))])) H := hP
  have hD : va_D A ((o, .inr (2, [.ref q0, .null, .null, .null, .null, .int 0, .int 0, .int 0])) :: (W0 ++ [(q0, .inl (cA, 160, .inl (fun _ => 0)))])) := hD
  refine lv_aload_n hx hb dX2_init_13 rfl (lv_at hl 0 rfl) ?_
  refine lv_sipush (v := 160) hx hb dX2_init_14 (by decide) ?_
  refine newI (N := 160) X hP hD hS (by decide) (by decide) (by decide) (by decide) (by decide) dX2_init_17 (fun q1 H hP hD hS => ?_)
  refine va_putF hx hb (hE.use _) inG2 tyX2 tyX2_ok nmX2 hown hK hP hD hS 0 rfl rfl 1 (by decide) (hE.at _ kw63) (fun _ h => h) rfl hin rfl rfl rfl rfl (Nat.le_of_ble_eq_true rfl) dX2_init_19 (fun H locs hP hD hS => ?_)
  have hP : va_P D vwCl ((o, .inr (2, [.ref q0, .ref q1, .null, .null, .null, .int 0, .int 0, .int 0])) :: ((W0 ++ [(q0, .inl (cA, 160, .inl (fun _ => 0)))])  ++ [(q1, .inl (cA, 160, .inl (fun _ => 0)))])) H := hP
  have hD : va_D A ((o, .inr (2, [.ref q0, .ref q1, .null, .null, .null, .int 0, .int 0, .int 0])) :: ((W0 ++ [(q0, .inl (cA, 160, .inl (fun _ => 0)))])  ++ [(q1, .inl (cA, 160, .inl (fun _ => 0)))])) := hD
  refine lv_aload_n hx hb dX2_init_22 rfl (lv_at hl 0 rfl) ?_
  refine lv_sipush (v := 160) hx hb dX2_init_23 (by decide) ?_
  refine newI (N := 160) X hP hD hS (by decide) (by decide) (by decide) (by decide) (by decide) dX2_init_26 (fun q2 H hP hD hS => ?_)
  refine va_putF hx hb (hE.use _) inG2 tyX2 tyX2_ok nmX2 hown hK hP hD hS 0 rfl rfl 2 (by decide) (hE.at _ kw65) (fun _ h => h) rfl hin rfl rfl rfl rfl (Nat.le_of_ble_eq_true rfl) dX2_init_28 (fun H locs hP hD hS => ?_)
  have hP : va_P D vwCl ((o, .inr (2, [.ref q0, .ref q1, .ref q2, .null, .null, .int 0, .int 0, .int 0])) :: (((W0 ++ [(q0, .inl (cA, 160, .inl (fun _ => 0)))])  ++ [(q1, .inl (cA, 160, .inl (fun _ => 0)))])  ++ [(q2, .inl (cA, 160, .inl (fun _ => 0)))])) H := hP
  have hD : va_D A ((o, .inr (2, [.ref q0, .ref q1, .ref q2, .null, .null, .int 0, .int 0, .int 0])) :: (((W0 ++ [(q0, .inl (cA, 160, .inl (fun _ => 0)))])  ++ [(q1, .inl (cA, 160, .inl (fun _ => 0)))])  ++ [(q2, .inl (cA, 160, .inl (fun _ => 0)))])) := hD
  refine lv_aload_n hx hb dX2_init_31 rfl (lv_at hl 0 rfl) ?_
  refine lv_sipush (v := 160) hx hb dX2_init_32 (by decide) ?_
  refine newI (N := 160) X hP hD hS (by decide) (by decide) (by decide) (by decide) (by decide) dX2_init_35 (fun q3 H hP hD hS => ?_)
  refine va_putF hx hb (hE.use _) inG2 tyX2 tyX2_ok nmX2 hown hK hP hD hS 0 rfl rfl 3 (by decide) (hE.at _ kw67) (fun _ h => h) rfl hin rfl rfl rfl rfl (Nat.le_of_ble_eq_true rfl) dX2_init_37 (fun H locs hP hD hS => ?_)
  have hP : va_P D vwCl ((o, .inr (2, [.ref q0, .ref q1, .ref q2, .ref q3, .null, .int 0, .int 0, .int 0])) :: ((((W0 ++ [(q0, .inl (cA, 160, .inl (fun _ => 0)))])  ++ [(q1, .inl (cA, 160, .inl (fun _ => 0)))])  ++ [(q2, .inl (cA, 160, .inl (fun _ => 0)))])  ++ [(q3, .inl (cA, 160, .inl (fun _ => 0)))])) H := hP
  have hD : va_D A ((o, .inr (2, [.ref q0, .ref q1, .ref q2, .ref q3, .null, .int 0, .int 0, .int 0])) :: ((((W0 ++ [(q0, .inl (cA, 160, .inl (fun _ => 0)))])  ++ [(q1, .inl (cA, 160, .inl (fun _ => 0)))])  ++ [(q2, .inl (cA, 160, .inl (fun _ => 0)))])  ++ [(q3, .inl (cA, 160, .inl (fun _ => 0)))])) := hD
  refine lv_aload_n hx hb dX2_init_40 rfl (lv_at hl 0 rfl) ?_
  refine lv_bipush (v := 8) hx hb dX2_init_41 (by decide) ?_
  refine newI (N := 8) X hP hD hS (by decide) (by decide) (by decide) (by decide) (by decide) dX2_init_43 (fun q4 H hP hD hS => ?_)
  refine va_putF hx hb (hE.use _) inG2 tyX2 tyX2_ok nmX2 hown hK hP hD hS 0 rfl rfl 4 (by decide) (hE.at _ kw70) (fun _ h => h) rfl hin rfl rfl rfl rfl (Nat.le_of_ble_eq_true rfl) dX2_init_45 (fun H locs hP hD hS => ?_)
  have hP : va_P D vwCl ((o, .inr (2, [.ref q0, .ref q1, .ref q2, .ref q3, .ref q4, .int 0, .int 0, .int 0])) :: (((((W0 ++ [(q0, .inl (cA, 160, .inl (fun _ => 0)))])  ++ [(q1, .inl (cA, 160, .inl (fun _ => 0)))])  ++ [(q2, .inl (cA, 160, .inl (fun _ => 0)))])  ++ [(q3, .inl (cA, 160, .inl (fun _ => 0)))])  ++ [(q4, .inl (cA, 8, .inl (fun _ => 0)))])) H := hP
  have hD : va_D A ((o, .inr (2, [.ref q0, .ref q1, .ref q2, .ref q3, .ref q4, .int 0, .int 0, .int 0])) :: (((((W0 ++ [(q0, .inl (cA, 160, .inl (fun _ => 0)))])  ++ [(q1, .inl (cA, 160, .inl (fun _ => 0)))])  ++ [(q2, .inl (cA, 160, .inl (fun _ => 0)))])  ++ [(q3, .inl (cA, 160, .inl (fun _ => 0)))])  ++ [(q4, .inl (cA, 8, .inl (fun _ => 0)))])) := hD
  exact ret_c X (fun k => [q0, q1, q2, q3, q4].getD k 0) hP hD hS dX2_init_48
abbrev rm_X3_init : Room := { frames := 1, cells := 6, slots := 2585, locals := 12 }
set_option maxHeartbeats 4000000 in
set_option maxRecDepth 100000 in
theorem c_X3_init (l : Launch) (D : va_G) (cA : ClassId) (A : Nat → Prop) (o : Nat) (W0 : va_W) : Met l yX3_init [.code yX3_init cX3_init 1 none] rm_X3_init (va_Pc [.ref o] (Wd D cA A ((o, .inr (3, [.null, .null, .null, .null, .null, .null, .int 0])) :: W0))) (QC D cA A (fun u => (o, .inr (3, [.ref (u 0), .ref (u 1), .ref (u 2), .ref (u 3), .ref (u 4), .ref (u 5), .int 0])) :: ((((((W0 ++ [(u 0, .inl (cA, 25, .inl (fun _ => 0)))])  ++ [(u 1, .inl (cA, 512, .inl (fun _ => 0)))])  ++ [(u 2, .inl (cA, 512, .inl (fun _ => 0)))])  ++ [(u 3, .inl (cA, 512, .inl (fun _ => 0)))])  ++ [(u 4, .inl (cA, 512, .inl (fun _ => 0)))])  ++ [(u 5, .inl (cA, 512, .inl (fun _ => 0)))]))) 6 2585 A := by
  refine enter (by decide) (Nat.le_of_ble_eq_true rfl) ?_
  intro p e s m below meth c ls X hin hP hD hS hl
  obtain ⟨hx, hb, hr, hml, hown, hlk, hE, hK, hA⟩ := id X
  have hl : lv_has ls 1 [(0, .ref o)] := hl
  refine lv_aload_n hx hb dX3_init_0 rfl (lv_at hl 0 rfl) ?_
  refine obj_i X kw97 hl dX3_init_1 (by decide) (by decide) ?_
  refine lv_aload_n hx hb dX3_init_4 rfl (lv_at hl 0 rfl) ?_
  refine lv_bipush (v := 25) hx hb dX3_init_5 (by decide) ?_
  refine newI (N := 25) X hP hD hS (by decide) (by decide) (by decide) (by decide) (by decide) dX3_init_7 (fun q0 H hP hD hS => ?_)
  refine va_putF hx hb (hE.use _) inG3 tyX3 tyX3_ok nmX3 hown hK hP hD hS 0 rfl rfl 0 (by decide) (hE.at _ kw98) (fun _ h => h) rfl hin rfl rfl rfl rfl (Nat.le_of_ble_eq_true rfl) dX3_init_9 (fun H locs hP hD hS => ?_)
  have hP : va_P D vwCl ((o, .inr (3, [.ref q0, .null, .null, .null, .null, .null, .int 0])) :: (W0 ++ [(q0, .inl (cA, 25, .inl (fun _ => 0)))])) H := hP
  have hD : va_D A ((o, .inr (3, [.ref q0, .null, .null, .null, .null, .null, .int 0])) :: (W0 ++ [(q0, .inl (cA, 25, .inl (fun _ => 0)))])) := hD
  refine lv_aload_n hx hb dX3_init_12 rfl (lv_at hl 0 rfl) ?_
  refine lv_sipush (v := 512) hx hb dX3_init_13 (by decide) ?_
  refine newI (N := 512) X hP hD hS (by decide) (by decide) (by decide) (by decide) (by decide) dX3_init_16 (fun q1 H hP hD hS => ?_)
  refine va_putF hx hb (hE.use _) inG3 tyX3 tyX3_ok nmX3 hown hK hP hD hS 0 rfl rfl 1 (by decide) (hE.at _ kw99) (fun _ h => h) rfl hin rfl rfl rfl rfl (Nat.le_of_ble_eq_true rfl) dX3_init_18 (fun H locs hP hD hS => ?_)
  have hP : va_P D vwCl ((o, .inr (3, [.ref q0, .ref q1, .null, .null, .null, .null, .int 0])) :: ((W0 ++ [(q0, .inl (cA, 25, .inl (fun _ => 0)))])  ++ [(q1, .inl (cA, 512, .inl (fun _ => 0)))])) H := hP
  have hD : va_D A ((o, .inr (3, [.ref q0, .ref q1, .null, .null, .null, .null, .int 0])) :: ((W0 ++ [(q0, .inl (cA, 25, .inl (fun _ => 0)))])  ++ [(q1, .inl (cA, 512, .inl (fun _ => 0)))])) := hD
  refine lv_aload_n hx hb dX3_init_21 rfl (lv_at hl 0 rfl) ?_
  refine lv_sipush (v := 512) hx hb dX3_init_22 (by decide) ?_
  refine newI (N := 512) X hP hD hS (by decide) (by decide) (by decide) (by decide) (by decide) dX3_init_25 (fun q2 H hP hD hS => ?_)
  refine va_putF hx hb (hE.use _) inG3 tyX3 tyX3_ok nmX3 hown hK hP hD hS 0 rfl rfl 2 (by decide) (hE.at _ kw102) (fun _ h => h) rfl hin rfl rfl rfl rfl (Nat.le_of_ble_eq_true rfl) dX3_init_27 (fun H locs hP hD hS => ?_)
  have hP : va_P D vwCl ((o, .inr (3, [.ref q0, .ref q1, .ref q2, .null, .null, .null, .int 0])) :: (((W0 ++ [(q0, .inl (cA, 25, .inl (fun _ => 0)))])  ++ [(q1, .inl (cA, 512, .inl (fun _ => 0)))])  ++ [(q2, .inl (cA, 512, .inl (fun _ => 0)))])) H := hP
  have hD : va_D A ((o, .inr (3, [.ref q0, .ref q1, .ref q2, .null, .null, .null, .int 0])) :: (((W0 ++ [(q0, .inl (cA, 25, .inl (fun _ => 0)))])  ++ [(q1, .inl (cA, 512, .inl (fun _ => 0)))])  ++ [(q2, .inl (cA, 512, .inl (fun _ => 0)))])) := hD
  refine lv_aload_n hx hb dX3_init_30 rfl (lv_at hl 0 rfl) ?_
  refine lv_sipush (v := 512) hx hb dX3_init_31 (by decide) ?_
  refine newI (N := 512) X hP hD hS (by decide) (by decide) (by decide) (by decide) (by decide) dX3_init_34 (fun q3 H hP hD hS => ?_)
  refine va_putF hx hb (hE.use _) inG3 tyX3 tyX3_ok nmX3 hown hK hP hD hS 0 rfl rfl 3 (by decide) (hE.at _ kw104) (fun _ h => h) rfl hin rfl rfl rfl rfl (Nat.le_of_ble_eq_true rfl) dX3_init_36 (fun H locs hP hD hS => ?_)
  have hP : va_P D vwCl ((o, .inr (3, [.ref q0, .ref q1, .ref q2, .ref q3, .null, .null, .int 0])) :: ((((W0 ++ [(q0, .inl (cA, 25, .inl (fun _ => 0)))])  ++ [(q1, .inl (cA, 512, .inl (fun _ => 0)))])  ++ [(q2, .inl (cA, 512, .inl (fun _ => 0)))])  ++ [(q3, .inl (cA, 512, .inl (fun _ => 0)))])) H := hP
  have hD : va_D A ((o, .inr (3, [.ref q0, .ref q1, .ref q2, .ref q3, .null, .null, .int 0])) :: ((((W0 ++ [(q0, .inl (cA, 25, .inl (fun _ => 0)))])  ++ [(q1, .inl (cA, 512, .inl (fun _ => 0)))])  ++ [(q2, .inl (cA, 512, .inl (fun _ => 0)))])  ++ [(q3, .inl (cA, 512, .inl (fun _ => 0)))])) := hD
  refine lv_aload_n hx hb dX3_init_39 rfl (lv_at hl 0 rfl) ?_
  refine lv_sipush (v := 512) hx hb dX3_init_40 (by decide) ?_
  refine newI (N := 512) X hP hD hS (by decide) (by decide) (by decide) (by decide) (by decide) dX3_init_43 (fun q4 H hP hD hS => ?_)
  refine va_putF hx hb (hE.use _) inG3 tyX3 tyX3_ok nmX3 hown hK hP hD hS 0 rfl rfl 4 (by decide) (hE.at _ kw106) (fun _ h => h) rfl hin rfl rfl rfl rfl (Nat.le_of_ble_eq_true rfl) dX3_init_45 (fun H locs hP hD hS => ?_)
  have hP : va_P D vwCl ((o, .inr (3, [.ref q0, .ref q1, .ref q2, .ref q3, .ref q4, .null, .int 0])) :: (((((W0 ++ [(q0, .inl (cA, 25, .inl (fun _ => 0)))])  ++ [(q1, .inl (cA, 512, .inl (fun _ => 0)))])  ++ [(q2, .inl (cA, 512, .inl (fun _ => 0)))])  ++ [(q3, .inl (cA, 512, .inl (fun _ => 0)))])  ++ [(q4, .inl (cA, 512, .inl (fun _ => 0)))])) H := hP
  have hD : va_D A ((o, .inr (3, [.ref q0, .ref q1, .ref q2, .ref q3, .ref q4, .null, .int 0])) :: (((((W0 ++ [(q0, .inl (cA, 25, .inl (fun _ => 0)))])  ++ [(q1, .inl (cA, 512, .inl (fun _ => 0)))])  ++ [(q2, .inl (cA, 512, .inl (fun _ => 0)))])  ++ [(q3, .inl (cA, 512, .inl (fun _ => 0)))])  ++ [(q4, .inl (cA, 512, .inl (fun _ => 0)))])) := hD
  refine lv_aload_n hx hb dX3_init_48 rfl (lv_at hl 0 rfl) ?_
  refine lv_sipush (v := 512) hx hb dX3_init_49 (by decide) ?_
  refine newI (N := 512) X hP hD hS (by decide) (by decide) (by decide) (by decide) (by decide) dX3_init_52 (fun q5 H hP hD hS => ?_)
  refine va_putF hx hb (hE.use _) inG3 tyX3 tyX3_ok nmX3 hown hK hP hD hS 0 rfl rfl 5 (by decide) (hE.at _ kw108) (fun _ h => h) rfl hin rfl rfl rfl rfl (Nat.le_of_ble_eq_true rfl) dX3_init_54 (fun H locs hP hD hS => ?_)
  have hP : va_P D vwCl ((o, .inr (3, [.ref q0, .ref q1, .ref q2, .ref q3, .ref q4, .ref q5, .int 0])) :: ((((((W0 ++ [(q0, .inl (cA, 25, .inl (fun _ => 0)))])  ++ [(q1, .inl (cA, 512, .inl (fun _ => 0)))])  ++ [(q2, .inl (cA, 512, .inl (fun _ => 0)))])  ++ [(q3, .inl (cA, 512, .inl (fun _ => 0)))])  ++ [(q4, .inl (cA, 512, .inl (fun _ => 0)))])  ++ [(q5, .inl (cA, 512, .inl (fun _ => 0)))])) H := hP
  have hD : va_D A ((o, .inr (3, [.ref q0, .ref q1, .ref q2, .ref q3, .ref q4, .ref q5, .int 0])) :: ((((((W0 ++ [(q0, .inl (cA, 25, .inl (fun _ => 0)))])  ++ [(q1, .inl (cA, 512, .inl (fun _ => 0)))])  ++ [(q2, .inl (cA, 512, .inl (fun _ => 0)))])  ++ [(q3, .inl (cA, 512, .inl (fun _ => 0)))])  ++ [(q4, .inl (cA, 512, .inl (fun _ => 0)))])  ++ [(q5, .inl (cA, 512, .inl (fun _ => 0)))])) := hD
  exact ret_c X (fun k => [q0, q1, q2, q3, q4, q5].getD k 0) hP hD hS dX3_init_57
abbrev rm_X6_init : Room := { frames := 1, cells := 6, slots := 2986, locals := 12 }
set_option maxHeartbeats 4000000 in
set_option maxRecDepth 100000 in
theorem c_X6_init (l : Launch) (D : va_G) (cA : ClassId) (A : Nat → Prop) (o : Nat) (W0 : va_W) : Met l yX6_init [.code yX6_init cX6_init 1 none] rm_X6_init (va_Pc [.ref o] (Wd D cA A ((o, .inr (6, [.null, .null, .null, .null, .null, .null, .int 0])) :: W0))) (QC D cA A (fun u => (o, .inr (6, [.ref (u 0), .ref (u 1), .ref (u 2), .ref (u 3), .ref (u 4), .ref (u 5), .int 0])) :: ((((((W0 ++ [(u 0, .inl (cA, 560, .inl (fun _ => 0)))])  ++ [(u 1, .inl (cA, 560, .inl (fun _ => 0)))])  ++ [(u 2, .inl (cA, 560, .inl (fun _ => 0)))])  ++ [(u 3, .inl (cA, 560, .inl (fun _ => 0)))])  ++ [(u 4, .inl (cA, 560, .inl (fun _ => 0)))])  ++ [(u 5, .inl (cA, 186, .inl (fun _ => 0)))]))) 6 2986 A := by
  refine enter (by decide) (Nat.le_of_ble_eq_true rfl) ?_
  intro p e s m below meth c ls X hin hP hD hS hl
  obtain ⟨hx, hb, hr, hml, hown, hlk, hE, hK, hA⟩ := id X
  have hl : lv_has ls 1 [(0, .ref o)] := hl
  refine lv_aload_n hx hb dX6_init_0 rfl (lv_at hl 0 rfl) ?_
  refine obj_i X kw134 hl dX6_init_1 (by decide) (by decide) ?_
  refine lv_aload_n hx hb dX6_init_4 rfl (lv_at hl 0 rfl) ?_
  refine lv_sipush (v := 560) hx hb dX6_init_5 (by decide) ?_
  refine newI (N := 560) X hP hD hS (by decide) (by decide) (by decide) (by decide) (by decide) dX6_init_8 (fun q0 H hP hD hS => ?_)
  refine va_putF hx hb (hE.use _) inG6 tyX6 tyX6_ok nmX6 hown hK hP hD hS 0 rfl rfl 0 (by decide) (hE.at _ kw135) (fun _ h => h) rfl hin rfl rfl rfl rfl (Nat.le_of_ble_eq_true rfl) dX6_init_10 (fun H locs hP hD hS => ?_)
  have hP : va_P D vwCl ((o, .inr (6, [.ref q0, .null, .null, .null, .null, .null, .int 0])) :: (W0 ++ [(q0, .inl (cA, 560, .inl (fun _ => 0)))])) H := hP
  have hD : va_D A ((o, .inr (6, [.ref q0, .null, .null, .null, .null, .null, .int 0])) :: (W0 ++ [(q0, .inl (cA, 560, .inl (fun _ => 0)))])) := hD
  refine lv_aload_n hx hb dX6_init_13 rfl (lv_at hl 0 rfl) ?_
  refine lv_sipush (v := 560) hx hb dX6_init_14 (by decide) ?_
  refine newI (N := 560) X hP hD hS (by decide) (by decide) (by decide) (by decide) (by decide) dX6_init_17 (fun q1 H hP hD hS => ?_)
  refine va_putF hx hb (hE.use _) inG6 tyX6 tyX6_ok nmX6 hown hK hP hD hS 0 rfl rfl 1 (by decide) (hE.at _ kw137) (fun _ h => h) rfl hin rfl rfl rfl rfl (Nat.le_of_ble_eq_true rfl) dX6_init_19 (fun H locs hP hD hS => ?_)
  have hP : va_P D vwCl ((o, .inr (6, [.ref q0, .ref q1, .null, .null, .null, .null, .int 0])) :: ((W0 ++ [(q0, .inl (cA, 560, .inl (fun _ => 0)))])  ++ [(q1, .inl (cA, 560, .inl (fun _ => 0)))])) H := hP
  have hD : va_D A ((o, .inr (6, [.ref q0, .ref q1, .null, .null, .null, .null, .int 0])) :: ((W0 ++ [(q0, .inl (cA, 560, .inl (fun _ => 0)))])  ++ [(q1, .inl (cA, 560, .inl (fun _ => 0)))])) := hD
  refine lv_aload_n hx hb dX6_init_22 rfl (lv_at hl 0 rfl) ?_
  refine lv_sipush (v := 560) hx hb dX6_init_23 (by decide) ?_
  refine newI (N := 560) X hP hD hS (by decide) (by decide) (by decide) (by decide) (by decide) dX6_init_26 (fun q2 H hP hD hS => ?_)
  refine va_putF hx hb (hE.use _) inG6 tyX6 tyX6_ok nmX6 hown hK hP hD hS 0 rfl rfl 2 (by decide) (hE.at _ kw139) (fun _ h => h) rfl hin rfl rfl rfl rfl (Nat.le_of_ble_eq_true rfl) dX6_init_28 (fun H locs hP hD hS => ?_)
  have hP : va_P D vwCl ((o, .inr (6, [.ref q0, .ref q1, .ref q2, .null, .null, .null, .int 0])) :: (((W0 ++ [(q0, .inl (cA, 560, .inl (fun _ => 0)))])  ++ [(q1, .inl (cA, 560, .inl (fun _ => 0)))])  ++ [(q2, .inl (cA, 560, .inl (fun _ => 0)))])) H := hP
  have hD : va_D A ((o, .inr (6, [.ref q0, .ref q1, .ref q2, .null, .null, .null, .int 0])) :: (((W0 ++ [(q0, .inl (cA, 560, .inl (fun _ => 0)))])  ++ [(q1, .inl (cA, 560, .inl (fun _ => 0)))])  ++ [(q2, .inl (cA, 560, .inl (fun _ => 0)))])) := hD
  refine lv_aload_n hx hb dX6_init_31 rfl (lv_at hl 0 rfl) ?_
  refine lv_sipush (v := 560) hx hb dX6_init_32 (by decide) ?_
  refine newI (N := 560) X hP hD hS (by decide) (by decide) (by decide) (by decide) (by decide) dX6_init_35 (fun q3 H hP hD hS => ?_)
  refine va_putF hx hb (hE.use _) inG6 tyX6 tyX6_ok nmX6 hown hK hP hD hS 0 rfl rfl 3 (by decide) (hE.at _ kw140) (fun _ h => h) rfl hin rfl rfl rfl rfl (Nat.le_of_ble_eq_true rfl) dX6_init_37 (fun H locs hP hD hS => ?_)
  have hP : va_P D vwCl ((o, .inr (6, [.ref q0, .ref q1, .ref q2, .ref q3, .null, .null, .int 0])) :: ((((W0 ++ [(q0, .inl (cA, 560, .inl (fun _ => 0)))])  ++ [(q1, .inl (cA, 560, .inl (fun _ => 0)))])  ++ [(q2, .inl (cA, 560, .inl (fun _ => 0)))])  ++ [(q3, .inl (cA, 560, .inl (fun _ => 0)))])) H := hP
  have hD : va_D A ((o, .inr (6, [.ref q0, .ref q1, .ref q2, .ref q3, .null, .null, .int 0])) :: ((((W0 ++ [(q0, .inl (cA, 560, .inl (fun _ => 0)))])  ++ [(q1, .inl (cA, 560, .inl (fun _ => 0)))])  ++ [(q2, .inl (cA, 560, .inl (fun _ => 0)))])  ++ [(q3, .inl (cA, 560, .inl (fun _ => 0)))])) := hD
  refine lv_aload_n hx hb dX6_init_40 rfl (lv_at hl 0 rfl) ?_
  refine lv_sipush (v := 560) hx hb dX6_init_41 (by decide) ?_
  refine newI (N := 560) X hP hD hS (by decide) (by decide) (by decide) (by decide) (by decide) dX6_init_44 (fun q4 H hP hD hS => ?_)
  refine va_putF hx hb (hE.use _) inG6 tyX6 tyX6_ok nmX6 hown hK hP hD hS 0 rfl rfl 4 (by decide) (hE.at _ kw142) (fun _ h => h) rfl hin rfl rfl rfl rfl (Nat.le_of_ble_eq_true rfl) dX6_init_46 (fun H locs hP hD hS => ?_)
  have hP : va_P D vwCl ((o, .inr (6, [.ref q0, .ref q1, .ref q2, .ref q3, .ref q4, .null, .int 0])) :: (((((W0 ++ [(q0, .inl (cA, 560, .inl (fun _ => 0)))])  ++ [(q1, .inl (cA, 560, .inl (fun _ => 0)))])  ++ [(q2, .inl (cA, 560, .inl (fun _ => 0)))])  ++ [(q3, .inl (cA, 560, .inl (fun _ => 0)))])  ++ [(q4, .inl (cA, 560, .inl (fun _ => 0)))])) H := hP
  have hD : va_D A ((o, .inr (6, [.ref q0, .ref q1, .ref q2, .ref q3, .ref q4, .null, .int 0])) :: (((((W0 ++ [(q0, .inl (cA, 560, .inl (fun _ => 0)))])  ++ [(q1, .inl (cA, 560, .inl (fun _ => 0)))])  ++ [(q2, .inl (cA, 560, .inl (fun _ => 0)))])  ++ [(q3, .inl (cA, 560, .inl (fun _ => 0)))])  ++ [(q4, .inl (cA, 560, .inl (fun _ => 0)))])) := hD
  refine lv_aload_n hx hb dX6_init_49 rfl (lv_at hl 0 rfl) ?_
  refine lv_sipush (v := 186) hx hb dX6_init_50 (by decide) ?_
  refine newI (N := 186) X hP hD hS (by decide) (by decide) (by decide) (by decide) (by decide) dX6_init_53 (fun q5 H hP hD hS => ?_)
  refine va_putF hx hb (hE.use _) inG6 tyX6 tyX6_ok nmX6 hown hK hP hD hS 0 rfl rfl 5 (by decide) (hE.at _ kw144) (fun _ h => h) rfl hin rfl rfl rfl rfl (Nat.le_of_ble_eq_true rfl) dX6_init_55 (fun H locs hP hD hS => ?_)
  have hP : va_P D vwCl ((o, .inr (6, [.ref q0, .ref q1, .ref q2, .ref q3, .ref q4, .ref q5, .int 0])) :: ((((((W0 ++ [(q0, .inl (cA, 560, .inl (fun _ => 0)))])  ++ [(q1, .inl (cA, 560, .inl (fun _ => 0)))])  ++ [(q2, .inl (cA, 560, .inl (fun _ => 0)))])  ++ [(q3, .inl (cA, 560, .inl (fun _ => 0)))])  ++ [(q4, .inl (cA, 560, .inl (fun _ => 0)))])  ++ [(q5, .inl (cA, 186, .inl (fun _ => 0)))])) H := hP
  have hD : va_D A ((o, .inr (6, [.ref q0, .ref q1, .ref q2, .ref q3, .ref q4, .ref q5, .int 0])) :: ((((((W0 ++ [(q0, .inl (cA, 560, .inl (fun _ => 0)))])  ++ [(q1, .inl (cA, 560, .inl (fun _ => 0)))])  ++ [(q2, .inl (cA, 560, .inl (fun _ => 0)))])  ++ [(q3, .inl (cA, 560, .inl (fun _ => 0)))])  ++ [(q4, .inl (cA, 560, .inl (fun _ => 0)))])  ++ [(q5, .inl (cA, 186, .inl (fun _ => 0)))])) := hD
  exact ret_c X (fun k => [q0, q1, q2, q3, q4, q5].getD k 0) hP hD hS dX6_init_58
abbrev rm_X1_init : Room := { frames := 1, cells := 4, slots := 96, locals := 12 }
set_option maxHeartbeats 4000000 in
set_option maxRecDepth 100000 in
theorem c_X1_init (l : Launch) (D : va_G) (cA : ClassId) (A : Nat → Prop) (o r1 r2 : Nat) (W0 : va_W) : Met l yX1_init [.code yX1_init cX1_init 3 none] rm_X1_init (va_Pc [.ref o, .ref r1, .ref r2] (Wd D cA A ((o, .inr (1, [.null, .null, .null, .null, .null, .null, .int 0])) :: W0))) (QC D cA A (fun u => (o, .inr (1, [.ref r1, .ref r2, .ref (u 0), .ref (u 1), .ref (u 2), .ref (u 3), .int 0])) :: ((((W0 ++ [(u 0, .inl (cA, 24, .inl (fun _ => 0)))])  ++ [(u 1, .inl (cA, 24, .inl (fun _ => 0)))])  ++ [(u 2, .inl (cA, 24, .inl (fun _ => 0)))])  ++ [(u 3, .inl (cA, 24, .inl (fun _ => 0)))]))) 4 96 A := by
  refine enter (by decide) (Nat.le_of_ble_eq_true rfl) ?_
  intro p e s m below meth c ls X hin hP hD hS hl
  obtain ⟨hx, hb, hr, hml, hown, hlk, hE, hK, hA⟩ := id X
  have hl : lv_has ls 3 [(0, .ref o), (1, .ref r1), (2, .ref r2)] := hl
  refine lv_aload_n hx hb dX1_init_0 rfl (lv_at hl 0 rfl) ?_
  refine obj_i X kw168 hl dX1_init_1 (by decide) (by decide) ?_
  refine lv_aload_n hx hb dX1_init_4 rfl (lv_at hl 0 rfl) ?_
  refine lv_bipush (v := 24) hx hb dX1_init_5 (by decide) ?_
  refine newI (N := 24) X hP hD hS (by decide) (by decide) (by decide) (by decide) (by decide) dX1_init_7 (fun q0 H hP hD hS => ?_)
  refine va_putF hx hb (hE.use _) inG1 tyX1 tyX1_ok nmX1 hown hK hP hD hS 0 rfl rfl 2 (by decide) (hE.at _ kw171) (fun _ h => h) rfl hin rfl rfl rfl rfl (Nat.le_of_ble_eq_true rfl) dX1_init_9 (fun H locs hP hD hS => ?_)
  have hP : va_P D vwCl ((o, .inr (1, [.null, .null, .ref q0, .null, .null, .null, .int 0])) :: (W0 ++ [(q0, .inl (cA, 24, .inl (fun _ => 0)))])) H := hP
  have hD : va_D A ((o, .inr (1, [.null, .null, .ref q0, .null, .null, .null, .int 0])) :: (W0 ++ [(q0, .inl (cA, 24, .inl (fun _ => 0)))])) := hD
  refine lv_aload_n hx hb dX1_init_12 rfl (lv_at hl 0 rfl) ?_
  refine lv_bipush (v := 24) hx hb dX1_init_13 (by decide) ?_
  refine newI (N := 24) X hP hD hS (by decide) (by decide) (by decide) (by decide) (by decide) dX1_init_15 (fun q1 H hP hD hS => ?_)
  refine va_putF hx hb (hE.use _) inG1 tyX1 tyX1_ok nmX1 hown hK hP hD hS 0 rfl rfl 3 (by decide) (hE.at _ kw172) (fun _ h => h) rfl hin rfl rfl rfl rfl (Nat.le_of_ble_eq_true rfl) dX1_init_17 (fun H locs hP hD hS => ?_)
  have hP : va_P D vwCl ((o, .inr (1, [.null, .null, .ref q0, .ref q1, .null, .null, .int 0])) :: ((W0 ++ [(q0, .inl (cA, 24, .inl (fun _ => 0)))])  ++ [(q1, .inl (cA, 24, .inl (fun _ => 0)))])) H := hP
  have hD : va_D A ((o, .inr (1, [.null, .null, .ref q0, .ref q1, .null, .null, .int 0])) :: ((W0 ++ [(q0, .inl (cA, 24, .inl (fun _ => 0)))])  ++ [(q1, .inl (cA, 24, .inl (fun _ => 0)))])) := hD
  refine lv_aload_n hx hb dX1_init_20 rfl (lv_at hl 0 rfl) ?_
  refine lv_bipush (v := 24) hx hb dX1_init_21 (by decide) ?_
  refine newI (N := 24) X hP hD hS (by decide) (by decide) (by decide) (by decide) (by decide) dX1_init_23 (fun q2 H hP hD hS => ?_)
  refine va_putF hx hb (hE.use _) inG1 tyX1 tyX1_ok nmX1 hown hK hP hD hS 0 rfl rfl 4 (by decide) (hE.at _ kw173) (fun _ h => h) rfl hin rfl rfl rfl rfl (Nat.le_of_ble_eq_true rfl) dX1_init_25 (fun H locs hP hD hS => ?_)
  have hP : va_P D vwCl ((o, .inr (1, [.null, .null, .ref q0, .ref q1, .ref q2, .null, .int 0])) :: (((W0 ++ [(q0, .inl (cA, 24, .inl (fun _ => 0)))])  ++ [(q1, .inl (cA, 24, .inl (fun _ => 0)))])  ++ [(q2, .inl (cA, 24, .inl (fun _ => 0)))])) H := hP
  have hD : va_D A ((o, .inr (1, [.null, .null, .ref q0, .ref q1, .ref q2, .null, .int 0])) :: (((W0 ++ [(q0, .inl (cA, 24, .inl (fun _ => 0)))])  ++ [(q1, .inl (cA, 24, .inl (fun _ => 0)))])  ++ [(q2, .inl (cA, 24, .inl (fun _ => 0)))])) := hD
  refine lv_aload_n hx hb dX1_init_28 rfl (lv_at hl 0 rfl) ?_
  refine lv_bipush (v := 24) hx hb dX1_init_29 (by decide) ?_
  refine newI (N := 24) X hP hD hS (by decide) (by decide) (by decide) (by decide) (by decide) dX1_init_31 (fun q3 H hP hD hS => ?_)
  refine va_putF hx hb (hE.use _) inG1 tyX1 tyX1_ok nmX1 hown hK hP hD hS 0 rfl rfl 5 (by decide) (hE.at _ kw174) (fun _ h => h) rfl hin rfl rfl rfl rfl (Nat.le_of_ble_eq_true rfl) dX1_init_33 (fun H locs hP hD hS => ?_)
  have hP : va_P D vwCl ((o, .inr (1, [.null, .null, .ref q0, .ref q1, .ref q2, .ref q3, .int 0])) :: ((((W0 ++ [(q0, .inl (cA, 24, .inl (fun _ => 0)))])  ++ [(q1, .inl (cA, 24, .inl (fun _ => 0)))])  ++ [(q2, .inl (cA, 24, .inl (fun _ => 0)))])  ++ [(q3, .inl (cA, 24, .inl (fun _ => 0)))])) H := hP
  have hD : va_D A ((o, .inr (1, [.null, .null, .ref q0, .ref q1, .ref q2, .ref q3, .int 0])) :: ((((W0 ++ [(q0, .inl (cA, 24, .inl (fun _ => 0)))])  ++ [(q1, .inl (cA, 24, .inl (fun _ => 0)))])  ++ [(q2, .inl (cA, 24, .inl (fun _ => 0)))])  ++ [(q3, .inl (cA, 24, .inl (fun _ => 0)))])) := hD
  refine lv_aload_n hx hb dX1_init_36 rfl (lv_at hl 0 rfl) ?_
  refine lv_aload_n hx hb dX1_init_37 rfl (lv_at hl 1 rfl) ?_
  refine va_putF hx hb (hE.use _) inG1 tyX1 tyX1_ok nmX1 hown hK hP hD hS 0 rfl rfl 0 (by decide) (hE.at _ kw169) (fun _ h => h) rfl hin rfl rfl rfl rfl (Nat.le_of_ble_eq_true rfl) dX1_init_38 (fun H locs hP hD hS => ?_)
  have hP : va_P D vwCl ((o, .inr (1, [.ref r1, .null, .ref q0, .ref q1, .ref q2, .ref q3, .int 0])) :: ((((W0 ++ [(q0, .inl (cA, 24, .inl (fun _ => 0)))])  ++ [(q1, .inl (cA, 24, .inl (fun _ => 0)))])  ++ [(q2, .inl (cA, 24, .inl (fun _ => 0)))])  ++ [(q3, .inl (cA, 24, .inl (fun _ => 0)))])) H := hP
  have hD : va_D A ((o, .inr (1, [.ref r1, .null, .ref q0, .ref q1, .ref q2, .ref q3, .int 0])) :: ((((W0 ++ [(q0, .inl (cA, 24, .inl (fun _ => 0)))])  ++ [(q1, .inl (cA, 24, .inl (fun _ => 0)))])  ++ [(q2, .inl (cA, 24, .inl (fun _ => 0)))])  ++ [(q3, .inl (cA, 24, .inl (fun _ => 0)))])) := hD
  refine lv_aload_n hx hb dX1_init_41 rfl (lv_at hl 0 rfl) ?_
  refine lv_aload_n hx hb dX1_init_42 rfl (lv_at hl 2 rfl) ?_
  refine va_putF hx hb (hE.use _) inG1 tyX1 tyX1_ok nmX1 hown hK hP hD hS 0 rfl rfl 1 (by decide) (hE.at _ kw170) (fun _ h => h) rfl hin rfl rfl rfl rfl (Nat.le_of_ble_eq_true rfl) dX1_init_43 (fun H locs hP hD hS => ?_)
  have hP : va_P D vwCl ((o, .inr (1, [.ref r1, .ref r2, .ref q0, .ref q1, .ref q2, .ref q3, .int 0])) :: ((((W0 ++ [(q0, .inl (cA, 24, .inl (fun _ => 0)))])  ++ [(q1, .inl (cA, 24, .inl (fun _ => 0)))])  ++ [(q2, .inl (cA, 24, .inl (fun _ => 0)))])  ++ [(q3, .inl (cA, 24, .inl (fun _ => 0)))])) H := hP
  have hD : va_D A ((o, .inr (1, [.ref r1, .ref r2, .ref q0, .ref q1, .ref q2, .ref q3, .int 0])) :: ((((W0 ++ [(q0, .inl (cA, 24, .inl (fun _ => 0)))])  ++ [(q1, .inl (cA, 24, .inl (fun _ => 0)))])  ++ [(q2, .inl (cA, 24, .inl (fun _ => 0)))])  ++ [(q3, .inl (cA, 24, .inl (fun _ => 0)))])) := hD
  exact ret_c X (fun k => [q0, q1, q2, q3].getD k 0) hP hD hS dX1_init_46
abbrev rm_X5_init : Room := { frames := 1, cells := 7, slots := 4600, locals := 12 }
set_option maxHeartbeats 4000000 in
set_option maxRecDepth 100000 in
theorem c_X5_init (l : Launch) (D : va_G) (cA : ClassId) (A : Nat → Prop) (o r1 : Nat) (W0 : va_W) : Met l yX5_init [.code yX5_init cX5_init 2 none] rm_X5_init (va_Pc [.ref o, .ref r1] (Wd D cA A ((o, .inr (5, [.null, .null, .null, .null, .null, .null, .null, .null, .int 0, .int 0, .int 0, .int 0])) :: W0))) (QC D cA A (fun u => (o, .inr (5, [.ref r1, .ref (u 0), .ref (u 1), .ref (u 2), .ref (u 3), .ref (u 4), .ref (u 5), .ref (u 6), .int 0, .int 0, .int 0, .int 0])) :: (((((((W0 ++ [(u 0, .inl (cA, 808, .inl (fun _ => 0)))])  ++ [(u 1, .inl (cA, 808, .inl (fun _ => 0)))])  ++ [(u 2, .inl (cA, 808, .inl (fun _ => 0)))])  ++ [(u 3, .inl (cA, 808, .inl (fun _ => 0)))])  ++ [(u 4, .inl (cA, 808, .inl (fun _ => 0)))])  ++ [(u 5, .inl (cA, 160, .inl (fun _ => 0)))])  ++ [(u 6, .inl (cA, 400, .inl (fun _ => 0)))]))) 7 4600 A := by
  refine enter (by decide) (Nat.le_of_ble_eq_true rfl) ?_
  intro p e s m below meth c ls X hin hP hD hS hl
  obtain ⟨hx, hb, hr, hml, hown, hlk, hE, hK, hA⟩ := id X
  have hl : lv_has ls 2 [(0, .ref o), (1, .ref r1)] := hl
  refine lv_aload_n hx hb dX5_init_0 rfl (lv_at hl 0 rfl) ?_
  refine obj_i X kw196 hl dX5_init_1 (by decide) (by decide) ?_
  refine lv_aload_n hx hb dX5_init_4 rfl (lv_at hl 0 rfl) ?_
  refine lv_sipush (v := 808) hx hb dX5_init_5 (by decide) ?_
  refine newI (N := 808) X hP hD hS (by decide) (by decide) (by decide) (by decide) (by decide) dX5_init_8 (fun q0 H hP hD hS => ?_)
  refine va_putF hx hb (hE.use _) inG5 tyX5 tyX5_ok nmX5 hown hK hP hD hS 0 rfl rfl 1 (by decide) (hE.at _ kw198) (fun _ h => h) rfl hin rfl rfl rfl rfl (Nat.le_of_ble_eq_true rfl) dX5_init_10 (fun H locs hP hD hS => ?_)
  have hP : va_P D vwCl ((o, .inr (5, [.null, .ref q0, .null, .null, .null, .null, .null, .null, .int 0, .int 0, .int 0, .int 0])) :: (W0 ++ [(q0, .inl (cA, 808, .inl (fun _ => 0)))])) H := hP
  have hD : va_D A ((o, .inr (5, [.null, .ref q0, .null, .null, .null, .null, .null, .null, .int 0, .int 0, .int 0, .int 0])) :: (W0 ++ [(q0, .inl (cA, 808, .inl (fun _ => 0)))])) := hD
  refine lv_aload_n hx hb dX5_init_13 rfl (lv_at hl 0 rfl) ?_
  refine lv_sipush (v := 808) hx hb dX5_init_14 (by decide) ?_
  refine newI (N := 808) X hP hD hS (by decide) (by decide) (by decide) (by decide) (by decide) dX5_init_17 (fun q1 H hP hD hS => ?_)
  refine va_putF hx hb (hE.use _) inG5 tyX5 tyX5_ok nmX5 hown hK hP hD hS 0 rfl rfl 2 (by decide) (hE.at _ kw200) (fun _ h => h) rfl hin rfl rfl rfl rfl (Nat.le_of_ble_eq_true rfl) dX5_init_19 (fun H locs hP hD hS => ?_)
  have hP : va_P D vwCl ((o, .inr (5, [.null, .ref q0, .ref q1, .null, .null, .null, .null, .null, .int 0, .int 0, .int 0, .int 0])) :: ((W0 ++ [(q0, .inl (cA, 808, .inl (fun _ => 0)))])  ++ [(q1, .inl (cA, 808, .inl (fun _ => 0)))])) H := hP
  have hD : va_D A ((o, .inr (5, [.null, .ref q0, .ref q1, .null, .null, .null, .null, .null, .int 0, .int 0, .int 0, .int 0])) :: ((W0 ++ [(q0, .inl (cA, 808, .inl (fun _ => 0)))])  ++ [(q1, .inl (cA, 808, .inl (fun _ => 0)))])) := hD
  refine lv_aload_n hx hb dX5_init_22 rfl (lv_at hl 0 rfl) ?_
  refine lv_sipush (v := 808) hx hb dX5_init_23 (by decide) ?_
  refine newI (N := 808) X hP hD hS (by decide) (by decide) (by decide) (by decide) (by decide) dX5_init_26 (fun q2 H hP hD hS => ?_)
  refine va_putF hx hb (hE.use _) inG5 tyX5 tyX5_ok nmX5 hown hK hP hD hS 0 rfl rfl 3 (by decide) (hE.at _ kw201) (fun _ h => h) rfl hin rfl rfl rfl rfl (Nat.le_of_ble_eq_true rfl) dX5_init_28 (fun H locs hP hD hS => ?_)
  have hP : va_P D vwCl ((o, .inr (5, [.null, .ref q0, .ref q1, .ref q2, .null, .null, .null, .null, .int 0, .int 0, .int 0, .int 0])) :: (((W0 ++ [(q0, .inl (cA, 808, .inl (fun _ => 0)))])  ++ [(q1, .inl (cA, 808, .inl (fun _ => 0)))])  ++ [(q2, .inl (cA, 808, .inl (fun _ => 0)))])) H := hP
  have hD : va_D A ((o, .inr (5, [.null, .ref q0, .ref q1, .ref q2, .null, .null, .null, .null, .int 0, .int 0, .int 0, .int 0])) :: (((W0 ++ [(q0, .inl (cA, 808, .inl (fun _ => 0)))])  ++ [(q1, .inl (cA, 808, .inl (fun _ => 0)))])  ++ [(q2, .inl (cA, 808, .inl (fun _ => 0)))])) := hD
  refine lv_aload_n hx hb dX5_init_31 rfl (lv_at hl 0 rfl) ?_
  refine lv_sipush (v := 808) hx hb dX5_init_32 (by decide) ?_
  refine newI (N := 808) X hP hD hS (by decide) (by decide) (by decide) (by decide) (by decide) dX5_init_35 (fun q3 H hP hD hS => ?_)
  refine va_putF hx hb (hE.use _) inG5 tyX5 tyX5_ok nmX5 hown hK hP hD hS 0 rfl rfl 4 (by decide) (hE.at _ kw202) (fun _ h => h) rfl hin rfl rfl rfl rfl (Nat.le_of_ble_eq_true rfl) dX5_init_37 (fun H locs hP hD hS => ?_)
  have hP : va_P D vwCl ((o, .inr (5, [.null, .ref q0, .ref q1, .ref q2, .ref q3, .null, .null, .null, .int 0, .int 0, .int 0, .int 0])) :: ((((W0 ++ [(q0, .inl (cA, 808, .inl (fun _ => 0)))])  ++ [(q1, .inl (cA, 808, .inl (fun _ => 0)))])  ++ [(q2, .inl (cA, 808, .inl (fun _ => 0)))])  ++ [(q3, .inl (cA, 808, .inl (fun _ => 0)))])) H := hP
  have hD : va_D A ((o, .inr (5, [.null, .ref q0, .ref q1, .ref q2, .ref q3, .null, .null, .null, .int 0, .int 0, .int 0, .int 0])) :: ((((W0 ++ [(q0, .inl (cA, 808, .inl (fun _ => 0)))])  ++ [(q1, .inl (cA, 808, .inl (fun _ => 0)))])  ++ [(q2, .inl (cA, 808, .inl (fun _ => 0)))])  ++ [(q3, .inl (cA, 808, .inl (fun _ => 0)))])) := hD
  refine lv_aload_n hx hb dX5_init_40 rfl (lv_at hl 0 rfl) ?_
  refine lv_sipush (v := 808) hx hb dX5_init_41 (by decide) ?_
  refine newI (N := 808) X hP hD hS (by decide) (by decide) (by decide) (by decide) (by decide) dX5_init_44 (fun q4 H hP hD hS => ?_)
  refine va_putF hx hb (hE.use _) inG5 tyX5 tyX5_ok nmX5 hown hK hP hD hS 0 rfl rfl 5 (by decide) (hE.at _ kw203) (fun _ h => h) rfl hin rfl rfl rfl rfl (Nat.le_of_ble_eq_true rfl) dX5_init_46 (fun H locs hP hD hS => ?_)
  have hP : va_P D vwCl ((o, .inr (5, [.null, .ref q0, .ref q1, .ref q2, .ref q3, .ref q4, .null, .null, .int 0, .int 0, .int 0, .int 0])) :: (((((W0 ++ [(q0, .inl (cA, 808, .inl (fun _ => 0)))])  ++ [(q1, .inl (cA, 808, .inl (fun _ => 0)))])  ++ [(q2, .inl (cA, 808, .inl (fun _ => 0)))])  ++ [(q3, .inl (cA, 808, .inl (fun _ => 0)))])  ++ [(q4, .inl (cA, 808, .inl (fun _ => 0)))])) H := hP
  have hD : va_D A ((o, .inr (5, [.null, .ref q0, .ref q1, .ref q2, .ref q3, .ref q4, .null, .null, .int 0, .int 0, .int 0, .int 0])) :: (((((W0 ++ [(q0, .inl (cA, 808, .inl (fun _ => 0)))])  ++ [(q1, .inl (cA, 808, .inl (fun _ => 0)))])  ++ [(q2, .inl (cA, 808, .inl (fun _ => 0)))])  ++ [(q3, .inl (cA, 808, .inl (fun _ => 0)))])  ++ [(q4, .inl (cA, 808, .inl (fun _ => 0)))])) := hD
  refine lv_aload_n hx hb dX5_init_49 rfl (lv_at hl 0 rfl) ?_
  refine lv_sipush (v := 160) hx hb dX5_init_50 (by decide) ?_
  refine newI (N := 160) X hP hD hS (by decide) (by decide) (by decide) (by decide) (by decide) dX5_init_53 (fun q5 H hP hD hS => ?_)
  refine va_putF hx hb (hE.use _) inG5 tyX5 tyX5_ok nmX5 hown hK hP hD hS 0 rfl rfl 6 (by decide) (hE.at _ kw204) (fun _ h => h) rfl hin rfl rfl rfl rfl (Nat.le_of_ble_eq_true rfl) dX5_init_55 (fun H locs hP hD hS => ?_)
  have hP : va_P D vwCl ((o, .inr (5, [.null, .ref q0, .ref q1, .ref q2, .ref q3, .ref q4, .ref q5, .null, .int 0, .int 0, .int 0, .int 0])) :: ((((((W0 ++ [(q0, .inl (cA, 808, .inl (fun _ => 0)))])  ++ [(q1, .inl (cA, 808, .inl (fun _ => 0)))])  ++ [(q2, .inl (cA, 808, .inl (fun _ => 0)))])  ++ [(q3, .inl (cA, 808, .inl (fun _ => 0)))])  ++ [(q4, .inl (cA, 808, .inl (fun _ => 0)))])  ++ [(q5, .inl (cA, 160, .inl (fun _ => 0)))])) H := hP
  have hD : va_D A ((o, .inr (5, [.null, .ref q0, .ref q1, .ref q2, .ref q3, .ref q4, .ref q5, .null, .int 0, .int 0, .int 0, .int 0])) :: ((((((W0 ++ [(q0, .inl (cA, 808, .inl (fun _ => 0)))])  ++ [(q1, .inl (cA, 808, .inl (fun _ => 0)))])  ++ [(q2, .inl (cA, 808, .inl (fun _ => 0)))])  ++ [(q3, .inl (cA, 808, .inl (fun _ => 0)))])  ++ [(q4, .inl (cA, 808, .inl (fun _ => 0)))])  ++ [(q5, .inl (cA, 160, .inl (fun _ => 0)))])) := hD
  refine lv_aload_n hx hb dX5_init_58 rfl (lv_at hl 0 rfl) ?_
  refine lv_sipush (v := 400) hx hb dX5_init_59 (by decide) ?_
  refine newI (N := 400) X hP hD hS (by decide) (by decide) (by decide) (by decide) (by decide) dX5_init_62 (fun q6 H hP hD hS => ?_)
  refine va_putF hx hb (hE.use _) inG5 tyX5 tyX5_ok nmX5 hown hK hP hD hS 0 rfl rfl 7 (by decide) (hE.at _ kw205) (fun _ h => h) rfl hin rfl rfl rfl rfl (Nat.le_of_ble_eq_true rfl) dX5_init_64 (fun H locs hP hD hS => ?_)
  have hP : va_P D vwCl ((o, .inr (5, [.null, .ref q0, .ref q1, .ref q2, .ref q3, .ref q4, .ref q5, .ref q6, .int 0, .int 0, .int 0, .int 0])) :: (((((((W0 ++ [(q0, .inl (cA, 808, .inl (fun _ => 0)))])  ++ [(q1, .inl (cA, 808, .inl (fun _ => 0)))])  ++ [(q2, .inl (cA, 808, .inl (fun _ => 0)))])  ++ [(q3, .inl (cA, 808, .inl (fun _ => 0)))])  ++ [(q4, .inl (cA, 808, .inl (fun _ => 0)))])  ++ [(q5, .inl (cA, 160, .inl (fun _ => 0)))])  ++ [(q6, .inl (cA, 400, .inl (fun _ => 0)))])) H := hP
  have hD : va_D A ((o, .inr (5, [.null, .ref q0, .ref q1, .ref q2, .ref q3, .ref q4, .ref q5, .ref q6, .int 0, .int 0, .int 0, .int 0])) :: (((((((W0 ++ [(q0, .inl (cA, 808, .inl (fun _ => 0)))])  ++ [(q1, .inl (cA, 808, .inl (fun _ => 0)))])  ++ [(q2, .inl (cA, 808, .inl (fun _ => 0)))])  ++ [(q3, .inl (cA, 808, .inl (fun _ => 0)))])  ++ [(q4, .inl (cA, 808, .inl (fun _ => 0)))])  ++ [(q5, .inl (cA, 160, .inl (fun _ => 0)))])  ++ [(q6, .inl (cA, 400, .inl (fun _ => 0)))])) := hD
  refine lv_aload_n hx hb dX5_init_67 rfl (lv_at hl 0 rfl) ?_
  refine lv_aload_n hx hb dX5_init_68 rfl (lv_at hl 1 rfl) ?_
  refine va_putF hx hb (hE.use _) inG5 tyX5 tyX5_ok nmX5 hown hK hP hD hS 0 rfl rfl 0 (by decide) (hE.at _ kw197) (fun _ h => h) rfl hin rfl rfl rfl rfl (Nat.le_of_ble_eq_true rfl) dX5_init_69 (fun H locs hP hD hS => ?_)
  have hP : va_P D vwCl ((o, .inr (5, [.ref r1, .ref q0, .ref q1, .ref q2, .ref q3, .ref q4, .ref q5, .ref q6, .int 0, .int 0, .int 0, .int 0])) :: (((((((W0 ++ [(q0, .inl (cA, 808, .inl (fun _ => 0)))])  ++ [(q1, .inl (cA, 808, .inl (fun _ => 0)))])  ++ [(q2, .inl (cA, 808, .inl (fun _ => 0)))])  ++ [(q3, .inl (cA, 808, .inl (fun _ => 0)))])  ++ [(q4, .inl (cA, 808, .inl (fun _ => 0)))])  ++ [(q5, .inl (cA, 160, .inl (fun _ => 0)))])  ++ [(q6, .inl (cA, 400, .inl (fun _ => 0)))])) H := hP
  have hD : va_D A ((o, .inr (5, [.ref r1, .ref q0, .ref q1, .ref q2, .ref q3, .ref q4, .ref q5, .ref q6, .int 0, .int 0, .int 0, .int 0])) :: (((((((W0 ++ [(q0, .inl (cA, 808, .inl (fun _ => 0)))])  ++ [(q1, .inl (cA, 808, .inl (fun _ => 0)))])  ++ [(q2, .inl (cA, 808, .inl (fun _ => 0)))])  ++ [(q3, .inl (cA, 808, .inl (fun _ => 0)))])  ++ [(q4, .inl (cA, 808, .inl (fun _ => 0)))])  ++ [(q5, .inl (cA, 160, .inl (fun _ => 0)))])  ++ [(q6, .inl (cA, 400, .inl (fun _ => 0)))])) := hD
  exact ret_c X (fun k => [q0, q1, q2, q3, q4, q5, q6].getD k 0) hP hD hS dX5_init_72
abbrev rm_X0_init : Room := { frames := 1, cells := 5, slots := 96, locals := 12 }
set_option maxHeartbeats 4000000 in
set_option maxRecDepth 100000 in
theorem c_X0_init (l : Launch) (D : va_G) (cA : ClassId) (A : Nat → Prop) (o : Nat) (W0 : va_W) : Met l yX0_init [.code yX0_init cX0_init 1 none] rm_X0_init (va_Pc [.ref o] (Wd D cA A ((o, .inr (0, [.null, .null, .null, .null, .null, .int 0])) :: W0))) (QC D cA A (fun u => (o, .inr (0, [.ref (u 0), .ref (u 1), .ref (u 2), .ref (u 3), .ref (u 4), .int 0])) :: (((((W0 ++ [(u 0, .inl (cA, 24, .inl (fun _ => 0)))])  ++ [(u 1, .inl (cA, 24, .inl (fun _ => 0)))])  ++ [(u 2, .inl (cA, 24, .inl (fun _ => 0)))])  ++ [(u 3, .inl (cA, 24, .inl (fun _ => 0)))])  ++ [(u 4, .inl (cA, 0, .inl (fun _ => 0)))]))) 5 96 A := by
  refine enter (by decide) (Nat.le_of_ble_eq_true rfl) ?_
  intro p e s m below meth c ls X hin hP hD hS hl
  obtain ⟨hx, hb, hr, hml, hown, hlk, hE, hK, hA⟩ := id X
  have hl : lv_has ls 1 [(0, .ref o)] := hl
  refine lv_aload_n hx hb dX0_init_0 rfl (lv_at hl 0 rfl) ?_
  refine obj_i X kw243 hl dX0_init_1 (by decide) (by decide) ?_
  refine lv_aload_n hx hb dX0_init_4 rfl (lv_at hl 0 rfl) ?_
  refine lv_bipush (v := 24) hx hb dX0_init_5 (by decide) ?_
  refine newI (N := 24) X hP hD hS (by decide) (by decide) (by decide) (by decide) (by decide) dX0_init_7 (fun q0 H hP hD hS => ?_)
  refine va_putF hx hb (hE.use _) inG0 tyX0 tyX0_ok nmX0 hown hK hP hD hS 0 rfl rfl 0 (by decide) (hE.at _ kw244) (fun _ h => h) rfl hin rfl rfl rfl rfl (Nat.le_of_ble_eq_true rfl) dX0_init_9 (fun H locs hP hD hS => ?_)
  have hP : va_P D vwCl ((o, .inr (0, [.ref q0, .null, .null, .null, .null, .int 0])) :: (W0 ++ [(q0, .inl (cA, 24, .inl (fun _ => 0)))])) H := hP
  have hD : va_D A ((o, .inr (0, [.ref q0, .null, .null, .null, .null, .int 0])) :: (W0 ++ [(q0, .inl (cA, 24, .inl (fun _ => 0)))])) := hD
  refine lv_aload_n hx hb dX0_init_12 rfl (lv_at hl 0 rfl) ?_
  refine lv_bipush (v := 24) hx hb dX0_init_13 (by decide) ?_
  refine newI (N := 24) X hP hD hS (by decide) (by decide) (by decide) (by decide) (by decide) dX0_init_15 (fun q1 H hP hD hS => ?_)
  refine va_putF hx hb (hE.use _) inG0 tyX0 tyX0_ok nmX0 hown hK hP hD hS 0 rfl rfl 1 (by decide) (hE.at _ kw245) (fun _ h => h) rfl hin rfl rfl rfl rfl (Nat.le_of_ble_eq_true rfl) dX0_init_17 (fun H locs hP hD hS => ?_)
  have hP : va_P D vwCl ((o, .inr (0, [.ref q0, .ref q1, .null, .null, .null, .int 0])) :: ((W0 ++ [(q0, .inl (cA, 24, .inl (fun _ => 0)))])  ++ [(q1, .inl (cA, 24, .inl (fun _ => 0)))])) H := hP
  have hD : va_D A ((o, .inr (0, [.ref q0, .ref q1, .null, .null, .null, .int 0])) :: ((W0 ++ [(q0, .inl (cA, 24, .inl (fun _ => 0)))])  ++ [(q1, .inl (cA, 24, .inl (fun _ => 0)))])) := hD
  refine lv_aload_n hx hb dX0_init_20 rfl (lv_at hl 0 rfl) ?_
  refine lv_bipush (v := 24) hx hb dX0_init_21 (by decide) ?_
  refine newI (N := 24) X hP hD hS (by decide) (by decide) (by decide) (by decide) (by decide) dX0_init_23 (fun q2 H hP hD hS => ?_)
  refine va_putF hx hb (hE.use _) inG0 tyX0 tyX0_ok nmX0 hown hK hP hD hS 0 rfl rfl 2 (by decide) (hE.at _ kw246) (fun _ h => h) rfl hin rfl rfl rfl rfl (Nat.le_of_ble_eq_true rfl) dX0_init_25 (fun H locs hP hD hS => ?_)
  have hP : va_P D vwCl ((o, .inr (0, [.ref q0, .ref q1, .ref q2, .null, .null, .int 0])) :: (((W0 ++ [(q0, .inl (cA, 24, .inl (fun _ => 0)))])  ++ [(q1, .inl (cA, 24, .inl (fun _ => 0)))])  ++ [(q2, .inl (cA, 24, .inl (fun _ => 0)))])) H := hP
  have hD : va_D A ((o, .inr (0, [.ref q0, .ref q1, .ref q2, .null, .null, .int 0])) :: (((W0 ++ [(q0, .inl (cA, 24, .inl (fun _ => 0)))])  ++ [(q1, .inl (cA, 24, .inl (fun _ => 0)))])  ++ [(q2, .inl (cA, 24, .inl (fun _ => 0)))])) := hD
  refine lv_aload_n hx hb dX0_init_28 rfl (lv_at hl 0 rfl) ?_
  refine lv_bipush (v := 24) hx hb dX0_init_29 (by decide) ?_
  refine newI (N := 24) X hP hD hS (by decide) (by decide) (by decide) (by decide) (by decide) dX0_init_31 (fun q3 H hP hD hS => ?_)
  refine va_putF hx hb (hE.use _) inG0 tyX0 tyX0_ok nmX0 hown hK hP hD hS 0 rfl rfl 3 (by decide) (hE.at _ kw247) (fun _ h => h) rfl hin rfl rfl rfl rfl (Nat.le_of_ble_eq_true rfl) dX0_init_33 (fun H locs hP hD hS => ?_)
  have hP : va_P D vwCl ((o, .inr (0, [.ref q0, .ref q1, .ref q2, .ref q3, .null, .int 0])) :: ((((W0 ++ [(q0, .inl (cA, 24, .inl (fun _ => 0)))])  ++ [(q1, .inl (cA, 24, .inl (fun _ => 0)))])  ++ [(q2, .inl (cA, 24, .inl (fun _ => 0)))])  ++ [(q3, .inl (cA, 24, .inl (fun _ => 0)))])) H := hP
  have hD : va_D A ((o, .inr (0, [.ref q0, .ref q1, .ref q2, .ref q3, .null, .int 0])) :: ((((W0 ++ [(q0, .inl (cA, 24, .inl (fun _ => 0)))])  ++ [(q1, .inl (cA, 24, .inl (fun _ => 0)))])  ++ [(q2, .inl (cA, 24, .inl (fun _ => 0)))])  ++ [(q3, .inl (cA, 24, .inl (fun _ => 0)))])) := hD
  refine lv_aload_n hx hb dX0_init_36 rfl (lv_at hl 0 rfl) ?_
  refine lv_iconst (v := 0) hx hb dX0_init_37 (by decide) ?_
  refine newI (N := 0) X hP hD hS (by decide) (by decide) (by decide) (by decide) (by decide) dX0_init_38 (fun q4 H hP hD hS => ?_)
  refine va_put hx hb (hE.use _) inG0 tyX0 tyX0_ok nmX0 hown hK hP hD hS 0 rfl rfl 4 (by decide) (hE.at _ kw248) (fun _ h => h) rfl rfl rfl rfl (Nat.le_of_ble_eq_true rfl) dX0_init_40 (fun H locs hP hD hS => ?_)
  have hP : va_P D vwCl ((o, .inr (0, [.ref q0, .ref q1, .ref q2, .ref q3, .ref q4, .int 0])) :: (((((W0 ++ [(q0, .inl (cA, 24, .inl (fun _ => 0)))])  ++ [(q1, .inl (cA, 24, .inl (fun _ => 0)))])  ++ [(q2, .inl (cA, 24, .inl (fun _ => 0)))])  ++ [(q3, .inl (cA, 24, .inl (fun _ => 0)))])  ++ [(q4, .inl (cA, 0, .inl (fun _ => 0)))])) H := hP
  have hD : va_D A ((o, .inr (0, [.ref q0, .ref q1, .ref q2, .ref q3, .ref q4, .int 0])) :: (((((W0 ++ [(q0, .inl (cA, 24, .inl (fun _ => 0)))])  ++ [(q1, .inl (cA, 24, .inl (fun _ => 0)))])  ++ [(q2, .inl (cA, 24, .inl (fun _ => 0)))])  ++ [(q3, .inl (cA, 24, .inl (fun _ => 0)))])  ++ [(q4, .inl (cA, 0, .inl (fun _ => 0)))])) := hD
  exact ret_c X (fun k => [q0, q1, q2, q3, q4].getD k 0) hP hD hS dX0_init_43
abbrev rm_X7_init : Room := { frames := 1, cells := 4, slots := 748, locals := 12 }
set_option maxHeartbeats 4000000 in
set_option maxRecDepth 100000 in
theorem c_X7_init (l : Launch) (D : va_G) (cA : ClassId) (A : Nat → Prop) (o r1 r2 r3 r4 : Nat) (W0 : va_W) : Met l yX7_init [.code yX7_init cX7_init 5 none] rm_X7_init (va_Pc [.ref o, .ref r1, .ref r2, .ref r3, .ref r4] (Wd D cA A ((o, .inr (7, [.null, .null, .null, .null, .null, .null, .null, .null])) :: W0))) (QC D cA A (fun u => (o, .inr (7, [.ref r1, .ref r2, .ref r3, .ref r4, .ref (u 0), .ref (u 1), .ref (u 2), .ref (u 3)])) :: ((((W0 ++ [(u 0, .inl (cA, 187, .inl (fun _ => 0)))])  ++ [(u 1, .inl (cA, 187, .inl (fun _ => 0)))])  ++ [(u 2, .inl (cA, 187, .inl (fun _ => 0)))])  ++ [(u 3, .inl (cA, 187, .inl (fun _ => 0)))]))) 4 748 A := by
  refine enter (by decide) (Nat.le_of_ble_eq_true rfl) ?_
  intro p e s m below meth c ls X hin hP hD hS hl
  obtain ⟨hx, hb, hr, hml, hown, hlk, hE, hK, hA⟩ := id X
  have hl : lv_has ls 5 [(0, .ref o), (1, .ref r1), (2, .ref r2), (3, .ref r3), (4, .ref r4)] := hl
  refine lv_aload_n hx hb dX7_init_0 rfl (lv_at hl 0 rfl) ?_
  refine obj_i X kw269 hl dX7_init_1 (by decide) (by decide) ?_
  refine lv_aload_n hx hb dX7_init_4 rfl (lv_at hl 0 rfl) ?_
  refine lv_sipush (v := 187) hx hb dX7_init_5 (by decide) ?_
  refine newI (N := 187) X hP hD hS (by decide) (by decide) (by decide) (by decide) (by decide) dX7_init_8 (fun q0 H hP hD hS => ?_)
  refine va_putF hx hb (hE.use _) inG7 tyX7 tyX7_ok nmX7 hown hK hP hD hS 0 rfl rfl 4 (by decide) (hE.at _ kw274) (fun _ h => h) rfl hin rfl rfl rfl rfl (Nat.le_of_ble_eq_true rfl) dX7_init_10 (fun H locs hP hD hS => ?_)
  have hP : va_P D vwCl ((o, .inr (7, [.null, .null, .null, .null, .ref q0, .null, .null, .null])) :: (W0 ++ [(q0, .inl (cA, 187, .inl (fun _ => 0)))])) H := hP
  have hD : va_D A ((o, .inr (7, [.null, .null, .null, .null, .ref q0, .null, .null, .null])) :: (W0 ++ [(q0, .inl (cA, 187, .inl (fun _ => 0)))])) := hD
  refine lv_aload_n hx hb dX7_init_13 rfl (lv_at hl 0 rfl) ?_
  refine lv_sipush (v := 187) hx hb dX7_init_14 (by decide) ?_
  refine newI (N := 187) X hP hD hS (by decide) (by decide) (by decide) (by decide) (by decide) dX7_init_17 (fun q1 H hP hD hS => ?_)
  refine va_putF hx hb (hE.use _) inG7 tyX7 tyX7_ok nmX7 hown hK hP hD hS 0 rfl rfl 5 (by decide) (hE.at _ kw275) (fun _ h => h) rfl hin rfl rfl rfl rfl (Nat.le_of_ble_eq_true rfl) dX7_init_19 (fun H locs hP hD hS => ?_)
  have hP : va_P D vwCl ((o, .inr (7, [.null, .null, .null, .null, .ref q0, .ref q1, .null, .null])) :: ((W0 ++ [(q0, .inl (cA, 187, .inl (fun _ => 0)))])  ++ [(q1, .inl (cA, 187, .inl (fun _ => 0)))])) H := hP
  have hD : va_D A ((o, .inr (7, [.null, .null, .null, .null, .ref q0, .ref q1, .null, .null])) :: ((W0 ++ [(q0, .inl (cA, 187, .inl (fun _ => 0)))])  ++ [(q1, .inl (cA, 187, .inl (fun _ => 0)))])) := hD
  refine lv_aload_n hx hb dX7_init_22 rfl (lv_at hl 0 rfl) ?_
  refine lv_sipush (v := 187) hx hb dX7_init_23 (by decide) ?_
  refine newI (N := 187) X hP hD hS (by decide) (by decide) (by decide) (by decide) (by decide) dX7_init_26 (fun q2 H hP hD hS => ?_)
  refine va_putF hx hb (hE.use _) inG7 tyX7 tyX7_ok nmX7 hown hK hP hD hS 0 rfl rfl 6 (by decide) (hE.at _ kw276) (fun _ h => h) rfl hin rfl rfl rfl rfl (Nat.le_of_ble_eq_true rfl) dX7_init_28 (fun H locs hP hD hS => ?_)
  have hP : va_P D vwCl ((o, .inr (7, [.null, .null, .null, .null, .ref q0, .ref q1, .ref q2, .null])) :: (((W0 ++ [(q0, .inl (cA, 187, .inl (fun _ => 0)))])  ++ [(q1, .inl (cA, 187, .inl (fun _ => 0)))])  ++ [(q2, .inl (cA, 187, .inl (fun _ => 0)))])) H := hP
  have hD : va_D A ((o, .inr (7, [.null, .null, .null, .null, .ref q0, .ref q1, .ref q2, .null])) :: (((W0 ++ [(q0, .inl (cA, 187, .inl (fun _ => 0)))])  ++ [(q1, .inl (cA, 187, .inl (fun _ => 0)))])  ++ [(q2, .inl (cA, 187, .inl (fun _ => 0)))])) := hD
  refine lv_aload_n hx hb dX7_init_31 rfl (lv_at hl 0 rfl) ?_
  refine lv_sipush (v := 187) hx hb dX7_init_32 (by decide) ?_
  refine newI (N := 187) X hP hD hS (by decide) (by decide) (by decide) (by decide) (by decide) dX7_init_35 (fun q3 H hP hD hS => ?_)
  refine va_putF hx hb (hE.use _) inG7 tyX7 tyX7_ok nmX7 hown hK hP hD hS 0 rfl rfl 7 (by decide) (hE.at _ kw277) (fun _ h => h) rfl hin rfl rfl rfl rfl (Nat.le_of_ble_eq_true rfl) dX7_init_37 (fun H locs hP hD hS => ?_)
  have hP : va_P D vwCl ((o, .inr (7, [.null, .null, .null, .null, .ref q0, .ref q1, .ref q2, .ref q3])) :: ((((W0 ++ [(q0, .inl (cA, 187, .inl (fun _ => 0)))])  ++ [(q1, .inl (cA, 187, .inl (fun _ => 0)))])  ++ [(q2, .inl (cA, 187, .inl (fun _ => 0)))])  ++ [(q3, .inl (cA, 187, .inl (fun _ => 0)))])) H := hP
  have hD : va_D A ((o, .inr (7, [.null, .null, .null, .null, .ref q0, .ref q1, .ref q2, .ref q3])) :: ((((W0 ++ [(q0, .inl (cA, 187, .inl (fun _ => 0)))])  ++ [(q1, .inl (cA, 187, .inl (fun _ => 0)))])  ++ [(q2, .inl (cA, 187, .inl (fun _ => 0)))])  ++ [(q3, .inl (cA, 187, .inl (fun _ => 0)))])) := hD
  refine lv_aload_n hx hb dX7_init_40 rfl (lv_at hl 0 rfl) ?_
  refine lv_aload_n hx hb dX7_init_41 rfl (lv_at hl 1 rfl) ?_
  refine va_putF hx hb (hE.use _) inG7 tyX7 tyX7_ok nmX7 hown hK hP hD hS 0 rfl rfl 0 (by decide) (hE.at _ kw270) (fun _ h => h) rfl hin rfl rfl rfl rfl (Nat.le_of_ble_eq_true rfl) dX7_init_42 (fun H locs hP hD hS => ?_)
  have hP : va_P D vwCl ((o, .inr (7, [.ref r1, .null, .null, .null, .ref q0, .ref q1, .ref q2, .ref q3])) :: ((((W0 ++ [(q0, .inl (cA, 187, .inl (fun _ => 0)))])  ++ [(q1, .inl (cA, 187, .inl (fun _ => 0)))])  ++ [(q2, .inl (cA, 187, .inl (fun _ => 0)))])  ++ [(q3, .inl (cA, 187, .inl (fun _ => 0)))])) H := hP
  have hD : va_D A ((o, .inr (7, [.ref r1, .null, .null, .null, .ref q0, .ref q1, .ref q2, .ref q3])) :: ((((W0 ++ [(q0, .inl (cA, 187, .inl (fun _ => 0)))])  ++ [(q1, .inl (cA, 187, .inl (fun _ => 0)))])  ++ [(q2, .inl (cA, 187, .inl (fun _ => 0)))])  ++ [(q3, .inl (cA, 187, .inl (fun _ => 0)))])) := hD
  refine lv_aload_n hx hb dX7_init_45 rfl (lv_at hl 0 rfl) ?_
  refine lv_aload_n hx hb dX7_init_46 rfl (lv_at hl 2 rfl) ?_
  refine va_putF hx hb (hE.use _) inG7 tyX7 tyX7_ok nmX7 hown hK hP hD hS 0 rfl rfl 1 (by decide) (hE.at _ kw271) (fun _ h => h) rfl hin rfl rfl rfl rfl (Nat.le_of_ble_eq_true rfl) dX7_init_47 (fun H locs hP hD hS => ?_)
  have hP : va_P D vwCl ((o, .inr (7, [.ref r1, .ref r2, .null, .null, .ref q0, .ref q1, .ref q2, .ref q3])) :: ((((W0 ++ [(q0, .inl (cA, 187, .inl (fun _ => 0)))])  ++ [(q1, .inl (cA, 187, .inl (fun _ => 0)))])  ++ [(q2, .inl (cA, 187, .inl (fun _ => 0)))])  ++ [(q3, .inl (cA, 187, .inl (fun _ => 0)))])) H := hP
  have hD : va_D A ((o, .inr (7, [.ref r1, .ref r2, .null, .null, .ref q0, .ref q1, .ref q2, .ref q3])) :: ((((W0 ++ [(q0, .inl (cA, 187, .inl (fun _ => 0)))])  ++ [(q1, .inl (cA, 187, .inl (fun _ => 0)))])  ++ [(q2, .inl (cA, 187, .inl (fun _ => 0)))])  ++ [(q3, .inl (cA, 187, .inl (fun _ => 0)))])) := hD
  refine lv_aload_n hx hb dX7_init_50 rfl (lv_at hl 0 rfl) ?_
  refine lv_aload_n hx hb dX7_init_51 rfl (lv_at hl 3 rfl) ?_
  refine va_putF hx hb (hE.use _) inG7 tyX7 tyX7_ok nmX7 hown hK hP hD hS 0 rfl rfl 2 (by decide) (hE.at _ kw272) (fun _ h => h) rfl hin rfl rfl rfl rfl (Nat.le_of_ble_eq_true rfl) dX7_init_52 (fun H locs hP hD hS => ?_)
  have hP : va_P D vwCl ((o, .inr (7, [.ref r1, .ref r2, .ref r3, .null, .ref q0, .ref q1, .ref q2, .ref q3])) :: ((((W0 ++ [(q0, .inl (cA, 187, .inl (fun _ => 0)))])  ++ [(q1, .inl (cA, 187, .inl (fun _ => 0)))])  ++ [(q2, .inl (cA, 187, .inl (fun _ => 0)))])  ++ [(q3, .inl (cA, 187, .inl (fun _ => 0)))])) H := hP
  have hD : va_D A ((o, .inr (7, [.ref r1, .ref r2, .ref r3, .null, .ref q0, .ref q1, .ref q2, .ref q3])) :: ((((W0 ++ [(q0, .inl (cA, 187, .inl (fun _ => 0)))])  ++ [(q1, .inl (cA, 187, .inl (fun _ => 0)))])  ++ [(q2, .inl (cA, 187, .inl (fun _ => 0)))])  ++ [(q3, .inl (cA, 187, .inl (fun _ => 0)))])) := hD
  refine lv_aload_n hx hb dX7_init_55 rfl (lv_at hl 0 rfl) ?_
  refine lv_aload hx hb dX7_init_56 (lv_at hl 4 rfl) ?_
  refine va_putF hx hb (hE.use _) inG7 tyX7 tyX7_ok nmX7 hown hK hP hD hS 0 rfl rfl 3 (by decide) (hE.at _ kw273) (fun _ h => h) rfl hin rfl rfl rfl rfl (Nat.le_of_ble_eq_true rfl) dX7_init_58 (fun H locs hP hD hS => ?_)
  have hP : va_P D vwCl ((o, .inr (7, [.ref r1, .ref r2, .ref r3, .ref r4, .ref q0, .ref q1, .ref q2, .ref q3])) :: ((((W0 ++ [(q0, .inl (cA, 187, .inl (fun _ => 0)))])  ++ [(q1, .inl (cA, 187, .inl (fun _ => 0)))])  ++ [(q2, .inl (cA, 187, .inl (fun _ => 0)))])  ++ [(q3, .inl (cA, 187, .inl (fun _ => 0)))])) H := hP
  have hD : va_D A ((o, .inr (7, [.ref r1, .ref r2, .ref r3, .ref r4, .ref q0, .ref q1, .ref q2, .ref q3])) :: ((((W0 ++ [(q0, .inl (cA, 187, .inl (fun _ => 0)))])  ++ [(q1, .inl (cA, 187, .inl (fun _ => 0)))])  ++ [(q2, .inl (cA, 187, .inl (fun _ => 0)))])  ++ [(q3, .inl (cA, 187, .inl (fun _ => 0)))])) := hD
  exact ret_c X (fun k => [q0, q1, q2, q3].getD k 0) hP hD hS dX7_init_61
