abbrev rm_X8_lead : Room := { frames := 7, cells := 1, slots := 9600, locals := 157 }
def F_X8_lead  (σ : St) : Rs :=
  bo (F_X2_take  σ) (fun r1 s2 => bo (F_X4_hasFunction  s2) (fun r4 s5 => if r4 = 0 then (some ((-1), s5)) else (bo (F_X0_clear  s5) (fun r8 s9 => bo (F_X2_firstWrong r1 1 s9) (fun r11 s12 => if r11 = (-1) then (bo (F_X5_load r1 s12) (fun r15 s16 => bo (F_X8_refreshTree  s16) (fun r18 s19 => bo (F_X7_reachesAll  s19) (fun r21 s22 => if r21 = 0 then (bo (F_X0_clear  s22) (fun r25 s26 => some ((-1000), s26))) else (some ((gF s22 15), s22)))))) else (some (((-2) - r11), s12)))))))
section S_X8_lead
variable {p : Program} {l : Launch} {e : Env} {s : State} {m : MethodId} {args : Array Value} {below : List Frame} {meth : Method} {c : Code}
variable {D : va_G} {cA : ClassId} {A : Nat → Prop} {ad : Nat → Nat} {r : Int32} {σ' : St} {ta : Nat}
set_option maxHeartbeats 4000000 in
set_option maxRecDepth 100000 in
theorem t_X8_lead_0  (X : Fx p s m meth c D cA A RX8 cX8_lead 3 (some .int))  { σ : St} {H : Heap} {locs : List Loc} {ls : Array Slot} (hf : F_X8_lead σ = some (r, σ')) (hP : va_P D vwCl (wC cA ad ta σ) H) (hD : va_D A (wC cA ad ta σ)) (hS : va_S A s.heap H locs) (hl : lv_has ls 3 [(0, .ref (ad 0))]) : W p l e (rm_X8_lead) s m args below meth c H locs 0 0 (MQ below (QIa D cA A (wC cA ad) r σ') args s 1 9600 A) (F0 m 0 ls []) := by
  obtain ⟨hx, hb, hr, hml, hown, hlk, hE, hK, hA⟩ := id X
  rw [F_X8_lead] at hf
  refine lv_aload_n hx hb dX8_lead_0 rfl (lv_at hl 0 rfl) ?_
  refine gC_Top_row X hP kw296 dX8_lead_1 ?_
  obtain ⟨r1, s2, h3, hf⟩ := bo_e hf
  refine callVN_i X cv_X2_take kw378 (c_X2_take l D cA A ad ta σ  r1 s2 h3) ⟨by decide, by decide⟩ ⟨rfl, rfl⟩ hP hD hS (q0 := 2) (ci := 2) rfl rfl rfl rfl hl rfl (Nat.le_of_ble_eq_true rfl) dX8_lead_4 ⟨by decide, by decide⟩ (fun H locs hP hD hS => ?_)
  refine lv_istore_n (lv' := [(1, .int r1), (0, .ref (ad 0))]) hx hb dX8_lead_7 rfl hl (by decide) rfl (fun ls hl => ?_)
  refine lv_aload_n hx hb dX8_lead_8 rfl (lv_at hl 1 rfl) ?_
  refine gC_Top_signature X hP kw295 dX8_lead_9 ?_
  obtain ⟨r4, s5, h6, hf⟩ := bo_e hf
  refine callVN_i X cv_X4_hasFunction kw382 (c_X4_hasFunction l D cA A ad ta s2  r4 s5 h6) ⟨by decide, by decide⟩ ⟨rfl, rfl⟩ hP hD hS (q0 := 1) (ci := 4) rfl rfl rfl rfl hl rfl (Nat.le_of_ble_eq_true rfl) dX8_lead_12 ⟨by decide, by decide⟩ (fun H locs hP hD hS => ?_)
  refine lv_if_ne (tgt := 20) hx hb dX8_lead_15 (by decide) (fun c7 => ?_) (fun c7 => ?_)
  · have hf := it_f c7 hf
    refine lv_aload_n hx hb dX8_lead_20 rfl (lv_at hl 1 rfl) ?_
    refine gC_Top_outcomes X hP kw301 dX8_lead_21 ?_
    obtain ⟨r8, s9, h10, hf⟩ := bo_e hf
    refine callVN_v X cv_X0_clear kw349 (c_X0_clear l D cA A ad ta s5  r8 s9 h10) ⟨by decide, by decide⟩ ⟨rfl, rfl⟩ hP hD hS (q0 := 7) (ci := 0) rfl rfl rfl rfl hl rfl (Nat.le_of_ble_eq_true rfl) dX8_lead_24 ⟨by decide, by decide⟩ (fun H locs hP hD hS => ?_)
    refine lv_aload_n hx hb dX8_lead_27 rfl (lv_at hl 1 rfl) ?_
    refine gC_Top_row X hP kw296 dX8_lead_28 ?_
    refine lv_iload_n hx hb dX8_lead_31 rfl (lv_at hl 0 rfl) ?_
    refine lv_aload_n hx hb dX8_lead_32 rfl (lv_at hl 1 rfl) ?_
    refine gC_Top_signature X hP kw295 dX8_lead_33 ?_
    refine lv_iconst (v := 1) hx hb dX8_lead_36 (by decide) ?_
    obtain ⟨r11, s12, h13, hf⟩ := bo_e hf
    refine callVN_i X cv_X2_firstWrong kw397 (c_X2_firstWrong l D cA A ad ta s9 r1 1 r11 s12 h13) ⟨by decide, by decide⟩ ⟨rfl, rfl⟩ hP hD hS (q0 := 2) (ci := 2) rfl rfl rfl rfl hl rfl (Nat.le_of_ble_eq_true rfl) dX8_lead_37 ⟨by decide, by decide⟩ (fun H locs hP hD hS => ?_)
    refine lv_istore_n (lv' := [(2, .int r11), (1, .int r1), (0, .ref (ad 0))]) hx hb dX8_lead_40 rfl hl (by decide) rfl (fun ls hl => ?_)
    refine lv_iload_n hx hb dX8_lead_41 rfl (lv_at hl 0 rfl) ?_
    refine lv_iconst (v := -1) hx hb dX8_lead_42 (by decide) ?_
    refine lv_icmp_eq (tgt := 51) hx hb dX8_lead_43 (by decide) (fun c14 => ?_) (fun c14 => ?_)
    · have hf := it_t c14 hf
      refine lv_aload_n hx hb dX8_lead_51 rfl (lv_at hl 2 rfl) ?_
      refine gC_Top_terms X hP kw300 dX8_lead_52 ?_
      refine lv_aload_n hx hb dX8_lead_55 rfl (lv_at hl 2 rfl) ?_
      refine gC_Top_row X hP kw296 dX8_lead_56 ?_
      refine lv_iload_n hx hb dX8_lead_59 rfl (lv_at hl 1 rfl) ?_
      obtain ⟨r15, s16, h17, hf⟩ := bo_e hf
      refine callVN_v X cv_X5_load kw447 (c_X5_load l D cA A ad ta s12 r1 r15 s16 h17) ⟨by decide, by decide⟩ ⟨rfl, rfl⟩ hP hD hS (q0 := 6) (ci := 5) rfl rfl rfl rfl hl rfl (Nat.le_of_ble_eq_true rfl) dX8_lead_60 ⟨by decide, by decide⟩ (fun H locs hP hD hS => ?_)
      refine lv_aload_n hx hb dX8_lead_63 rfl (lv_at hl 2 rfl) ?_
      obtain ⟨r18, s19, h20, hf⟩ := bo_e hf
      refine callV_v X cv_X8_refreshTree kw453 (c_X8_refreshTree l D cA A ad ta s16  r18 s19 h20) ⟨by decide, by decide⟩ ⟨rfl, rfl⟩ hP hD hS (q0 := 0) (ci := 8) rfl rfl rfl rfl hl rfl (Nat.le_of_ble_eq_true rfl) dX8_lead_64 ⟨by decide, by decide⟩ (fun H locs hP hD hS => ?_)
      refine lv_aload_n hx hb dX8_lead_67 rfl (lv_at hl 2 rfl) ?_
      refine gC_Top_walk X hP kw302 dX8_lead_68 ?_
      obtain ⟨r21, s22, h23, hf⟩ := bo_e hf
      refine callVN_ia X cv_X7_reachesAll kw549 (c_X7_reachesAll l D cA A ad ta s19  r21 s22 h23) ⟨by decide, by decide⟩ ⟨rfl, rfl⟩ hP hD hS (q0 := 8) (ci := 7) rfl rfl rfl rfl hl rfl (Nat.le_of_ble_eq_true rfl) dX8_lead_71 ⟨by decide, by decide⟩ (fun ta H locs hP hD hS => ?_)
      refine lv_if_ne (tgt := 88) hx hb dX8_lead_74 (by decide) (fun c24 => ?_) (fun c24 => ?_)
      · have hf := it_f c24 hf
        refine lv_aload_n hx hb dX8_lead_88 rfl (lv_at hl 2 rfl) ?_
        refine gC_Top_outcomes X hP kw301 dX8_lead_89 ?_
        refine gCN_Out_many X hP kw250 dX8_lead_92 ?_
        obtain ⟨rfl, rfl⟩ := Prod.mk.inj (Option.some.inj hf)
        refine W.widen (k := 1) (n := 9600) (Nat.le_of_ble_eq_true rfl) (Nat.le_of_ble_eq_true rfl) ?_
        exact ret_ia X hP hD hS dX8_lead_95
      · have hf := it_t c24 hf
        refine lv_aload_n hx hb dX8_lead_77 rfl (lv_at hl 2 rfl) ?_
        refine gC_Top_outcomes X hP kw301 dX8_lead_78 ?_
        obtain ⟨r25, s26, h27, hf⟩ := bo_e hf
        refine callVN_v X cv_X0_clear kw349 (c_X0_clear l D cA A ad ta s22  r25 s26 h27) ⟨by decide, by decide⟩ ⟨rfl, rfl⟩ hP hD hS (q0 := 7) (ci := 0) rfl rfl rfl rfl hl rfl (Nat.le_of_ble_eq_true rfl) dX8_lead_81 ⟨by decide, by decide⟩ (fun H locs hP hD hS => ?_)
        refine lv_sipush (v := -1000) hx hb dX8_lead_84 (by decide) ?_
        obtain ⟨rfl, rfl⟩ := Prod.mk.inj (Option.some.inj hf)
        refine W.widen (k := 1) (n := 9600) (Nat.le_of_ble_eq_true rfl) (Nat.le_of_ble_eq_true rfl) ?_
        exact ret_ia X hP hD hS dX8_lead_87
    · have hf := it_f c14 hf
      refine lv_bipush (v := -2) hx hb dX8_lead_46 (by decide) ?_
      refine lv_iload_n hx hb dX8_lead_48 rfl (lv_at hl 0 rfl) ?_
      refine lv_isub hx hb dX8_lead_49 ?_
      obtain ⟨rfl, rfl⟩ := Prod.mk.inj (Option.some.inj hf)
      refine W.widen (k := 1) (n := 9600) (Nat.le_of_ble_eq_true rfl) (Nat.le_of_ble_eq_true rfl) ?_
      exact ret_ia X hP hD hS dX8_lead_50
  · have hf := it_t c7 hf
    refine lv_iconst (v := -1) hx hb dX8_lead_18 (by decide) ?_
    obtain ⟨rfl, rfl⟩ := Prod.mk.inj (Option.some.inj hf)
    refine W.widen (k := 1) (n := 9600) (Nat.le_of_ble_eq_true rfl) (Nat.le_of_ble_eq_true rfl) ?_
    exact ret_ia X hP hD hS dX8_lead_19
end S_X8_lead
theorem c_X8_lead (l : Launch) (D : va_G) (cA : ClassId) (A : Nat → Prop) (ad : Nat → Nat) (ta : Nat) (σ : St) (r : Int32) (σ' : St) (hf : F_X8_lead σ = some (r, σ')) : MIa l D cA A (wC cA ad) yX8_lead cX8_lead 3 (some .int) rm_X8_lead [.ref (ad 0)] ta σ r σ' 1 9600 := by
  refine enter (by decide) (Nat.le_of_ble_eq_true rfl) ?_
  intro p e s m below meth c ls X hnm hP hD hS hl
  exact t_X8_lead_0 X hf hP hD hS hl
