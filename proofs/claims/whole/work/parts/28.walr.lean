abbrev rm_X7_reachesAll : Room := { frames := 5, cells := 1, slots := 9600, locals := 116 }
def F_X7_reachesAll_132 (k6 : Int32 → Int32 → St → Rs) (x1 : Int32) (x2 : Int32) (σ : St) : Rs :=
  k6 x1 (x2 + 1) σ
def F_X7_reachesAll_53 (k6 : Int32 → Int32 → St → Rs) (x2 : Int32) (x3 : Int32) (z0 : Int32) (σ : St) : Rs :=
  if z0 = 186 then (bd (rd 560 (gA σ 23) x2) (fun y2 => if y2 = 0 then (if (gF σ 13) ≤ 400 then (bd (rd 560 (gA σ 24) x2) (fun y5 => bd (rd 187 (gA σ 46) (x3 + 1)) (fun y6 => bd (rd 187 (gA σ 47) (x3 + 1)) (fun y7 => bo (F_X0_add y5 y6 y7 σ) (fun r8 s9 => ck (!(nI ((gF s9 16).toNatClampNeg) == 0)) (F_X7_reachesAll_132 k6 z0 x2 s9)))))) else (ck (isB 0) (some (0, σ)))) else (F_X7_reachesAll_132 k6 z0 x2 σ))) else (F_X7_reachesAll_132 k6 z0 x2 σ)
def F_X7_reachesAll_6  : Nat → Int32 → Int32 → St → Rs
  | 0, _, _, _ => none
  | n + 1, x1, x2, σ => if (gF σ 9) ≤ x2 then (ck (isB 1) (some (1, σ))) else (bd (rd 560 (gA σ 27) x2) (fun y3 => if y3 ≤ x1 then (bo (F_X7_comesTo x2 y3 σ) (fun r5 s6 => ck (gF s6 16 == gF σ 16) (if r5 = 0 then (F_X7_reachesAll_53 (F_X7_reachesAll_6 n) x2 y3 y3 s6) else (F_X7_reachesAll_53 (F_X7_reachesAll_6 n) x2 y3 186 s6)))) else (F_X7_reachesAll_132 (F_X7_reachesAll_6 n) x1 x2 σ)))
def F_X7_reachesAll  (σ : St) : Rs :=
  F_X7_reachesAll_6 5000 186 0 σ
section S_X7_reachesAll
variable {p : Program} {l : Launch} {e : Env} {s : State} {m : MethodId} {args : Array Value} {below : List Frame} {meth : Method} {c : Code}
variable {D : va_G} {cA : ClassId} {A : Nat → Prop} {ad : Nat → Nat} {r : Int32} {σ' : St}
set_option maxHeartbeats 4000000 in
set_option maxRecDepth 100000 in
theorem t_X7_reachesAll_132 {k6 : Int32 → Int32 → St → Rs} (X : Fx p s m meth c D cA A RX7 cX7_reachesAll 4 (some .boolean)) (K6 : ∀ (x1 x2 : Int32) (σ : St) (H : Heap) (locs : List Loc) (ls : Array Slot) (ta n1 n2 : Nat), n1 ≤ 1 → n2 ≤ 9600 → (nI ((gF σ 16).toNatClampNeg) = 0 → n1 = 0 ∧ n2 = 0) → k6 x1 x2 σ = some (r, σ') → va_P D vwCl (wC cA ad ta σ) H → va_D A (wC cA ad ta σ) → va_S A s.heap H locs → lv_has ls 4 [(0, .ref (ad 8)), (1, .int x1), (2, .int x2)] → W p l e (rm_X7_reachesAll) s m args below meth c H locs n1 n2 (MQ below (QIa D cA A (wC cA ad) r σ') args s 1 9600 A) (F0 m 6 ls [])) {x1 x2 : Int32} { σ : St} {H : Heap} {locs : List Loc} {ls : Array Slot} {ta n1 n2 : Nat} (hn1 : n1 ≤ 1) (hn2 : n2 ≤ 9600) (hz : nI ((gF σ 16).toNatClampNeg) = 0 → n1 = 0 ∧ n2 = 0) (hf : F_X7_reachesAll_132 k6 x1 x2 σ = some (r, σ')) (hP : va_P D vwCl (wC cA ad ta σ) H) (hD : va_D A (wC cA ad ta σ)) (hS : va_S A s.heap H locs) (hl : lv_has ls 4 [(0, .ref (ad 8)), (1, .int x1), (2, .int x2)]) : W p l e (rm_X7_reachesAll) s m args below meth c H locs n1 n2 (MQ below (QIa D cA A (wC cA ad) r σ') args s 1 9600 A) (F0 m 132 ls []) := by
  obtain ⟨hx, hb, hr, hml, hown, hlk, hE, hK, hA⟩ := id X
  rw [F_X7_reachesAll_132] at hf
  refine lv_iinc (v := (x2 + 1)) (lv' := [(2, .int (x2 + 1)), (0, .ref (ad 8)), (1, .int x1)]) hx hb dX7_reachesAll_132 hl (k := 2) rfl rfl (by decide) rfl (fun ls hl => ?_)
  refine lv_goto (tgt := 6) hx hb dX7_reachesAll_135 (by decide) ?_
  exact K6 x1 (x2 + 1) σ _ _ _ ta _ _ (by omega) (by omega) (fun h => by first | exact absurd h gh | (have := hz h; omega)) hf hP hD hS (lv_sub hl [1, 2, 0] rfl)
set_option maxHeartbeats 4000000 in
set_option maxRecDepth 100000 in
theorem t_X7_reachesAll_53 {k6 : Int32 → Int32 → St → Rs} (X : Fx p s m meth c D cA A RX7 cX7_reachesAll 4 (some .boolean)) (K6 : ∀ (x1 x2 : Int32) (σ : St) (H : Heap) (locs : List Loc) (ls : Array Slot) (ta n1 n2 : Nat), n1 ≤ 1 → n2 ≤ 9600 → (nI ((gF σ 16).toNatClampNeg) = 0 → n1 = 0 ∧ n2 = 0) → k6 x1 x2 σ = some (r, σ') → va_P D vwCl (wC cA ad ta σ) H → va_D A (wC cA ad ta σ) → va_S A s.heap H locs → lv_has ls 4 [(0, .ref (ad 8)), (1, .int x1), (2, .int x2)] → W p l e (rm_X7_reachesAll) s m args below meth c H locs n1 n2 (MQ below (QIa D cA A (wC cA ad) r σ') args s 1 9600 A) (F0 m 6 ls [])) {x2 x3 z0 : Int32} { σ : St} {H : Heap} {locs : List Loc} {ls : Array Slot} {ta n1 n2 : Nat} (hn1 : n1 ≤ 1) (hn2 : n2 ≤ 9600) (hz : nI ((gF σ 16).toNatClampNeg) = 0 → n1 = 0 ∧ n2 = 0) (hf : F_X7_reachesAll_53 k6 x2 x3 z0 σ = some (r, σ')) (hP : va_P D vwCl (wC cA ad ta σ) H) (hD : va_D A (wC cA ad ta σ)) (hS : va_S A s.heap H locs) (hl : lv_has ls 4 [(0, .ref (ad 8)), (2, .int x2), (3, .int x3)]) : W p l e (rm_X7_reachesAll) s m args below meth c H locs n1 n2 (MQ below (QIa D cA A (wC cA ad) r σ') args s 1 9600 A) (F0 m 53 ls [.int z0]) := by
  obtain ⟨hx, hb, hr, hml, hown, hlk, hE, hK, hA⟩ := id X
  rw [F_X7_reachesAll_53] at hf
  refine lv_istore_n (lv' := [(1, .int z0), (0, .ref (ad 8)), (2, .int x2), (3, .int x3)]) hx hb dX7_reachesAll_53 rfl hl (by decide) rfl (fun ls hl => ?_)
  refine lv_iload_n hx hb dX7_reachesAll_54 rfl (lv_at hl 0 rfl) ?_
  refine lv_sipush (v := 186) hx hb dX7_reachesAll_55 (by decide) ?_
  refine lv_icmp_ne (tgt := 132) hx hb dX7_reachesAll_58 (by decide) (fun c1 => ?_) (fun c1 => ?_)
  · have hf := it_f c1 hf
    exact t_X7_reachesAll_132 X K6 (by omega) (by omega) (fun h => by first | exact absurd h gh | (have := hz h; omega)) hf hP hD hS (lv_sub hl [1, 0, 2] rfl)
  · have hf := it_t c1 hf
    refine lv_aload_n hx hb dX7_reachesAll_61 rfl (lv_at hl 1 rfl) ?_
    refine gC_Wal_tree X hP kw271 dX7_reachesAll_62 ?_
    refine gCN_Tre_kind X hP kw136 dX7_reachesAll_65 ?_
    refine lv_iload_n hx hb dX7_reachesAll_68 rfl (lv_at hl 2 rfl) ?_
    refine callSN_i X cs_X8_get kw553 (c_get l D cA A (wC cA ad) ta σ 23 (ad 23) 560 (gA σ 23) x2 (by decide) rfl) ⟨by decide, by decide⟩ ⟨rfl, rfl⟩ hP hD hS rfl hl rfl (Nat.le_of_ble_eq_true rfl) dX7_reachesAll_69 ⟨by show _ ≤ 1; omega, by show _ ≤ 9600; omega⟩ (fun H locs hP hD hS => ?_)
    refine lv_topi (fun y2 ey2 => ?_)
    have hf := bd_x ey2 hf
    refine lv_if_ne (tgt := 132) hx hb dX7_reachesAll_72 (by decide) (fun c3 => ?_) (fun c3 => ?_)
    · have hf := it_f c3 hf
      exact t_X7_reachesAll_132 X K6 (by omega) (by omega) (fun h => by first | exact absurd h gh | (have := hz h; omega)) hf hP hD hS (lv_sub hl [1, 0, 2] rfl)
    · have hf := it_t c3 hf
      refine lv_aload_n hx hb dX7_reachesAll_75 rfl (lv_at hl 1 rfl) ?_
      refine gC_Wal_terms X hP kw272 dX7_reachesAll_76 ?_
      refine gCN_Ter_length X hP kw209 dX7_reachesAll_79 ?_
      refine lv_sipush (v := 400) hx hb dX7_reachesAll_82 (by decide) ?_
      refine lv_icmp_le (tgt := 90) hx hb dX7_reachesAll_85 (by decide) (fun c4 => ?_) (fun c4 => ?_)
      · have hf := it_t c4 hf
        refine lv_aload_n hx hb dX7_reachesAll_90 rfl (lv_at hl 1 rfl) ?_
        refine gC_Wal_outcomes X hP kw273 dX7_reachesAll_91 ?_
        refine lv_aload_n hx hb dX7_reachesAll_94 rfl (lv_at hl 1 rfl) ?_
        refine gC_Wal_tree X hP kw271 dX7_reachesAll_95 ?_
        refine gCN_Tre_subject X hP kw138 dX7_reachesAll_98 ?_
        refine lv_iload_n hx hb dX7_reachesAll_101 rfl (lv_at hl 2 rfl) ?_
        refine callSN_i X cs_X8_get kw553 (c_get l D cA A (wC cA ad) ta σ 24 (ad 24) 560 (gA σ 24) x2 (by decide) rfl) ⟨by decide, by decide⟩ ⟨rfl, rfl⟩ hP hD hS rfl hl rfl (Nat.le_of_ble_eq_true rfl) dX7_reachesAll_102 ⟨by show _ ≤ 1; omega, by show _ ≤ 9600; omega⟩ (fun H locs hP hD hS => ?_)
        refine lv_topi (fun y5 ey5 => ?_)
        have hf := bd_x ey5 hf
        refine lv_aload_n hx hb dX7_reachesAll_105 rfl (lv_at hl 1 rfl) ?_
        refine gC_Wal_asks X hP kw276 dX7_reachesAll_106 ?_
        refine lv_iload_n hx hb dX7_reachesAll_109 rfl (lv_at hl 3 rfl) ?_
        refine lv_iconst (v := 1) hx hb dX7_reachesAll_110 (by decide) ?_
        refine lv_iadd hx hb dX7_reachesAll_111 ?_
        refine callSN_i X cs_X8_get kw553 (c_get l D cA A (wC cA ad) ta σ 46 (ad 46) 187 (gA σ 46) (x3 + 1) (by decide) rfl) ⟨by decide, by decide⟩ ⟨rfl, rfl⟩ hP hD hS rfl hl rfl (Nat.le_of_ble_eq_true rfl) dX7_reachesAll_112 ⟨by show _ ≤ 1; omega, by show _ ≤ 9600; omega⟩ (fun H locs hP hD hS => ?_)
        refine lv_topi (fun y6 ey6 => ?_)
        have hf := bd_x ey6 hf
        refine lv_aload_n hx hb dX7_reachesAll_115 rfl (lv_at hl 1 rfl) ?_
        refine gC_Wal_freeAsks X hP kw277 dX7_reachesAll_116 ?_
        refine lv_iload_n hx hb dX7_reachesAll_119 rfl (lv_at hl 3 rfl) ?_
        refine lv_iconst (v := 1) hx hb dX7_reachesAll_120 (by decide) ?_
        refine lv_iadd hx hb dX7_reachesAll_121 ?_
        refine callSN_i X cs_X8_get kw553 (c_get l D cA A (wC cA ad) ta σ 47 (ad 47) 187 (gA σ 47) (x3 + 1) (by decide) rfl) ⟨by decide, by decide⟩ ⟨rfl, rfl⟩ hP hD hS rfl hl rfl (Nat.le_of_ble_eq_true rfl) dX7_reachesAll_122 ⟨by show _ ≤ 1; omega, by show _ ≤ 9600; omega⟩ (fun H locs hP hD hS => ?_)
        refine lv_topi (fun y7 ey7 => ?_)
        have hf := bd_x ey7 hf
        refine lv_aload_n hx hb dX7_reachesAll_125 rfl (lv_at hl 1 rfl) ?_
        refine gC_Wal_terms X hP kw272 dX7_reachesAll_126 ?_
        obtain ⟨r8, s9, h10, hf⟩ := bo_e hf
        obtain ⟨gq, hf⟩ := ck_e hf
        have gh : ¬ nI ((gF s9 16).toNatClampNeg) = 0 := by simpa using gq
        by_cases htl : nI ((gF σ 16).toNatClampNeg) = 0
        · obtain ⟨rfl, rfl⟩ := hz htl
          refine callVN_va X cv_X0_add kw584 (c_X0_addB l D cA A ad ta σ y5 y6 y7 r8 s9 h10 htl) ⟨by decide, by decide⟩ ⟨rfl, rfl⟩ hP hD hS (q0 := 7) (ci := 0) rfl rfl rfl rfl hl rfl (Nat.le_of_ble_eq_true rfl) dX7_reachesAll_129 ⟨by show _ ≤ 1; omega, by show _ ≤ 9600; omega⟩ (fun ta H locs hP hD hS => ?_)
          exact t_X7_reachesAll_132 X K6 (by omega) (by omega) (fun h => by first | exact absurd h gh | (have := hz h; omega)) hf hP hD hS (lv_sub hl [1, 0, 2] rfl)
        · refine callVN_v X cv_X0_add kw584 (c_X0_addA l D cA A ad ta σ y5 y6 y7 r8 s9 h10 htl) ⟨by decide, by decide⟩ ⟨rfl, rfl⟩ hP hD hS (q0 := 7) (ci := 0) rfl rfl rfl rfl hl rfl (Nat.le_of_ble_eq_true rfl) dX7_reachesAll_129 ⟨by show _ ≤ 1; omega, by show _ ≤ 9600; omega⟩ (fun H locs hP hD hS => ?_)
          exact t_X7_reachesAll_132 X K6 (by omega) (by omega) (fun h => by first | exact absurd h gh | (have := hz h; omega)) hf hP hD hS (lv_sub hl [1, 0, 2] rfl)
      · have hf := it_f c4 hf
        refine lv_iconst (v := 0) hx hb dX7_reachesAll_88 (by decide) ?_
        obtain ⟨b11, hf⟩ := ck_e hf
        obtain ⟨rfl, rfl⟩ := Prod.mk.inj (Option.some.inj hf)
        refine W.widen (k := 1) (n := 9600) (by omega) (by omega) ?_
        exact ret_za X b11 hP hD hS dX7_reachesAll_89
set_option maxHeartbeats 4000000 in
set_option maxRecDepth 100000 in
theorem t_X7_reachesAll_6  (X : Fx p s m meth c D cA A RX7 cX7_reachesAll 4 (some .boolean))  : ∀ (n : Nat) (x1 x2 : Int32) (σ : St) (H : Heap) (locs : List Loc) (ls : Array Slot) (ta n1 n2 : Nat), n1 ≤ 1 → n2 ≤ 9600 → (nI ((gF σ 16).toNatClampNeg) = 0 → n1 = 0 ∧ n2 = 0) → F_X7_reachesAll_6 n x1 x2 σ = some (r, σ') → va_P D vwCl (wC cA ad ta σ) H → va_D A (wC cA ad ta σ) → va_S A s.heap H locs → lv_has ls 4 [(0, .ref (ad 8)), (1, .int x1), (2, .int x2)] → W p l e (rm_X7_reachesAll) s m args below meth c H locs n1 n2 (MQ below (QIa D cA A (wC cA ad) r σ') args s 1 9600 A) (F0 m 6 ls []) := by
  obtain ⟨hx, hb, hr, hml, hown, hlk, hE, hK, hA⟩ := id X
  intro n
  induction n with
  | zero =>
    intro x1 x2 σ H locs ls ta n1 n2 hn1 hn2 hz hf
    cases (show (none : Rs) = some _ from hf)
  | succ n ih =>
    intro x1 x2 σ H locs ls ta n1 n2 hn1 hn2 hz hf hP hD hS hl
    rw [F_X7_reachesAll_6] at hf
    refine lv_iload_n hx hb dX7_reachesAll_6 rfl (lv_at hl 2 rfl) ?_
    refine lv_aload_n hx hb dX7_reachesAll_7 rfl (lv_at hl 0 rfl) ?_
    refine gC_Wal_tree X hP kw271 dX7_reachesAll_8 ?_
    refine gCN_Tre_nodes X hP kw146 dX7_reachesAll_11 ?_
    refine lv_icmp_ge (tgt := 138) hx hb dX7_reachesAll_14 (by decide) (fun c1 => ?_) (fun c1 => ?_)
    · have hf := it_t c1 hf
      refine lv_iconst (v := 1) hx hb dX7_reachesAll_138 (by decide) ?_
      obtain ⟨b2, hf⟩ := ck_e hf
      obtain ⟨rfl, rfl⟩ := Prod.mk.inj (Option.some.inj hf)
      refine W.widen (k := 1) (n := 9600) (by omega) (by omega) ?_
      exact ret_za X b2 hP hD hS dX7_reachesAll_139
    · have hf := it_f c1 hf
      refine lv_aload_n hx hb dX7_reachesAll_17 rfl (lv_at hl 0 rfl) ?_
      refine gC_Wal_tree X hP kw271 dX7_reachesAll_18 ?_
      refine gCN_Tre_depth X hP kw143 dX7_reachesAll_21 ?_
      refine lv_iload_n hx hb dX7_reachesAll_24 rfl (lv_at hl 2 rfl) ?_
      refine callSN_i X cs_X8_get kw553 (c_get l D cA A (wC cA ad) ta σ 27 (ad 27) 560 (gA σ 27) x2 (by decide) rfl) ⟨by decide, by decide⟩ ⟨rfl, rfl⟩ hP hD hS rfl hl rfl (Nat.le_of_ble_eq_true rfl) dX7_reachesAll_25 ⟨by show _ ≤ 1; omega, by show _ ≤ 9600; omega⟩ (fun H locs hP hD hS => ?_)
      refine lv_topi (fun y3 ey3 => ?_)
      have hf := bd_x ey3 hf
      refine lv_istore_n (lv' := [(3, .int y3), (0, .ref (ad 8)), (1, .int x1), (2, .int x2)]) hx hb dX7_reachesAll_28 rfl hl (by decide) rfl (fun ls hl => ?_)
      refine lv_iload_n hx hb dX7_reachesAll_29 rfl (lv_at hl 0 rfl) ?_
      refine lv_iload_n hx hb dX7_reachesAll_30 rfl (lv_at hl 2 rfl) ?_
      refine lv_icmp_le (tgt := 37) hx hb dX7_reachesAll_31 (by decide) (fun c4 => ?_) (fun c4 => ?_)
      · have hf := it_t c4 hf
        refine lv_aload_n hx hb dX7_reachesAll_37 rfl (lv_at hl 1 rfl) ?_
        refine lv_iload_n hx hb dX7_reachesAll_38 rfl (lv_at hl 3 rfl) ?_
        refine lv_iload_n hx hb dX7_reachesAll_39 rfl (lv_at hl 0 rfl) ?_
        obtain ⟨r5, s6, h7, hf⟩ := bo_e hf
        refine callV_i X cv_X7_comesTo kw554 (c_X7_comesTo l D cA A ad ta σ x2 y3 r5 s6 h7) ⟨by decide, by decide⟩ ⟨rfl, rfl⟩ hP hD hS (q0 := 8) (ci := 7) rfl rfl rfl rfl hl rfl (Nat.le_of_ble_eq_true rfl) dX7_reachesAll_40 ⟨by show _ ≤ 1; omega, by show _ ≤ 9600; omega⟩ (fun H locs hP hD hS => ?_)
        obtain ⟨gq, hf⟩ := ck_e hf
        have hz : nI ((gF s6 16).toNatClampNeg) = 0 → n1 = 0 ∧ n2 = 0 := by rw [beq_iff_eq.mp gq]; exact hz
        refine lv_if_eq (tgt := 52) hx hb dX7_reachesAll_43 (by decide) (fun c8 => ?_) (fun c8 => ?_)
        · have hf := it_t c8 hf
          refine lv_iload_n hx hb dX7_reachesAll_52 rfl (lv_at hl 0 rfl) ?_
          exact t_X7_reachesAll_53 X ih (by omega) (by omega) (fun h => by first | exact absurd h gh | (have := hz h; omega)) hf hP hD hS (lv_sub hl [1, 3, 0] rfl)
        · have hf := it_f c8 hf
          refine lv_sipush (v := 186) hx hb dX7_reachesAll_46 (by decide) ?_
          refine lv_goto (tgt := 53) hx hb dX7_reachesAll_49 (by decide) ?_
          exact t_X7_reachesAll_53 X ih (by omega) (by omega) (fun h => by first | exact absurd h gh | (have := hz h; omega)) hf hP hD hS (lv_sub hl [1, 3, 0] rfl)
      · have hf := it_f c4 hf
        refine lv_goto (tgt := 132) hx hb dX7_reachesAll_34 (by decide) ?_
        exact t_X7_reachesAll_132 X ih (by omega) (by omega) (fun h => by first | exact absurd h gh | (have := hz h; omega)) hf hP hD hS (lv_sub hl [1, 2, 3] rfl)
set_option maxHeartbeats 4000000 in
set_option maxRecDepth 100000 in
theorem t_X7_reachesAll_0  (X : Fx p s m meth c D cA A RX7 cX7_reachesAll 4 (some .boolean))  { σ : St} {H : Heap} {locs : List Loc} {ls : Array Slot} {ta n1 n2 : Nat} (hn1 : n1 ≤ 1) (hn2 : n2 ≤ 9600) (hz : nI ((gF σ 16).toNatClampNeg) = 0 → n1 = 0 ∧ n2 = 0) (hf : F_X7_reachesAll σ = some (r, σ')) (hP : va_P D vwCl (wC cA ad ta σ) H) (hD : va_D A (wC cA ad ta σ)) (hS : va_S A s.heap H locs) (hl : lv_has ls 4 [(0, .ref (ad 8))]) : W p l e (rm_X7_reachesAll) s m args below meth c H locs n1 n2 (MQ below (QIa D cA A (wC cA ad) r σ') args s 1 9600 A) (F0 m 0 ls []) := by
  obtain ⟨hx, hb, hr, hml, hown, hlk, hE, hK, hA⟩ := id X
  rw [F_X7_reachesAll] at hf
  refine lv_sipush (v := 186) hx hb dX7_reachesAll_0 (by decide) ?_
  refine lv_istore_n (lv' := [(1, .int 186), (0, .ref (ad 8))]) hx hb dX7_reachesAll_3 rfl hl (by decide) rfl (fun ls hl => ?_)
  refine lv_iconst (v := 0) hx hb dX7_reachesAll_4 (by decide) ?_
  refine lv_istore_n (lv' := [(2, .int 0), (1, .int 186), (0, .ref (ad 8))]) hx hb dX7_reachesAll_5 rfl hl (by decide) rfl (fun ls hl => ?_)
  exact t_X7_reachesAll_6 X  5000 186 0 σ _ _ _ ta _ _ (by omega) (by omega) (fun h => by first | exact absurd h gh | (have := hz h; omega)) hf hP hD hS (lv_sub hl [2, 1, 0] rfl)
end S_X7_reachesAll
theorem c_X7_reachesAll (l : Launch) (D : va_G) (cA : ClassId) (A : Nat → Prop) (ad : Nat → Nat) (ta : Nat) (σ : St) (r : Int32) (σ' : St) (hf : F_X7_reachesAll σ = some (r, σ')) : MIa l D cA A (wC cA ad) yX7_reachesAll cX7_reachesAll 4 (some .boolean) rm_X7_reachesAll [.ref (ad 8)] ta σ r σ' 1 9600 := by
  refine enter (by decide) (Nat.le_of_ble_eq_true rfl) ?_
  intro p e s m below meth c ls X hnm hP hD hS hl
  exact t_X7_reachesAll_0 X (by omega) (by omega) (fun _ => ⟨rfl, rfl⟩) hf hP hD hS hl
