abbrev rm_X9_laid (d : Nat) : Room := { frames := 2 + d, cells := 0, slots := 0, locals := 48 + 33 * d }
def F_X9_laid_133 (rc : Int32 → Int32 → Int32 → Int32 → St → Rs) (x2 : Int32) (x7 : Int32) (σ : St) : Rs :=
  ck (inb x7 4000) (bd (sA σ 23 (upd (gA σ 23) x7.toNatClampNeg x2)) (fun s2 => ck (isB 1) (some (1, s2))))
def F_X9_laid_101 (rc : Int32 → Int32 → Int32 → Int32 → St → Rs) : Nat → Int32 → Int32 → Int32 → Int32 → Int32 → St → Rs
  | 0, _, _, _, _, _, _ => none
  | n + 1, x1, x2, x4, x7, x10, σ => if (x1 + x2) ≤ x10 then (F_X9_laid_133 rc x2 x7 σ) else (ck (inb x10 4800) (bd (gA σ 17 x10.toNatClampNeg) (fun y3 => bo (F_X9_node 0 y3 (-1) (x4 + 1) σ) (fun r4 s5 => F_X9_laid_101 rc n x1 x2 x4 x7 (x10 + 1) s5))))
def F_X9_laid_345 (rc : Int32 → Int32 → Int32 → Int32 → St → Rs) (k204 : Int32 → Int32 → Int32 → Int32 → Int32 → Int32 → Int32 → Int32 → Int32 → St → Rs) (x1 : Int32) (x2 : Int32) (x4 : Int32) (x5 : Int32) (x7 : Int32) (x8 : Int32) (x9 : Int32) (x11 : Int32) (x12 : Int32) (σ : St) : Rs :=
  k204 x1 x2 x4 x5 x7 x8 x9 x11 (x12 + 1) σ
def F_X9_laid_320 (rc : Int32 → Int32 → Int32 → Int32 → St → Rs) (k204 : Int32 → Int32 → Int32 → Int32 → Int32 → Int32 → Int32 → Int32 → Int32 → St → Rs) (x1 : Int32) (x2 : Int32) (x4 : Int32) (x5 : Int32) (x7 : Int32) (x8 : Int32) (x11 : Int32) (x12 : Int32) (x13 : Int32) (z0 : Int32) (σ : St) : Rs :=
  ck (inb x12 60) (bd (gA σ 2 x12.toNatClampNeg) (fun y2 => bo (F_X9_putBack x8 x13 x5 y2 σ) (fun r3 s4 => bd (sF s4 8 x8) (fun s6 => F_X9_laid_345 rc k204 x1 x2 x4 x5 x7 x8 z0 x11 x12 s6))))
def F_X9_laid_319 (rc : Int32 → Int32 → Int32 → Int32 → St → Rs) (k204 : Int32 → Int32 → Int32 → Int32 → Int32 → Int32 → Int32 → Int32 → Int32 → St → Rs) (x1 : Int32) (x2 : Int32) (x4 : Int32) (x5 : Int32) (x7 : Int32) (x8 : Int32) (x11 : Int32) (x12 : Int32) (x13 : Int32) (σ : St) : Rs :=
  F_X9_laid_320 rc k204 x1 x2 x4 x5 x7 x8 x11 x12 x13 0 σ
def F_X9_laid_255 (rc : Int32 → Int32 → Int32 → Int32 → St → Rs) (k204 : Int32 → Int32 → Int32 → Int32 → Int32 → Int32 → Int32 → Int32 → Int32 → St → Rs) (x1 : Int32) (x2 : Int32) (x4 : Int32) (x5 : Int32) (x7 : Int32) (x8 : Int32) (x11 : Int32) (x12 : Int32) (x13 : Int32) (z0 : Int32) (σ : St) : Rs :=
  if x13 = 0 then (F_X9_laid_345 rc k204 x1 x2 x4 x5 x7 x8 z0 x11 x12 σ) else (ck (inb x7 4000) (bd (gA σ 23 x7.toNatClampNeg) (fun y3 => ck (inb x7 4000) (bd (sA σ 23 (upd (gA σ 23) x7.toNatClampNeg (y3 + 1))) (fun s5 => ck (inb x12 60) (bd (gA s5 2 x12.toNatClampNeg) (fun y7 => bo (F_X9_take x8 x13 x5 y7 s5) (fun r8 s9 => bo (rc x8 x13 x12 (x4 + 1) s9) (fun r11 s12 => if r11 = 0 then (F_X9_laid_319 rc k204 x1 x2 x4 x5 x7 x8 x11 x12 x13 s12) else (if z0 = 0 then (F_X9_laid_319 rc k204 x1 x2 x4 x5 x7 x8 x11 x12 x13 s12) else (F_X9_laid_320 rc k204 x1 x2 x4 x5 x7 x8 x11 x12 x13 1 s12)))))))))))
def F_X9_laid_254 (rc : Int32 → Int32 → Int32 → Int32 → St → Rs) (k204 : Int32 → Int32 → Int32 → Int32 → Int32 → Int32 → Int32 → Int32 → Int32 → St → Rs) (x1 : Int32) (x2 : Int32) (x4 : Int32) (x5 : Int32) (x7 : Int32) (x8 : Int32) (x11 : Int32) (x12 : Int32) (x13 : Int32) (σ : St) : Rs :=
  F_X9_laid_255 rc k204 x1 x2 x4 x5 x7 x8 x11 x12 x13 0 σ
def F_X9_laid_204 (rc : Int32 → Int32 → Int32 → Int32 → St → Rs) : Nat → Int32 → Int32 → Int32 → Int32 → Int32 → Int32 → Int32 → Int32 → Int32 → St → Rs
  | 0, _, _, _, _, _, _, _, _, _, _ => none
  | n + 1, x1, x2, x4, x5, x7, x8, x9, x11, x12, σ => if (gF σ 1) ≤ x12 then (ck (isB x9) (some (x9, σ))) else (ck (inb x12 60) (bd (gA σ 1 x12.toNatClampNeg) (fun y4 => if y4 = x11 then (bo (F_X9_those x1 x2 x5 x12 σ) (fun r6 s7 => if x9 = 0 then (F_X9_laid_254 rc (F_X9_laid_204 rc n) x1 x2 x4 x5 x7 x8 x11 x12 r6 s7) else (if r6 ≤ 0 then (F_X9_laid_254 rc (F_X9_laid_204 rc n) x1 x2 x4 x5 x7 x8 x11 x12 r6 s7) else (F_X9_laid_255 rc (F_X9_laid_204 rc n) x1 x2 x4 x5 x7 x8 x11 x12 r6 1 s7)))) else (F_X9_laid_345 rc (F_X9_laid_204 rc n) x1 x2 x4 x5 x7 x8 x9 x11 x12 σ))))
def F_X9_laid_420 (rc : Int32 → Int32 → Int32 → Int32 → St → Rs) (k357 : Int32 → Int32 → Int32 → Int32 → Int32 → Int32 → Int32 → Int32 → St → Rs) (x1 : Int32) (x2 : Int32) (x4 : Int32) (x5 : Int32) (x7 : Int32) (x8 : Int32) (x10 : Int32) (x11 : Int32) (z0 : Int32) (σ : St) : Rs :=
  bd (sF σ 8 x8) (fun s1 => bd (x10 + x11) (fun y2 => k357 x1 x2 x4 x5 x7 x8 z0 y2 s1))
def F_X9_laid_415 (rc : Int32 → Int32 → Int32 → Int32 → St → Rs) (k357 : Int32 → Int32 → Int32 → Int32 → Int32 → Int32 → Int32 → Int32 → St → Rs) (x1 : Int32) (x2 : Int32) (x4 : Int32) (x5 : Int32) (x7 : Int32) (x8 : Int32) (x10 : Int32) (x11 : Int32) (σ : St) : Rs :=
  F_X9_laid_420 rc k357 x1 x2 x4 x5 x7 x8 x10 x11 1 σ
def F_X9_laid_357 (rc : Int32 → Int32 → Int32 → Int32 → St → Rs) : Nat → Int32 → Int32 → Int32 → Int32 → Int32 → Int32 → Int32 → Int32 → St → Rs
  | 0, _, _, _, _, _, _, _, _, _ => none
  | n + 1, x1, x2, x4, x5, x7, x8, x9, x10, σ => if x2 ≤ x10 then (ck (isB x9) (some (x9, σ))) else (bo (F_X9_run (x1 + x10) (x2 - x10) (x5 - 170) σ) (fun r3 s4 => ck (inb x7 4000) (bd (gA s4 23 x7.toNatClampNeg) (fun y7 => ck (inb x7 4000) (bd (sA s4 23 (upd (gA s4 23) x7.toNatClampNeg (y7 + 1))) (fun s9 => bo (rc x8 r3 (-1) (x4 + 1) s9) (fun r10 s11 => if r10 = 0 then (if x9 = 0 then (F_X9_laid_420 rc (F_X9_laid_357 rc n) x1 x2 x4 x5 x7 x8 x10 r3 0 s11) else (F_X9_laid_415 rc (F_X9_laid_357 rc n) x1 x2 x4 x5 x7 x8 x10 r3 s11)) else (F_X9_laid_415 rc (F_X9_laid_357 rc n) x1 x2 x4 x5 x7 x8 x10 r3 s11))))))))
def F_X9_laid_73 (rc : Int32 → Int32 → Int32 → Int32 → St → Rs) (x1 : Int32) (x2 : Int32) (x3 : Int32) (x4 : Int32) (x5 : Int32) (x6 : Int32) (z0 : Int32) (σ : St) : Rs :=
  bo (F_X9_node z0 0 x3 x4 σ) (fun r1 s2 => bd (gF s2 8) (fun y4 => if x5 = (-1) then (F_X9_laid_101 rc 5000 x1 x2 x4 r1 x1 s2) else (if x6 = 0 then (F_X9_laid_357 rc 5000 x1 x2 x4 x5 r1 y4 x6 0 s2) else (ck (inb x1 4800) (bd (gA s2 17 x1.toNatClampNeg) (fun y8 => ck (inb r1 4000) (bd (sA s2 21 (upd (gA s2 21) r1.toNatClampNeg y8)) (fun s10 => ck (inb ((170 * y8) + x5) 4080) (bd (gA s10 16 ((170 * y8) + x5).toNatClampNeg) (fun y12 => ck (inb r1 4000) (bd (sA s10 22 (upd (gA s10 22) r1.toNatClampNeg y12)) (fun s14 => bo (F_X9_there y8 x5 s14) (fun r15 s16 => ck (inb r15 60) (bd (gA s16 1 r15.toNatClampNeg) (fun y19 => F_X9_laid_204 rc 5000 x1 x2 x4 x5 r1 y4 x6 y19 0 s16)))))))))))))))
def F_X9_laid_60 (rc : Int32 → Int32 → Int32 → Int32 → St → Rs) (x1 : Int32) (x2 : Int32) (x3 : Int32) (x4 : Int32) (x5 : Int32) (z0 : Int32) (σ : St) : Rs :=
  if z0 = 0 then (F_X9_laid_73 rc x1 x2 x3 x4 x5 z0 2 σ) else (F_X9_laid_73 rc x1 x2 x3 x4 x5 z0 1 σ)
def F_X9_laid_59 (rc : Int32 → Int32 → Int32 → Int32 → St → Rs) (x1 : Int32) (x2 : Int32) (x3 : Int32) (x4 : Int32) (x5 : Int32) (σ : St) : Rs :=
  F_X9_laid_60 rc x1 x2 x3 x4 x5 0 σ
def F_X9_laid_42 (rc : Int32 → Int32 → Int32 → Int32 → St → Rs) (x1 : Int32) (x2 : Int32) (x3 : Int32) (x4 : Int32) (x5 : Int32) (σ : St) : Rs :=
  if x5 < 0 then (F_X9_laid_59 rc x1 x2 x3 x4 x5 σ) else (if 170 ≤ x5 then (F_X9_laid_59 rc x1 x2 x3 x4 x5 σ) else (F_X9_laid_60 rc x1 x2 x3 x4 x5 1 σ))
def F_X9_laidb (rc : Int32 → Int32 → Int32 → Int32 → St → Rs) (x1 : Int32) (x2 : Int32) (x3 : Int32) (x4 : Int32) (σ : St) : Rs :=
  bo (F_X9_needed x1 x2 σ) (fun r1 s2 => if r1 = (-1) then (if x2 = 1 then (ck (inb x1 4800) (bd (gA s2 17 x1.toNatClampNeg) (fun y7 => bo (F_X9_node 0 y7 x3 x4 s2) (fun r8 s9 => if r8 < 0 then (ck (isB 0) (some (0, s9))) else (ck (isB 1) (some (1, s9))))))) else (F_X9_laid_42 rc x1 x2 x3 x4 r1 s2)) else (F_X9_laid_42 rc x1 x2 x3 x4 r1 s2))
def F_X9_laid : Nat → Int32 → Int32 → Int32 → Int32 → St → Rs
  | 0, _, _, _, _, _ => none
  | d + 1, x1, x2, x3, x4, σ => F_X9_laidb (F_X9_laid d) x1 x2 x3 x4 σ
section S_X9_laid
variable {p : Program} {l : Launch} {e : Env} {s : State} {m : MethodId} {args : Array Value} {below : List Frame} {meth : Method} {c : Code}
variable {D : va_G} {cA : ClassId} {A : Nat → Prop} {ad : Nat → Nat} {r : Int32} {σ' : St} {ta : Nat} {dd : Nat}
set_option maxHeartbeats 4000000 in
set_option maxRecDepth 100000 in
theorem t_X9_laid_133 {rc : Int32 → Int32 → Int32 → Int32 → St → Rs} (X : Fx p s m meth c D cA A RX9 cX9_laid 14 (some .boolean)) (HR : ∀ (σ : St) (x1 x2 x3 x4 : Int32) (r : Int32) (σ' : St), rc x1 x2 x3 x4 σ = some (r, σ') → MI l D cA A (wM cA ad) yX9_laid cX9_laid 14 (some .boolean) (rm_X9_laid dd) [.ref (ad 0), .int x1, .int x2, .int x3, .int x4] ta σ r σ' 0 0) {x2 x7 : Int32} { σ : St} {H : Heap} {locs : List Loc} {ls : Array Slot} (hf : F_X9_laid_133 rc x2 x7 σ = some (r, σ')) (hP : va_P D vwCl (wM cA ad ta σ) H) (hD : va_D A (wM cA ad ta σ)) (hS : va_S A s.heap H locs) (hl : lv_has ls 14 [(0, .ref (ad 0)), (2, .int x2), (7, .int x7)]) : W p l e (rm_X9_laid (dd + 1)) s m args below meth c H locs 0 0 (MQ below (QI D cA A (wM cA ad) r σ' ta) args s 0 0 A) (F0 m 133 ls []) := by
  obtain ⟨hx, hb, hr, hml, hown, hlk, hE, hK, hA⟩ := id X
  rw [F_X9_laid_133] at hf
  refine lv_aload_n hx hb dX9_laid_133 rfl (lv_at hl 0 rfl) ?_
  refine gM_Mod_many0 X hP kw716 dX9_laid_134 ?_
  refine lv_iload hx hb dX9_laid_137 (lv_at hl 2 rfl) ?_
  refine lv_iload_n hx hb dX9_laid_139 rfl (lv_at hl 1 rfl) ?_
  obtain ⟨b1, hf⟩ := ck_e hf
  refine sM_many0 X hP hD hS b1 dX9_laid_140 (fun H locs hP hD hS => ?_)
  obtain ⟨s2, es2, hf⟩ := bd_e hf
  rw [← es2] at hP hD
  refine lv_iconst (v := 1) hx hb dX9_laid_141 (by decide) ?_
  obtain ⟨b3, hf⟩ := ck_e hf
  obtain ⟨rfl, rfl⟩ := Prod.mk.inj (Option.some.inj hf)
  exact ret_z X b3 hP hD hS dX9_laid_142
set_option maxHeartbeats 4000000 in
set_option maxRecDepth 100000 in
theorem t_X9_laid_101 {rc : Int32 → Int32 → Int32 → Int32 → St → Rs} (X : Fx p s m meth c D cA A RX9 cX9_laid 14 (some .boolean)) (HR : ∀ (σ : St) (x1 x2 x3 x4 : Int32) (r : Int32) (σ' : St), rc x1 x2 x3 x4 σ = some (r, σ') → MI l D cA A (wM cA ad) yX9_laid cX9_laid 14 (some .boolean) (rm_X9_laid dd) [.ref (ad 0), .int x1, .int x2, .int x3, .int x4] ta σ r σ' 0 0) : ∀ (n : Nat) (x1 x2 x4 x7 x10 : Int32) (σ : St) (H : Heap) (locs : List Loc) (ls : Array Slot), F_X9_laid_101 rc n x1 x2 x4 x7 x10 σ = some (r, σ') → va_P D vwCl (wM cA ad ta σ) H → va_D A (wM cA ad ta σ) → va_S A s.heap H locs → lv_has ls 14 [(0, .ref (ad 0)), (1, .int x1), (2, .int x2), (4, .int x4), (7, .int x7), (10, .int x10)] → W p l e (rm_X9_laid (dd + 1)) s m args below meth c H locs 0 0 (MQ below (QI D cA A (wM cA ad) r σ' ta) args s 0 0 A) (F0 m 101 ls []) := by
  obtain ⟨hx, hb, hr, hml, hown, hlk, hE, hK, hA⟩ := id X
  intro n
  induction n with
  | zero =>
    intro x1 x2 x4 x7 x10 σ H locs ls hf
    cases (show (none : Rs) = some _ from hf)
  | succ n ih =>
    intro x1 x2 x4 x7 x10 σ H locs ls hf hP hD hS hl
    rw [F_X9_laid_101] at hf
    refine lv_iload hx hb dX9_laid_101 (lv_at hl 5 rfl) ?_
    refine lv_iload_n hx hb dX9_laid_103 rfl (lv_at hl 1 rfl) ?_
    refine lv_iload_n hx hb dX9_laid_104 rfl (lv_at hl 2 rfl) ?_
    refine lv_iadd hx hb dX9_laid_105 ?_
    refine lv_icmp_ge (tgt := 133) hx hb dX9_laid_106 (by decide) (fun c1 => ?_) (fun c1 => ?_)
    · have hf := it_t c1 hf
      exact t_X9_laid_133 X HR hf hP hD hS (lv_sub hl [0, 2, 4] rfl)
    · have hf := it_f c1 hf
      refine lv_aload_n hx hb dX9_laid_109 rfl (lv_at hl 0 rfl) ?_
      refine lv_iconst (v := 0) hx hb dX9_laid_110 (by decide) ?_
      refine lv_aload_n hx hb dX9_laid_111 rfl (lv_at hl 0 rfl) ?_
      refine gM_Mod_set X hP kw703 dX9_laid_112 ?_
      refine lv_iload hx hb dX9_laid_115 (lv_at hl 5 rfl) ?_
      obtain ⟨b2, hf⟩ := ck_e hf
      refine lM_set X hP b2 dX9_laid_117 ?_
      refine lv_topi (fun y3 ey3 => ?_)
      have hf := bd_x ey3 hf
      refine lv_iconst (v := -1) hx hb dX9_laid_118 (by decide) ?_
      refine lv_iload hx hb dX9_laid_119 (lv_at hl 3 rfl) ?_
      refine lv_iconst (v := 1) hx hb dX9_laid_121 (by decide) ?_
      refine lv_iadd hx hb dX9_laid_122 ?_
      obtain ⟨r4, s5, h6, hf⟩ := bo_e hf
      refine callV_i X cv_X9_node kw895 (c_X9_node l D cA A ad ta σ 0 y3 (-1) (x4 + 1) r4 s5 h6) ⟨by dsimp only [rm_X9_laid, rm_X9_node]; omega, by dsimp only [rm_X9_laid, rm_X9_node]; omega⟩ ⟨rfl, rfl⟩ hP hD hS (q0 := 0) (ci := 9) rfl rfl rfl rfl hl rfl (Nat.le_of_ble_eq_true rfl) dX9_laid_123 ⟨Nat.le_of_ble_eq_true rfl, Nat.le_of_ble_eq_true rfl⟩ (fun H locs hP hD hS => ?_)
      refine lv_pop hx hb dX9_laid_126 rfl ?_
      refine lv_iinc (v := (x10 + 1)) (lv' := [(10, .int (x10 + 1)), (0, .ref (ad 0)), (1, .int x1), (2, .int x2), (4, .int x4), (7, .int x7)]) hx hb dX9_laid_127 hl (k := 5) rfl rfl (by decide) rfl (fun ls hl => ?_)
      refine lv_goto (tgt := 101) hx hb dX9_laid_130 (by decide) ?_
      exact ih x1 x2 x4 x7 (x10 + 1) s5 _ _ _ hf hP hD hS (lv_sub hl [1, 2, 3, 4, 5, 0] rfl)
set_option maxHeartbeats 4000000 in
set_option maxRecDepth 100000 in
theorem t_X9_laid_345 {rc : Int32 → Int32 → Int32 → Int32 → St → Rs} {k204 : Int32 → Int32 → Int32 → Int32 → Int32 → Int32 → Int32 → Int32 → Int32 → St → Rs} (X : Fx p s m meth c D cA A RX9 cX9_laid 14 (some .boolean)) (HR : ∀ (σ : St) (x1 x2 x3 x4 : Int32) (r : Int32) (σ' : St), rc x1 x2 x3 x4 σ = some (r, σ') → MI l D cA A (wM cA ad) yX9_laid cX9_laid 14 (some .boolean) (rm_X9_laid dd) [.ref (ad 0), .int x1, .int x2, .int x3, .int x4] ta σ r σ' 0 0) (K204 : ∀ (x1 x2 x4 x5 x7 x8 x9 x11 x12 : Int32) (σ : St) (H : Heap) (locs : List Loc) (ls : Array Slot), k204 x1 x2 x4 x5 x7 x8 x9 x11 x12 σ = some (r, σ') → va_P D vwCl (wM cA ad ta σ) H → va_D A (wM cA ad ta σ) → va_S A s.heap H locs → lv_has ls 14 [(0, .ref (ad 0)), (1, .int x1), (2, .int x2), (4, .int x4), (5, .int x5), (7, .int x7), (8, .int x8), (9, .int x9), (11, .int x11), (12, .int x12)] → W p l e (rm_X9_laid (dd + 1)) s m args below meth c H locs 0 0 (MQ below (QI D cA A (wM cA ad) r σ' ta) args s 0 0 A) (F0 m 204 ls [])) {x1 x2 x4 x5 x7 x8 x9 x11 x12 : Int32} { σ : St} {H : Heap} {locs : List Loc} {ls : Array Slot} (hf : F_X9_laid_345 rc k204 x1 x2 x4 x5 x7 x8 x9 x11 x12 σ = some (r, σ')) (hP : va_P D vwCl (wM cA ad ta σ) H) (hD : va_D A (wM cA ad ta σ)) (hS : va_S A s.heap H locs) (hl : lv_has ls 14 [(0, .ref (ad 0)), (1, .int x1), (2, .int x2), (4, .int x4), (5, .int x5), (7, .int x7), (8, .int x8), (9, .int x9), (11, .int x11), (12, .int x12)]) : W p l e (rm_X9_laid (dd + 1)) s m args below meth c H locs 0 0 (MQ below (QI D cA A (wM cA ad) r σ' ta) args s 0 0 A) (F0 m 345 ls []) := by
  obtain ⟨hx, hb, hr, hml, hown, hlk, hE, hK, hA⟩ := id X
  rw [F_X9_laid_345] at hf
  refine lv_iinc (v := (x12 + 1)) (lv' := [(12, .int (x12 + 1)), (0, .ref (ad 0)), (1, .int x1), (2, .int x2), (4, .int x4), (5, .int x5), (7, .int x7), (8, .int x8), (9, .int x9), (11, .int x11)]) hx hb dX9_laid_345 hl (k := 9) rfl rfl (by decide) rfl (fun ls hl => ?_)
  refine lv_goto (tgt := 204) hx hb dX9_laid_348 (by decide) ?_
  exact K204 x1 x2 x4 x5 x7 x8 x9 x11 (x12 + 1) σ _ _ _ hf hP hD hS (lv_sub hl [1, 2, 3, 4, 5, 6, 7, 8, 9, 0] rfl)
set_option maxHeartbeats 4000000 in
set_option maxRecDepth 100000 in
theorem t_X9_laid_320 {rc : Int32 → Int32 → Int32 → Int32 → St → Rs} {k204 : Int32 → Int32 → Int32 → Int32 → Int32 → Int32 → Int32 → Int32 → Int32 → St → Rs} (X : Fx p s m meth c D cA A RX9 cX9_laid 14 (some .boolean)) (HR : ∀ (σ : St) (x1 x2 x3 x4 : Int32) (r : Int32) (σ' : St), rc x1 x2 x3 x4 σ = some (r, σ') → MI l D cA A (wM cA ad) yX9_laid cX9_laid 14 (some .boolean) (rm_X9_laid dd) [.ref (ad 0), .int x1, .int x2, .int x3, .int x4] ta σ r σ' 0 0) (K204 : ∀ (x1 x2 x4 x5 x7 x8 x9 x11 x12 : Int32) (σ : St) (H : Heap) (locs : List Loc) (ls : Array Slot), k204 x1 x2 x4 x5 x7 x8 x9 x11 x12 σ = some (r, σ') → va_P D vwCl (wM cA ad ta σ) H → va_D A (wM cA ad ta σ) → va_S A s.heap H locs → lv_has ls 14 [(0, .ref (ad 0)), (1, .int x1), (2, .int x2), (4, .int x4), (5, .int x5), (7, .int x7), (8, .int x8), (9, .int x9), (11, .int x11), (12, .int x12)] → W p l e (rm_X9_laid (dd + 1)) s m args below meth c H locs 0 0 (MQ below (QI D cA A (wM cA ad) r σ' ta) args s 0 0 A) (F0 m 204 ls [])) {x1 x2 x4 x5 x7 x8 x11 x12 x13 z0 : Int32} { σ : St} {H : Heap} {locs : List Loc} {ls : Array Slot} (hf : F_X9_laid_320 rc k204 x1 x2 x4 x5 x7 x8 x11 x12 x13 z0 σ = some (r, σ')) (hP : va_P D vwCl (wM cA ad ta σ) H) (hD : va_D A (wM cA ad ta σ)) (hS : va_S A s.heap H locs) (hl : lv_has ls 14 [(0, .ref (ad 0)), (1, .int x1), (2, .int x2), (4, .int x4), (5, .int x5), (7, .int x7), (8, .int x8), (11, .int x11), (12, .int x12), (13, .int x13)]) : W p l e (rm_X9_laid (dd + 1)) s m args below meth c H locs 0 0 (MQ below (QI D cA A (wM cA ad) r σ' ta) args s 0 0 A) (F0 m 320 ls [.int z0]) := by
  obtain ⟨hx, hb, hr, hml, hown, hlk, hE, hK, hA⟩ := id X
  rw [F_X9_laid_320] at hf
  refine lv_istore (lv' := [(9, .int z0), (0, .ref (ad 0)), (1, .int x1), (2, .int x2), (4, .int x4), (5, .int x5), (7, .int x7), (8, .int x8), (11, .int x11), (12, .int x12), (13, .int x13)]) hx hb dX9_laid_320 hl (by decide) rfl (fun ls hl => ?_)
  refine lv_aload_n hx hb dX9_laid_322 rfl (lv_at hl 1 rfl) ?_
  refine lv_iload hx hb dX9_laid_323 (lv_at hl 7 rfl) ?_
  refine lv_iload hx hb dX9_laid_325 (lv_at hl 10 rfl) ?_
  refine lv_iload hx hb dX9_laid_327 (lv_at hl 5 rfl) ?_
  refine lv_aload_n hx hb dX9_laid_329 rfl (lv_at hl 1 rfl) ?_
  refine gM_Mod_arity X hP kw682 dX9_laid_330 ?_
  refine lv_iload hx hb dX9_laid_333 (lv_at hl 9 rfl) ?_
  obtain ⟨b1, hf⟩ := ck_e hf
  refine lM_arity X hP b1 dX9_laid_335 ?_
  refine lv_topi (fun y2 ey2 => ?_)
  have hf := bd_x ey2 hf
  obtain ⟨r3, s4, h5, hf⟩ := bo_e hf
  refine callV_v X cv_X9_putBack kw908 (c_X9_putBack l D cA A ad ta σ x8 x13 x5 y2 r3 s4 h5) ⟨by dsimp only [rm_X9_laid, rm_X9_putBack]; omega, by dsimp only [rm_X9_laid, rm_X9_putBack]; omega⟩ ⟨rfl, rfl⟩ hP hD hS (q0 := 0) (ci := 9) rfl rfl rfl rfl hl rfl (Nat.le_of_ble_eq_true rfl) dX9_laid_336 ⟨Nat.le_of_ble_eq_true rfl, Nat.le_of_ble_eq_true rfl⟩ (fun H locs hP hD hS => ?_)
  refine lv_aload_n hx hb dX9_laid_339 rfl (lv_at hl 1 rfl) ?_
  refine lv_iload hx hb dX9_laid_340 (lv_at hl 7 rfl) ?_
  refine pM_Mod_setEnd X hP hD hS kw705 dX9_laid_342 (fun H locs hP hD hS => ?_)
  obtain ⟨s6, es6, hf⟩ := bd_e hf
  rw [← es6] at hP hD
  exact t_X9_laid_345 X HR K204 hf hP hD hS (lv_sub hl [1, 2, 3, 4, 5, 6, 7, 0, 8, 9] rfl)
set_option maxHeartbeats 4000000 in
set_option maxRecDepth 100000 in
theorem t_X9_laid_319 {rc : Int32 → Int32 → Int32 → Int32 → St → Rs} {k204 : Int32 → Int32 → Int32 → Int32 → Int32 → Int32 → Int32 → Int32 → Int32 → St → Rs} (X : Fx p s m meth c D cA A RX9 cX9_laid 14 (some .boolean)) (HR : ∀ (σ : St) (x1 x2 x3 x4 : Int32) (r : Int32) (σ' : St), rc x1 x2 x3 x4 σ = some (r, σ') → MI l D cA A (wM cA ad) yX9_laid cX9_laid 14 (some .boolean) (rm_X9_laid dd) [.ref (ad 0), .int x1, .int x2, .int x3, .int x4] ta σ r σ' 0 0) (K204 : ∀ (x1 x2 x4 x5 x7 x8 x9 x11 x12 : Int32) (σ : St) (H : Heap) (locs : List Loc) (ls : Array Slot), k204 x1 x2 x4 x5 x7 x8 x9 x11 x12 σ = some (r, σ') → va_P D vwCl (wM cA ad ta σ) H → va_D A (wM cA ad ta σ) → va_S A s.heap H locs → lv_has ls 14 [(0, .ref (ad 0)), (1, .int x1), (2, .int x2), (4, .int x4), (5, .int x5), (7, .int x7), (8, .int x8), (9, .int x9), (11, .int x11), (12, .int x12)] → W p l e (rm_X9_laid (dd + 1)) s m args below meth c H locs 0 0 (MQ below (QI D cA A (wM cA ad) r σ' ta) args s 0 0 A) (F0 m 204 ls [])) {x1 x2 x4 x5 x7 x8 x11 x12 x13 : Int32} { σ : St} {H : Heap} {locs : List Loc} {ls : Array Slot} (hf : F_X9_laid_319 rc k204 x1 x2 x4 x5 x7 x8 x11 x12 x13 σ = some (r, σ')) (hP : va_P D vwCl (wM cA ad ta σ) H) (hD : va_D A (wM cA ad ta σ)) (hS : va_S A s.heap H locs) (hl : lv_has ls 14 [(0, .ref (ad 0)), (1, .int x1), (2, .int x2), (4, .int x4), (5, .int x5), (7, .int x7), (8, .int x8), (11, .int x11), (12, .int x12), (13, .int x13)]) : W p l e (rm_X9_laid (dd + 1)) s m args below meth c H locs 0 0 (MQ below (QI D cA A (wM cA ad) r σ' ta) args s 0 0 A) (F0 m 319 ls []) := by
  obtain ⟨hx, hb, hr, hml, hown, hlk, hE, hK, hA⟩ := id X
  rw [F_X9_laid_319] at hf
  refine lv_iconst (v := 0) hx hb dX9_laid_319 (by decide) ?_
  exact t_X9_laid_320 X HR K204 hf hP hD hS (lv_sub hl [0, 1, 2, 3, 4, 5, 6, 7, 8, 9] rfl)
set_option maxHeartbeats 4000000 in
set_option maxRecDepth 100000 in
theorem t_X9_laid_255 {rc : Int32 → Int32 → Int32 → Int32 → St → Rs} {k204 : Int32 → Int32 → Int32 → Int32 → Int32 → Int32 → Int32 → Int32 → Int32 → St → Rs} (X : Fx p s m meth c D cA A RX9 cX9_laid 14 (some .boolean)) (HR : ∀ (σ : St) (x1 x2 x3 x4 : Int32) (r : Int32) (σ' : St), rc x1 x2 x3 x4 σ = some (r, σ') → MI l D cA A (wM cA ad) yX9_laid cX9_laid 14 (some .boolean) (rm_X9_laid dd) [.ref (ad 0), .int x1, .int x2, .int x3, .int x4] ta σ r σ' 0 0) (K204 : ∀ (x1 x2 x4 x5 x7 x8 x9 x11 x12 : Int32) (σ : St) (H : Heap) (locs : List Loc) (ls : Array Slot), k204 x1 x2 x4 x5 x7 x8 x9 x11 x12 σ = some (r, σ') → va_P D vwCl (wM cA ad ta σ) H → va_D A (wM cA ad ta σ) → va_S A s.heap H locs → lv_has ls 14 [(0, .ref (ad 0)), (1, .int x1), (2, .int x2), (4, .int x4), (5, .int x5), (7, .int x7), (8, .int x8), (9, .int x9), (11, .int x11), (12, .int x12)] → W p l e (rm_X9_laid (dd + 1)) s m args below meth c H locs 0 0 (MQ below (QI D cA A (wM cA ad) r σ' ta) args s 0 0 A) (F0 m 204 ls [])) {x1 x2 x4 x5 x7 x8 x11 x12 x13 z0 : Int32} { σ : St} {H : Heap} {locs : List Loc} {ls : Array Slot} (hf : F_X9_laid_255 rc k204 x1 x2 x4 x5 x7 x8 x11 x12 x13 z0 σ = some (r, σ')) (hP : va_P D vwCl (wM cA ad ta σ) H) (hD : va_D A (wM cA ad ta σ)) (hS : va_S A s.heap H locs) (hl : lv_has ls 14 [(0, .ref (ad 0)), (1, .int x1), (2, .int x2), (4, .int x4), (5, .int x5), (7, .int x7), (8, .int x8), (11, .int x11), (12, .int x12), (13, .int x13)]) : W p l e (rm_X9_laid (dd + 1)) s m args below meth c H locs 0 0 (MQ below (QI D cA A (wM cA ad) r σ' ta) args s 0 0 A) (F0 m 255 ls [.int z0]) := by
  obtain ⟨hx, hb, hr, hml, hown, hlk, hE, hK, hA⟩ := id X
  rw [F_X9_laid_255] at hf
  refine lv_istore (lv' := [(9, .int z0), (0, .ref (ad 0)), (1, .int x1), (2, .int x2), (4, .int x4), (5, .int x5), (7, .int x7), (8, .int x8), (11, .int x11), (12, .int x12), (13, .int x13)]) hx hb dX9_laid_255 hl (by decide) rfl (fun ls hl => ?_)
  refine lv_iload hx hb dX9_laid_257 (lv_at hl 10 rfl) ?_
  refine lv_if_ne (tgt := 265) hx hb dX9_laid_259 (by decide) (fun c1 => ?_) (fun c1 => ?_)
  · have hf := it_f c1 hf
    refine lv_aload_n hx hb dX9_laid_265 rfl (lv_at hl 1 rfl) ?_
    refine gM_Mod_many0 X hP kw716 dX9_laid_266 ?_
    refine lv_iload hx hb dX9_laid_269 (lv_at hl 6 rfl) ?_
    refine lv_dup2_11 hx hb dX9_laid_271 rfl rfl ?_
    obtain ⟨b2, hf⟩ := ck_e hf
    refine lM_many0 X hP b2 dX9_laid_272 ?_
    refine lv_topi (fun y3 ey3 => ?_)
    have hf := bd_x ey3 hf
    refine lv_iconst (v := 1) hx hb dX9_laid_273 (by decide) ?_
    refine lv_iadd hx hb dX9_laid_274 ?_
    obtain ⟨b4, hf⟩ := ck_e hf
    refine sM_many0 X hP hD hS b4 dX9_laid_275 (fun H locs hP hD hS => ?_)
    obtain ⟨s5, es5, hf⟩ := bd_e hf
    rw [← es5] at hP hD
    refine lv_aload_n hx hb dX9_laid_276 rfl (lv_at hl 1 rfl) ?_
    refine lv_iload hx hb dX9_laid_277 (lv_at hl 7 rfl) ?_
    refine lv_iload hx hb dX9_laid_279 (lv_at hl 10 rfl) ?_
    refine lv_iload hx hb dX9_laid_281 (lv_at hl 5 rfl) ?_
    refine lv_aload_n hx hb dX9_laid_283 rfl (lv_at hl 1 rfl) ?_
    refine gM_Mod_arity X hP kw682 dX9_laid_284 ?_
    refine lv_iload hx hb dX9_laid_287 (lv_at hl 9 rfl) ?_
    obtain ⟨b6, hf⟩ := ck_e hf
    refine lM_arity X hP b6 dX9_laid_289 ?_
    refine lv_topi (fun y7 ey7 => ?_)
    have hf := bd_x ey7 hf
    obtain ⟨r8, s9, h10, hf⟩ := bo_e hf
    refine callV_v X cv_X9_take kw904 (c_X9_take l D cA A ad ta s5 x8 x13 x5 y7 r8 s9 h10) ⟨by dsimp only [rm_X9_laid, rm_X9_take]; omega, by dsimp only [rm_X9_laid, rm_X9_take]; omega⟩ ⟨rfl, rfl⟩ hP hD hS (q0 := 0) (ci := 9) rfl rfl rfl rfl hl rfl (Nat.le_of_ble_eq_true rfl) dX9_laid_290 ⟨Nat.le_of_ble_eq_true rfl, Nat.le_of_ble_eq_true rfl⟩ (fun H locs hP hD hS => ?_)
    refine lv_aload_n hx hb dX9_laid_293 rfl (lv_at hl 1 rfl) ?_
    refine lv_iload hx hb dX9_laid_294 (lv_at hl 7 rfl) ?_
    refine lv_iload hx hb dX9_laid_296 (lv_at hl 10 rfl) ?_
    refine lv_iload hx hb dX9_laid_298 (lv_at hl 9 rfl) ?_
    refine lv_iload hx hb dX9_laid_300 (lv_at hl 4 rfl) ?_
    refine lv_iconst (v := 1) hx hb dX9_laid_302 (by decide) ?_
    refine lv_iadd hx hb dX9_laid_303 ?_
    obtain ⟨r11, s12, h13, hf⟩ := bo_e hf
    refine callS_i X cs_X9_laid kw884 (HR s9 x8 x13 x12 (x4 + 1) r11 s12 h13) ⟨by dsimp only [rm_X9_laid, rm_X9_laid]; omega, by dsimp only [rm_X9_laid, rm_X9_laid]; omega⟩ ⟨rfl, rfl⟩ hP hD hS rfl hl rfl (Nat.le_of_ble_eq_true rfl) dX9_laid_304 ⟨Nat.le_of_ble_eq_true rfl, Nat.le_of_ble_eq_true rfl⟩ (fun H locs hP hD hS => ?_)
    refine lv_if_eq (tgt := 319) hx hb dX9_laid_307 (by decide) (fun c14 => ?_) (fun c14 => ?_)
    · have hf := it_t c14 hf
      exact t_X9_laid_319 X HR K204 hf hP hD hS (lv_sub hl [1, 2, 3, 4, 5, 6, 7, 8, 9, 10] rfl)
    · have hf := it_f c14 hf
      refine lv_iload hx hb dX9_laid_310 (lv_at hl 0 rfl) ?_
      refine lv_if_eq (tgt := 319) hx hb dX9_laid_312 (by decide) (fun c15 => ?_) (fun c15 => ?_)
      · have hf := it_t c15 hf
        exact t_X9_laid_319 X HR K204 hf hP hD hS (lv_sub hl [1, 2, 3, 4, 5, 6, 7, 8, 9, 10] rfl)
      · have hf := it_f c15 hf
        refine lv_iconst (v := 1) hx hb dX9_laid_315 (by decide) ?_
        refine lv_goto (tgt := 320) hx hb dX9_laid_316 (by decide) ?_
        exact t_X9_laid_320 X HR K204 hf hP hD hS (lv_sub hl [1, 2, 3, 4, 5, 6, 7, 8, 9, 10] rfl)
  · have hf := it_t c1 hf
    refine lv_goto (tgt := 345) hx hb dX9_laid_262 (by decide) ?_
    exact t_X9_laid_345 X HR K204 hf hP hD hS (lv_sub hl [1, 2, 3, 4, 5, 6, 7, 0, 8, 9] rfl)
set_option maxHeartbeats 4000000 in
set_option maxRecDepth 100000 in
theorem t_X9_laid_254 {rc : Int32 → Int32 → Int32 → Int32 → St → Rs} {k204 : Int32 → Int32 → Int32 → Int32 → Int32 → Int32 → Int32 → Int32 → Int32 → St → Rs} (X : Fx p s m meth c D cA A RX9 cX9_laid 14 (some .boolean)) (HR : ∀ (σ : St) (x1 x2 x3 x4 : Int32) (r : Int32) (σ' : St), rc x1 x2 x3 x4 σ = some (r, σ') → MI l D cA A (wM cA ad) yX9_laid cX9_laid 14 (some .boolean) (rm_X9_laid dd) [.ref (ad 0), .int x1, .int x2, .int x3, .int x4] ta σ r σ' 0 0) (K204 : ∀ (x1 x2 x4 x5 x7 x8 x9 x11 x12 : Int32) (σ : St) (H : Heap) (locs : List Loc) (ls : Array Slot), k204 x1 x2 x4 x5 x7 x8 x9 x11 x12 σ = some (r, σ') → va_P D vwCl (wM cA ad ta σ) H → va_D A (wM cA ad ta σ) → va_S A s.heap H locs → lv_has ls 14 [(0, .ref (ad 0)), (1, .int x1), (2, .int x2), (4, .int x4), (5, .int x5), (7, .int x7), (8, .int x8), (9, .int x9), (11, .int x11), (12, .int x12)] → W p l e (rm_X9_laid (dd + 1)) s m args below meth c H locs 0 0 (MQ below (QI D cA A (wM cA ad) r σ' ta) args s 0 0 A) (F0 m 204 ls [])) {x1 x2 x4 x5 x7 x8 x11 x12 x13 : Int32} { σ : St} {H : Heap} {locs : List Loc} {ls : Array Slot} (hf : F_X9_laid_254 rc k204 x1 x2 x4 x5 x7 x8 x11 x12 x13 σ = some (r, σ')) (hP : va_P D vwCl (wM cA ad ta σ) H) (hD : va_D A (wM cA ad ta σ)) (hS : va_S A s.heap H locs) (hl : lv_has ls 14 [(0, .ref (ad 0)), (1, .int x1), (2, .int x2), (4, .int x4), (5, .int x5), (7, .int x7), (8, .int x8), (11, .int x11), (12, .int x12), (13, .int x13)]) : W p l e (rm_X9_laid (dd + 1)) s m args below meth c H locs 0 0 (MQ below (QI D cA A (wM cA ad) r σ' ta) args s 0 0 A) (F0 m 254 ls []) := by
  obtain ⟨hx, hb, hr, hml, hown, hlk, hE, hK, hA⟩ := id X
  rw [F_X9_laid_254] at hf
  refine lv_iconst (v := 0) hx hb dX9_laid_254 (by decide) ?_
  exact t_X9_laid_255 X HR K204 hf hP hD hS (lv_sub hl [0, 1, 2, 3, 4, 5, 6, 7, 8, 9] rfl)
set_option maxHeartbeats 4000000 in
set_option maxRecDepth 100000 in
theorem t_X9_laid_204 {rc : Int32 → Int32 → Int32 → Int32 → St → Rs} (X : Fx p s m meth c D cA A RX9 cX9_laid 14 (some .boolean)) (HR : ∀ (σ : St) (x1 x2 x3 x4 : Int32) (r : Int32) (σ' : St), rc x1 x2 x3 x4 σ = some (r, σ') → MI l D cA A (wM cA ad) yX9_laid cX9_laid 14 (some .boolean) (rm_X9_laid dd) [.ref (ad 0), .int x1, .int x2, .int x3, .int x4] ta σ r σ' 0 0) : ∀ (n : Nat) (x1 x2 x4 x5 x7 x8 x9 x11 x12 : Int32) (σ : St) (H : Heap) (locs : List Loc) (ls : Array Slot), F_X9_laid_204 rc n x1 x2 x4 x5 x7 x8 x9 x11 x12 σ = some (r, σ') → va_P D vwCl (wM cA ad ta σ) H → va_D A (wM cA ad ta σ) → va_S A s.heap H locs → lv_has ls 14 [(0, .ref (ad 0)), (1, .int x1), (2, .int x2), (4, .int x4), (5, .int x5), (7, .int x7), (8, .int x8), (9, .int x9), (11, .int x11), (12, .int x12)] → W p l e (rm_X9_laid (dd + 1)) s m args below meth c H locs 0 0 (MQ below (QI D cA A (wM cA ad) r σ' ta) args s 0 0 A) (F0 m 204 ls []) := by
  obtain ⟨hx, hb, hr, hml, hown, hlk, hE, hK, hA⟩ := id X
  intro n
  induction n with
  | zero =>
    intro x1 x2 x4 x5 x7 x8 x9 x11 x12 σ H locs ls hf
    cases (show (none : Rs) = some _ from hf)
  | succ n ih =>
    intro x1 x2 x4 x5 x7 x8 x9 x11 x12 σ H locs ls hf hP hD hS hl
    rw [F_X9_laid_204] at hf
    refine lv_iload hx hb dX9_laid_204 (lv_at hl 9 rfl) ?_
    refine lv_aload_n hx hb dX9_laid_206 rfl (lv_at hl 0 rfl) ?_
    refine gM_Mod_cons X hP kw680 dX9_laid_207 ?_
    refine lv_icmp_ge (tgt := 351) hx hb dX9_laid_210 (by decide) (fun c1 => ?_) (fun c1 => ?_)
    · have hf := it_t c1 hf
      refine lv_iload hx hb dX9_laid_351 (lv_at hl 7 rfl) ?_
      obtain ⟨b2, hf⟩ := ck_e hf
      obtain ⟨rfl, rfl⟩ := Prod.mk.inj (Option.some.inj hf)
      exact ret_z X b2 hP hD hS dX9_laid_353
    · have hf := it_f c1 hf
      refine lv_aload_n hx hb dX9_laid_213 rfl (lv_at hl 0 rfl) ?_
      refine gM_Mod_conType X hP kw681 dX9_laid_214 ?_
      refine lv_iload hx hb dX9_laid_217 (lv_at hl 9 rfl) ?_
      obtain ⟨b3, hf⟩ := ck_e hf
      refine lM_conType X hP b3 dX9_laid_219 ?_
      refine lv_topi (fun y4 ey4 => ?_)
      have hf := bd_x ey4 hf
      refine lv_iload hx hb dX9_laid_220 (lv_at hl 8 rfl) ?_
      refine lv_icmp_eq (tgt := 228) hx hb dX9_laid_222 (by decide) (fun c5 => ?_) (fun c5 => ?_)
      · have hf := it_t c5 hf
        refine lv_aload_n hx hb dX9_laid_228 rfl (lv_at hl 0 rfl) ?_
        refine lv_iload_n hx hb dX9_laid_229 rfl (lv_at hl 1 rfl) ?_
        refine lv_iload_n hx hb dX9_laid_230 rfl (lv_at hl 2 rfl) ?_
        refine lv_iload hx hb dX9_laid_231 (lv_at hl 4 rfl) ?_
        refine lv_iload hx hb dX9_laid_233 (lv_at hl 9 rfl) ?_
        obtain ⟨r6, s7, h8, hf⟩ := bo_e hf
        refine callV_i X cv_X9_those kw900 (c_X9_those l D cA A ad ta σ x1 x2 x5 x12 r6 s7 h8) ⟨by dsimp only [rm_X9_laid, rm_X9_those]; omega, by dsimp only [rm_X9_laid, rm_X9_those]; omega⟩ ⟨rfl, rfl⟩ hP hD hS (q0 := 0) (ci := 9) rfl rfl rfl rfl hl rfl (Nat.le_of_ble_eq_true rfl) dX9_laid_235 ⟨Nat.le_of_ble_eq_true rfl, Nat.le_of_ble_eq_true rfl⟩ (fun H locs hP hD hS => ?_)
        refine lv_istore (lv' := [(13, .int r6), (0, .ref (ad 0)), (1, .int x1), (2, .int x2), (4, .int x4), (5, .int x5), (7, .int x7), (8, .int x8), (9, .int x9), (11, .int x11), (12, .int x12)]) hx hb dX9_laid_238 hl (by decide) rfl (fun ls hl => ?_)
        refine lv_iload hx hb dX9_laid_240 (lv_at hl 8 rfl) ?_
        refine lv_if_eq (tgt := 254) hx hb dX9_laid_242 (by decide) (fun c9 => ?_) (fun c9 => ?_)
        · have hf := it_t c9 hf
          exact t_X9_laid_254 X HR ih hf hP hD hS (lv_sub hl [1, 2, 3, 4, 5, 6, 7, 9, 10, 0] rfl)
        · have hf := it_f c9 hf
          refine lv_iload hx hb dX9_laid_245 (lv_at hl 0 rfl) ?_
          refine lv_if_le (tgt := 254) hx hb dX9_laid_247 (by decide) (fun c10 => ?_) (fun c10 => ?_)
          · have hf := it_t c10 hf
            exact t_X9_laid_254 X HR ih hf hP hD hS (lv_sub hl [1, 2, 3, 4, 5, 6, 7, 9, 10, 0] rfl)
          · have hf := it_f c10 hf
            refine lv_iconst (v := 1) hx hb dX9_laid_250 (by decide) ?_
            refine lv_goto (tgt := 255) hx hb dX9_laid_251 (by decide) ?_
            exact t_X9_laid_255 X HR ih hf hP hD hS (lv_sub hl [1, 2, 3, 4, 5, 6, 7, 9, 10, 0] rfl)
      · have hf := it_f c5 hf
        refine lv_goto (tgt := 345) hx hb dX9_laid_225 (by decide) ?_
        exact t_X9_laid_345 X HR ih hf hP hD hS (lv_sub hl [0, 1, 2, 3, 4, 5, 6, 7, 8, 9] rfl)
set_option maxHeartbeats 4000000 in
set_option maxRecDepth 100000 in
theorem t_X9_laid_420 {rc : Int32 → Int32 → Int32 → Int32 → St → Rs} {k357 : Int32 → Int32 → Int32 → Int32 → Int32 → Int32 → Int32 → Int32 → St → Rs} (X : Fx p s m meth c D cA A RX9 cX9_laid 14 (some .boolean)) (HR : ∀ (σ : St) (x1 x2 x3 x4 : Int32) (r : Int32) (σ' : St), rc x1 x2 x3 x4 σ = some (r, σ') → MI l D cA A (wM cA ad) yX9_laid cX9_laid 14 (some .boolean) (rm_X9_laid dd) [.ref (ad 0), .int x1, .int x2, .int x3, .int x4] ta σ r σ' 0 0) (K357 : ∀ (x1 x2 x4 x5 x7 x8 x9 x10 : Int32) (σ : St) (H : Heap) (locs : List Loc) (ls : Array Slot), k357 x1 x2 x4 x5 x7 x8 x9 x10 σ = some (r, σ') → va_P D vwCl (wM cA ad ta σ) H → va_D A (wM cA ad ta σ) → va_S A s.heap H locs → lv_has ls 14 [(0, .ref (ad 0)), (1, .int x1), (2, .int x2), (4, .int x4), (5, .int x5), (7, .int x7), (8, .int x8), (9, .int x9), (10, .int x10)] → W p l e (rm_X9_laid (dd + 1)) s m args below meth c H locs 0 0 (MQ below (QI D cA A (wM cA ad) r σ' ta) args s 0 0 A) (F0 m 357 ls [])) {x1 x2 x4 x5 x7 x8 x10 x11 z0 : Int32} { σ : St} {H : Heap} {locs : List Loc} {ls : Array Slot} (hf : F_X9_laid_420 rc k357 x1 x2 x4 x5 x7 x8 x10 x11 z0 σ = some (r, σ')) (hP : va_P D vwCl (wM cA ad ta σ) H) (hD : va_D A (wM cA ad ta σ)) (hS : va_S A s.heap H locs) (hl : lv_has ls 14 [(0, .ref (ad 0)), (1, .int x1), (2, .int x2), (4, .int x4), (5, .int x5), (7, .int x7), (8, .int x8), (10, .int x10), (11, .int x11)]) : W p l e (rm_X9_laid (dd + 1)) s m args below meth c H locs 0 0 (MQ below (QI D cA A (wM cA ad) r σ' ta) args s 0 0 A) (F0 m 420 ls [.int z0]) := by
  obtain ⟨hx, hb, hr, hml, hown, hlk, hE, hK, hA⟩ := id X
  rw [F_X9_laid_420] at hf
  refine lv_istore (lv' := [(9, .int z0), (0, .ref (ad 0)), (1, .int x1), (2, .int x2), (4, .int x4), (5, .int x5), (7, .int x7), (8, .int x8), (10, .int x10), (11, .int x11)]) hx hb dX9_laid_420 hl (by decide) rfl (fun ls hl => ?_)
  refine lv_aload_n hx hb dX9_laid_422 rfl (lv_at hl 1 rfl) ?_
  refine lv_iload hx hb dX9_laid_423 (lv_at hl 7 rfl) ?_
  refine pM_Mod_setEnd X hP hD hS kw705 dX9_laid_425 (fun H locs hP hD hS => ?_)
  obtain ⟨s1, es1, hf⟩ := bd_e hf
  rw [← es1] at hP hD
  refine lv_iload hx hb dX9_laid_428 (lv_at hl 8 rfl) ?_
  refine lv_iload hx hb dX9_laid_430 (lv_at hl 9 rfl) ?_
  refine lv_iadd hx hb dX9_laid_432 ?_
  refine lv_topi (fun y2 ey2 => ?_)
  have hf := bd_x ey2 hf
  refine lv_istore (lv' := [(10, .int y2), (9, .int z0), (0, .ref (ad 0)), (1, .int x1), (2, .int x2), (4, .int x4), (5, .int x5), (7, .int x7), (8, .int x8), (11, .int x11)]) hx hb dX9_laid_433 hl (by decide) rfl (fun ls hl => ?_)
  refine lv_goto (tgt := 357) hx hb dX9_laid_435 (by decide) ?_
  exact K357 x1 x2 x4 x5 x7 x8 z0 y2 s1 _ _ _ hf hP hD hS (lv_sub hl [2, 3, 4, 5, 6, 7, 8, 1, 0] rfl)
set_option maxHeartbeats 4000000 in
set_option maxRecDepth 100000 in
theorem t_X9_laid_415 {rc : Int32 → Int32 → Int32 → Int32 → St → Rs} {k357 : Int32 → Int32 → Int32 → Int32 → Int32 → Int32 → Int32 → Int32 → St → Rs} (X : Fx p s m meth c D cA A RX9 cX9_laid 14 (some .boolean)) (HR : ∀ (σ : St) (x1 x2 x3 x4 : Int32) (r : Int32) (σ' : St), rc x1 x2 x3 x4 σ = some (r, σ') → MI l D cA A (wM cA ad) yX9_laid cX9_laid 14 (some .boolean) (rm_X9_laid dd) [.ref (ad 0), .int x1, .int x2, .int x3, .int x4] ta σ r σ' 0 0) (K357 : ∀ (x1 x2 x4 x5 x7 x8 x9 x10 : Int32) (σ : St) (H : Heap) (locs : List Loc) (ls : Array Slot), k357 x1 x2 x4 x5 x7 x8 x9 x10 σ = some (r, σ') → va_P D vwCl (wM cA ad ta σ) H → va_D A (wM cA ad ta σ) → va_S A s.heap H locs → lv_has ls 14 [(0, .ref (ad 0)), (1, .int x1), (2, .int x2), (4, .int x4), (5, .int x5), (7, .int x7), (8, .int x8), (9, .int x9), (10, .int x10)] → W p l e (rm_X9_laid (dd + 1)) s m args below meth c H locs 0 0 (MQ below (QI D cA A (wM cA ad) r σ' ta) args s 0 0 A) (F0 m 357 ls [])) {x1 x2 x4 x5 x7 x8 x10 x11 : Int32} { σ : St} {H : Heap} {locs : List Loc} {ls : Array Slot} (hf : F_X9_laid_415 rc k357 x1 x2 x4 x5 x7 x8 x10 x11 σ = some (r, σ')) (hP : va_P D vwCl (wM cA ad ta σ) H) (hD : va_D A (wM cA ad ta σ)) (hS : va_S A s.heap H locs) (hl : lv_has ls 14 [(0, .ref (ad 0)), (1, .int x1), (2, .int x2), (4, .int x4), (5, .int x5), (7, .int x7), (8, .int x8), (10, .int x10), (11, .int x11)]) : W p l e (rm_X9_laid (dd + 1)) s m args below meth c H locs 0 0 (MQ below (QI D cA A (wM cA ad) r σ' ta) args s 0 0 A) (F0 m 415 ls []) := by
  obtain ⟨hx, hb, hr, hml, hown, hlk, hE, hK, hA⟩ := id X
  rw [F_X9_laid_415] at hf
  refine lv_iconst (v := 1) hx hb dX9_laid_415 (by decide) ?_
  refine lv_goto (tgt := 420) hx hb dX9_laid_416 (by decide) ?_
  exact t_X9_laid_420 X HR K357 hf hP hD hS (lv_sub hl [0, 1, 2, 3, 4, 5, 6, 7, 8] rfl)
set_option maxHeartbeats 4000000 in
set_option maxRecDepth 100000 in
theorem t_X9_laid_357 {rc : Int32 → Int32 → Int32 → Int32 → St → Rs} (X : Fx p s m meth c D cA A RX9 cX9_laid 14 (some .boolean)) (HR : ∀ (σ : St) (x1 x2 x3 x4 : Int32) (r : Int32) (σ' : St), rc x1 x2 x3 x4 σ = some (r, σ') → MI l D cA A (wM cA ad) yX9_laid cX9_laid 14 (some .boolean) (rm_X9_laid dd) [.ref (ad 0), .int x1, .int x2, .int x3, .int x4] ta σ r σ' 0 0) : ∀ (n : Nat) (x1 x2 x4 x5 x7 x8 x9 x10 : Int32) (σ : St) (H : Heap) (locs : List Loc) (ls : Array Slot), F_X9_laid_357 rc n x1 x2 x4 x5 x7 x8 x9 x10 σ = some (r, σ') → va_P D vwCl (wM cA ad ta σ) H → va_D A (wM cA ad ta σ) → va_S A s.heap H locs → lv_has ls 14 [(0, .ref (ad 0)), (1, .int x1), (2, .int x2), (4, .int x4), (5, .int x5), (7, .int x7), (8, .int x8), (9, .int x9), (10, .int x10)] → W p l e (rm_X9_laid (dd + 1)) s m args below meth c H locs 0 0 (MQ below (QI D cA A (wM cA ad) r σ' ta) args s 0 0 A) (F0 m 357 ls []) := by
  obtain ⟨hx, hb, hr, hml, hown, hlk, hE, hK, hA⟩ := id X
  intro n
  induction n with
  | zero =>
    intro x1 x2 x4 x5 x7 x8 x9 x10 σ H locs ls hf
    cases (show (none : Rs) = some _ from hf)
  | succ n ih =>
    intro x1 x2 x4 x5 x7 x8 x9 x10 σ H locs ls hf hP hD hS hl
    rw [F_X9_laid_357] at hf
    refine lv_iload hx hb dX9_laid_357 (lv_at hl 8 rfl) ?_
    refine lv_iload_n hx hb dX9_laid_359 rfl (lv_at hl 2 rfl) ?_
    refine lv_icmp_ge (tgt := 438) hx hb dX9_laid_360 (by decide) (fun c1 => ?_) (fun c1 => ?_)
    · have hf := it_t c1 hf
      refine lv_iload hx hb dX9_laid_438 (lv_at hl 7 rfl) ?_
      obtain ⟨b2, hf⟩ := ck_e hf
      obtain ⟨rfl, rfl⟩ := Prod.mk.inj (Option.some.inj hf)
      exact ret_z X b2 hP hD hS dX9_laid_440
    · have hf := it_f c1 hf
      refine lv_aload_n hx hb dX9_laid_363 rfl (lv_at hl 0 rfl) ?_
      refine lv_iload_n hx hb dX9_laid_364 rfl (lv_at hl 1 rfl) ?_
      refine lv_iload hx hb dX9_laid_365 (lv_at hl 8 rfl) ?_
      refine lv_iadd hx hb dX9_laid_367 ?_
      refine lv_iload_n hx hb dX9_laid_368 rfl (lv_at hl 2 rfl) ?_
      refine lv_iload hx hb dX9_laid_369 (lv_at hl 8 rfl) ?_
      refine lv_isub hx hb dX9_laid_371 ?_
      refine lv_iload hx hb dX9_laid_372 (lv_at hl 4 rfl) ?_
      refine lv_sipush (v := 170) hx hb dX9_laid_374 (by decide) ?_
      refine lv_isub hx hb dX9_laid_377 ?_
      obtain ⟨r3, s4, h5, hf⟩ := bo_e hf
      refine callV_i X cv_X9_run kw912 (c_X9_run l D cA A ad ta σ (x1 + x10) (x2 - x10) (x5 - 170) r3 s4 h5) ⟨by dsimp only [rm_X9_laid, rm_X9_run]; omega, by dsimp only [rm_X9_laid, rm_X9_run]; omega⟩ ⟨rfl, rfl⟩ hP hD hS (q0 := 0) (ci := 9) rfl rfl rfl rfl hl rfl (Nat.le_of_ble_eq_true rfl) dX9_laid_378 ⟨Nat.le_of_ble_eq_true rfl, Nat.le_of_ble_eq_true rfl⟩ (fun H locs hP hD hS => ?_)
      refine lv_istore (lv' := [(11, .int r3), (0, .ref (ad 0)), (1, .int x1), (2, .int x2), (4, .int x4), (5, .int x5), (7, .int x7), (8, .int x8), (9, .int x9), (10, .int x10)]) hx hb dX9_laid_381 hl (by decide) rfl (fun ls hl => ?_)
      refine lv_aload_n hx hb dX9_laid_383 rfl (lv_at hl 1 rfl) ?_
      refine gM_Mod_many0 X hP kw716 dX9_laid_384 ?_
      refine lv_iload hx hb dX9_laid_387 (lv_at hl 6 rfl) ?_
      refine lv_dup2_11 hx hb dX9_laid_389 rfl rfl ?_
      obtain ⟨b6, hf⟩ := ck_e hf
      refine lM_many0 X hP b6 dX9_laid_390 ?_
      refine lv_topi (fun y7 ey7 => ?_)
      have hf := bd_x ey7 hf
      refine lv_iconst (v := 1) hx hb dX9_laid_391 (by decide) ?_
      refine lv_iadd hx hb dX9_laid_392 ?_
      obtain ⟨b8, hf⟩ := ck_e hf
      refine sM_many0 X hP hD hS b8 dX9_laid_393 (fun H locs hP hD hS => ?_)
      obtain ⟨s9, es9, hf⟩ := bd_e hf
      rw [← es9] at hP hD
      refine lv_aload_n hx hb dX9_laid_394 rfl (lv_at hl 1 rfl) ?_
      refine lv_iload hx hb dX9_laid_395 (lv_at hl 7 rfl) ?_
      refine lv_iload hx hb dX9_laid_397 (lv_at hl 0 rfl) ?_
      refine lv_iconst (v := -1) hx hb dX9_laid_399 (by decide) ?_
      refine lv_iload hx hb dX9_laid_400 (lv_at hl 4 rfl) ?_
      refine lv_iconst (v := 1) hx hb dX9_laid_402 (by decide) ?_
      refine lv_iadd hx hb dX9_laid_403 ?_
      obtain ⟨r10, s11, h12, hf⟩ := bo_e hf
      refine callS_i X cs_X9_laid kw884 (HR s9 x8 r3 (-1) (x4 + 1) r10 s11 h12) ⟨by dsimp only [rm_X9_laid, rm_X9_laid]; omega, by dsimp only [rm_X9_laid, rm_X9_laid]; omega⟩ ⟨rfl, rfl⟩ hP hD hS rfl hl rfl (Nat.le_of_ble_eq_true rfl) dX9_laid_404 ⟨Nat.le_of_ble_eq_true rfl, Nat.le_of_ble_eq_true rfl⟩ (fun H locs hP hD hS => ?_)
      refine lv_if_ne (tgt := 415) hx hb dX9_laid_407 (by decide) (fun c13 => ?_) (fun c13 => ?_)
      · have hf := it_f c13 hf
        exact t_X9_laid_415 X HR ih hf hP hD hS (lv_sub hl [1, 2, 3, 4, 5, 6, 7, 9, 0] rfl)
      · have hf := it_t c13 hf
        refine lv_iload hx hb dX9_laid_410 (lv_at hl 8 rfl) ?_
        refine lv_if_eq (tgt := 419) hx hb dX9_laid_412 (by decide) (fun c14 => ?_) (fun c14 => ?_)
        · have hf := it_t c14 hf
          refine lv_iconst (v := 0) hx hb dX9_laid_419 (by decide) ?_
          exact t_X9_laid_420 X HR ih hf hP hD hS (lv_sub hl [1, 2, 3, 4, 5, 6, 7, 9, 0] rfl)
        · have hf := it_f c14 hf
          exact t_X9_laid_415 X HR ih hf hP hD hS (lv_sub hl [1, 2, 3, 4, 5, 6, 7, 9, 0] rfl)
set_option maxHeartbeats 4000000 in
set_option maxRecDepth 100000 in
theorem t_X9_laid_73 {rc : Int32 → Int32 → Int32 → Int32 → St → Rs} (X : Fx p s m meth c D cA A RX9 cX9_laid 14 (some .boolean)) (HR : ∀ (σ : St) (x1 x2 x3 x4 : Int32) (r : Int32) (σ' : St), rc x1 x2 x3 x4 σ = some (r, σ') → MI l D cA A (wM cA ad) yX9_laid cX9_laid 14 (some .boolean) (rm_X9_laid dd) [.ref (ad 0), .int x1, .int x2, .int x3, .int x4] ta σ r σ' 0 0) {x1 x2 x3 x4 x5 x6 z0 : Int32} { σ : St} {H : Heap} {locs : List Loc} {ls : Array Slot} (hf : F_X9_laid_73 rc x1 x2 x3 x4 x5 x6 z0 σ = some (r, σ')) (hP : va_P D vwCl (wM cA ad ta σ) H) (hD : va_D A (wM cA ad ta σ)) (hS : va_S A s.heap H locs) (hl : lv_has ls 14 [(0, .ref (ad 0)), (1, .int x1), (2, .int x2), (3, .int x3), (4, .int x4), (5, .int x5), (6, .int x6)]) : W p l e (rm_X9_laid (dd + 1)) s m args below meth c H locs 0 0 (MQ below (QI D cA A (wM cA ad) r σ' ta) args s 0 0 A) (F0 m 73 ls [.int z0, .ref (ad 0)]) := by
  obtain ⟨hx, hb, hr, hml, hown, hlk, hE, hK, hA⟩ := id X
  rw [F_X9_laid_73] at hf
  refine lv_iconst (v := 0) hx hb dX9_laid_73 (by decide) ?_
  refine lv_iload_n hx hb dX9_laid_74 rfl (lv_at hl 3 rfl) ?_
  refine lv_iload hx hb dX9_laid_75 (lv_at hl 4 rfl) ?_
  obtain ⟨r1, s2, h3, hf⟩ := bo_e hf
  refine callV_i X cv_X9_node kw895 (c_X9_node l D cA A ad ta σ z0 0 x3 x4 r1 s2 h3) ⟨by dsimp only [rm_X9_laid, rm_X9_node]; omega, by dsimp only [rm_X9_laid, rm_X9_node]; omega⟩ ⟨rfl, rfl⟩ hP hD hS (q0 := 0) (ci := 9) rfl rfl rfl rfl hl rfl (Nat.le_of_ble_eq_true rfl) dX9_laid_77 ⟨Nat.le_of_ble_eq_true rfl, Nat.le_of_ble_eq_true rfl⟩ (fun H locs hP hD hS => ?_)
  refine lv_istore (lv' := [(7, .int r1), (0, .ref (ad 0)), (1, .int x1), (2, .int x2), (3, .int x3), (4, .int x4), (5, .int x5), (6, .int x6)]) hx hb dX9_laid_80 hl (by decide) rfl (fun ls hl => ?_)
  refine lv_aload_n hx hb dX9_laid_82 rfl (lv_at hl 1 rfl) ?_
  refine gM_Mod_setEnd X hP kw705 dX9_laid_83 ?_
  refine lv_topi (fun y4 ey4 => ?_)
  have hf := bd_x ey4 hf
  refine lv_istore (lv' := [(8, .int y4), (7, .int r1), (0, .ref (ad 0)), (1, .int x1), (2, .int x2), (3, .int x3), (4, .int x4), (5, .int x5), (6, .int x6)]) hx hb dX9_laid_86 hl (by decide) rfl (fun ls hl => ?_)
  refine lv_iload hx hb dX9_laid_88 (lv_at hl 8 rfl) ?_
  refine lv_istore (lv' := [(9, .int x6), (8, .int y4), (7, .int r1), (0, .ref (ad 0)), (1, .int x1), (2, .int x2), (3, .int x3), (4, .int x4), (5, .int x5), (6, .int x6)]) hx hb dX9_laid_90 hl (by decide) rfl (fun ls hl => ?_)
  refine lv_iload hx hb dX9_laid_92 (lv_at hl 8 rfl) ?_
  refine lv_iconst (v := -1) hx hb dX9_laid_94 (by decide) ?_
  refine lv_icmp_ne (tgt := 143) hx hb dX9_laid_95 (by decide) (fun c5 => ?_) (fun c5 => ?_)
  · have hf := it_f c5 hf
    refine lv_iload hx hb dX9_laid_143 (lv_at hl 9 rfl) ?_
    refine lv_if_eq (tgt := 354) hx hb dX9_laid_145 (by decide) (fun c6 => ?_) (fun c6 => ?_)
    · have hf := it_t c6 hf
      refine lv_iconst (v := 0) hx hb dX9_laid_354 (by decide) ?_
      refine lv_istore (lv' := [(10, .int 0), (9, .int x6), (8, .int y4), (7, .int r1), (0, .ref (ad 0)), (1, .int x1), (2, .int x2), (3, .int x3), (4, .int x4), (5, .int x5), (6, .int x6)]) hx hb dX9_laid_355 hl (by decide) rfl (fun ls hl => ?_)
      exact t_X9_laid_357 X HR 5000 x1 x2 x4 x5 r1 y4 x6 0 s2 _ _ _ hf hP hD hS (lv_sub hl [4, 5, 6, 8, 9, 3, 2, 1, 0] rfl)
    · have hf := it_f c6 hf
      refine lv_aload_n hx hb dX9_laid_148 rfl (lv_at hl 3 rfl) ?_
      refine gM_Mod_set X hP kw703 dX9_laid_149 ?_
      refine lv_iload_n hx hb dX9_laid_152 rfl (lv_at hl 4 rfl) ?_
      obtain ⟨b7, hf⟩ := ck_e hf
      refine lM_set X hP b7 dX9_laid_153 ?_
      refine lv_topi (fun y8 ey8 => ?_)
      have hf := bd_x ey8 hf
      refine lv_istore (lv' := [(10, .int y8), (9, .int x6), (8, .int y4), (7, .int r1), (0, .ref (ad 0)), (1, .int x1), (2, .int x2), (3, .int x3), (4, .int x4), (5, .int x5), (6, .int x6)]) hx hb dX9_laid_154 hl (by decide) rfl (fun ls hl => ?_)
      refine lv_aload_n hx hb dX9_laid_156 rfl (lv_at hl 4 rfl) ?_
      refine gM_Mod_of X hP kw714 dX9_laid_157 ?_
      refine lv_iload hx hb dX9_laid_160 (lv_at hl 3 rfl) ?_
      refine lv_iload hx hb dX9_laid_162 (lv_at hl 0 rfl) ?_
      obtain ⟨b9, hf⟩ := ck_e hf
      refine sM_of X hP hD hS b9 dX9_laid_164 (fun H locs hP hD hS => ?_)
      obtain ⟨s10, es10, hf⟩ := bd_e hf
      rw [← es10] at hP hD
      refine lv_aload_n hx hb dX9_laid_165 rfl (lv_at hl 4 rfl) ?_
      refine gM_Mod_spot X hP kw715 dX9_laid_166 ?_
      refine lv_iload hx hb dX9_laid_169 (lv_at hl 3 rfl) ?_
      refine lv_aload_n hx hb dX9_laid_171 rfl (lv_at hl 4 rfl) ?_
      refine gM_Mod_open X hP kw701 dX9_laid_172 ?_
      refine lv_sipush (v := 170) hx hb dX9_laid_175 (by decide) ?_
      refine lv_iload hx hb dX9_laid_178 (lv_at hl 0 rfl) ?_
      refine lv_imul hx hb dX9_laid_180 ?_
      refine lv_iload hx hb dX9_laid_181 (lv_at hl 9 rfl) ?_
      refine lv_iadd hx hb dX9_laid_183 ?_
      obtain ⟨b11, hf⟩ := ck_e hf
      refine lM_open X hP b11 dX9_laid_184 ?_
      refine lv_topi (fun y12 ey12 => ?_)
      have hf := bd_x ey12 hf
      obtain ⟨b13, hf⟩ := ck_e hf
      refine sM_spot X hP hD hS b13 dX9_laid_185 (fun H locs hP hD hS => ?_)
      obtain ⟨s14, es14, hf⟩ := bd_e hf
      rw [← es14] at hP hD
      refine lv_aload_n hx hb dX9_laid_186 rfl (lv_at hl 4 rfl) ?_
      refine gM_Mod_conType X hP kw681 dX9_laid_187 ?_
      refine lv_aload_n hx hb dX9_laid_190 rfl (lv_at hl 4 rfl) ?_
      refine lv_iload hx hb dX9_laid_191 (lv_at hl 0 rfl) ?_
      refine lv_iload hx hb dX9_laid_193 (lv_at hl 9 rfl) ?_
      obtain ⟨r15, s16, h17, hf⟩ := bo_e hf
      refine callV_i X cv_X9_there kw891 (c_X9_there l D cA A ad ta s14 y8 x5 r15 s16 h17) ⟨by dsimp only [rm_X9_laid, rm_X9_there]; omega, by dsimp only [rm_X9_laid, rm_X9_there]; omega⟩ ⟨rfl, rfl⟩ hP hD hS (q0 := 0) (ci := 9) rfl rfl rfl rfl hl rfl (Nat.le_of_ble_eq_true rfl) dX9_laid_195 ⟨Nat.le_of_ble_eq_true rfl, Nat.le_of_ble_eq_true rfl⟩ (fun H locs hP hD hS => ?_)
      obtain ⟨b18, hf⟩ := ck_e hf
      refine lM_conType X hP b18 dX9_laid_198 ?_
      refine lv_topi (fun y19 ey19 => ?_)
      have hf := bd_x ey19 hf
      refine lv_istore (lv' := [(11, .int y19), (10, .int y8), (9, .int x6), (8, .int y4), (7, .int r1), (0, .ref (ad 0)), (1, .int x1), (2, .int x2), (3, .int x3), (4, .int x4), (5, .int x5), (6, .int x6)]) hx hb dX9_laid_199 hl (by decide) rfl (fun ls hl => ?_)
      refine lv_iconst (v := 0) hx hb dX9_laid_201 (by decide) ?_
      refine lv_istore (lv' := [(12, .int 0), (11, .int y19), (10, .int y8), (9, .int x6), (8, .int y4), (7, .int r1), (0, .ref (ad 0)), (1, .int x1), (2, .int x2), (3, .int x3), (4, .int x4), (5, .int x5), (6, .int x6)]) hx hb dX9_laid_202 hl (by decide) rfl (fun ls hl => ?_)
      exact t_X9_laid_204 X HR 5000 x1 x2 x4 x5 r1 y4 x6 y19 0 s16 _ _ _ hf hP hD hS (lv_sub hl [6, 7, 8, 10, 11, 5, 4, 3, 1, 0] rfl)
  · have hf := it_t c5 hf
    refine lv_iload_n hx hb dX9_laid_98 rfl (lv_at hl 4 rfl) ?_
    refine lv_istore (lv' := [(10, .int x1), (9, .int x6), (8, .int y4), (7, .int r1), (0, .ref (ad 0)), (1, .int x1), (2, .int x2), (3, .int x3), (4, .int x4), (5, .int x5), (6, .int x6)]) hx hb dX9_laid_99 hl (by decide) rfl (fun ls hl => ?_)
    exact t_X9_laid_101 X HR 5000 x1 x2 x4 r1 x1 s2 _ _ _ hf hP hD hS (lv_sub hl [4, 5, 6, 8, 3, 0] rfl)
set_option maxHeartbeats 4000000 in
set_option maxRecDepth 100000 in
theorem t_X9_laid_60 {rc : Int32 → Int32 → Int32 → Int32 → St → Rs} (X : Fx p s m meth c D cA A RX9 cX9_laid 14 (some .boolean)) (HR : ∀ (σ : St) (x1 x2 x3 x4 : Int32) (r : Int32) (σ' : St), rc x1 x2 x3 x4 σ = some (r, σ') → MI l D cA A (wM cA ad) yX9_laid cX9_laid 14 (some .boolean) (rm_X9_laid dd) [.ref (ad 0), .int x1, .int x2, .int x3, .int x4] ta σ r σ' 0 0) {x1 x2 x3 x4 x5 z0 : Int32} { σ : St} {H : Heap} {locs : List Loc} {ls : Array Slot} (hf : F_X9_laid_60 rc x1 x2 x3 x4 x5 z0 σ = some (r, σ')) (hP : va_P D vwCl (wM cA ad ta σ) H) (hD : va_D A (wM cA ad ta σ)) (hS : va_S A s.heap H locs) (hl : lv_has ls 14 [(0, .ref (ad 0)), (1, .int x1), (2, .int x2), (3, .int x3), (4, .int x4), (5, .int x5)]) : W p l e (rm_X9_laid (dd + 1)) s m args below meth c H locs 0 0 (MQ below (QI D cA A (wM cA ad) r σ' ta) args s 0 0 A) (F0 m 60 ls [.int z0]) := by
  obtain ⟨hx, hb, hr, hml, hown, hlk, hE, hK, hA⟩ := id X
  rw [F_X9_laid_60] at hf
  refine lv_istore (lv' := [(6, .int z0), (0, .ref (ad 0)), (1, .int x1), (2, .int x2), (3, .int x3), (4, .int x4), (5, .int x5)]) hx hb dX9_laid_60 hl (by decide) rfl (fun ls hl => ?_)
  refine lv_aload_n hx hb dX9_laid_62 rfl (lv_at hl 1 rfl) ?_
  refine lv_iload hx hb dX9_laid_63 (lv_at hl 0 rfl) ?_
  refine lv_if_eq (tgt := 72) hx hb dX9_laid_65 (by decide) (fun c1 => ?_) (fun c1 => ?_)
  · have hf := it_t c1 hf
    refine lv_iconst (v := 2) hx hb dX9_laid_72 (by decide) ?_
    exact t_X9_laid_73 X HR hf hP hD hS (lv_sub hl [1, 2, 3, 4, 5, 6, 0] rfl)
  · have hf := it_f c1 hf
    refine lv_iconst (v := 1) hx hb dX9_laid_68 (by decide) ?_
    refine lv_goto (tgt := 73) hx hb dX9_laid_69 (by decide) ?_
    exact t_X9_laid_73 X HR hf hP hD hS (lv_sub hl [1, 2, 3, 4, 5, 6, 0] rfl)
set_option maxHeartbeats 4000000 in
set_option maxRecDepth 100000 in
theorem t_X9_laid_59 {rc : Int32 → Int32 → Int32 → Int32 → St → Rs} (X : Fx p s m meth c D cA A RX9 cX9_laid 14 (some .boolean)) (HR : ∀ (σ : St) (x1 x2 x3 x4 : Int32) (r : Int32) (σ' : St), rc x1 x2 x3 x4 σ = some (r, σ') → MI l D cA A (wM cA ad) yX9_laid cX9_laid 14 (some .boolean) (rm_X9_laid dd) [.ref (ad 0), .int x1, .int x2, .int x3, .int x4] ta σ r σ' 0 0) {x1 x2 x3 x4 x5 : Int32} { σ : St} {H : Heap} {locs : List Loc} {ls : Array Slot} (hf : F_X9_laid_59 rc x1 x2 x3 x4 x5 σ = some (r, σ')) (hP : va_P D vwCl (wM cA ad ta σ) H) (hD : va_D A (wM cA ad ta σ)) (hS : va_S A s.heap H locs) (hl : lv_has ls 14 [(0, .ref (ad 0)), (1, .int x1), (2, .int x2), (3, .int x3), (4, .int x4), (5, .int x5)]) : W p l e (rm_X9_laid (dd + 1)) s m args below meth c H locs 0 0 (MQ below (QI D cA A (wM cA ad) r σ' ta) args s 0 0 A) (F0 m 59 ls []) := by
  obtain ⟨hx, hb, hr, hml, hown, hlk, hE, hK, hA⟩ := id X
  rw [F_X9_laid_59] at hf
  refine lv_iconst (v := 0) hx hb dX9_laid_59 (by decide) ?_
  exact t_X9_laid_60 X HR hf hP hD hS (lv_sub hl [0, 1, 2, 3, 4, 5] rfl)
set_option maxHeartbeats 4000000 in
set_option maxRecDepth 100000 in
theorem t_X9_laid_42 {rc : Int32 → Int32 → Int32 → Int32 → St → Rs} (X : Fx p s m meth c D cA A RX9 cX9_laid 14 (some .boolean)) (HR : ∀ (σ : St) (x1 x2 x3 x4 : Int32) (r : Int32) (σ' : St), rc x1 x2 x3 x4 σ = some (r, σ') → MI l D cA A (wM cA ad) yX9_laid cX9_laid 14 (some .boolean) (rm_X9_laid dd) [.ref (ad 0), .int x1, .int x2, .int x3, .int x4] ta σ r σ' 0 0) {x1 x2 x3 x4 x5 : Int32} { σ : St} {H : Heap} {locs : List Loc} {ls : Array Slot} (hf : F_X9_laid_42 rc x1 x2 x3 x4 x5 σ = some (r, σ')) (hP : va_P D vwCl (wM cA ad ta σ) H) (hD : va_D A (wM cA ad ta σ)) (hS : va_S A s.heap H locs) (hl : lv_has ls 14 [(0, .ref (ad 0)), (1, .int x1), (2, .int x2), (3, .int x3), (4, .int x4), (5, .int x5)]) : W p l e (rm_X9_laid (dd + 1)) s m args below meth c H locs 0 0 (MQ below (QI D cA A (wM cA ad) r σ' ta) args s 0 0 A) (F0 m 42 ls []) := by
  obtain ⟨hx, hb, hr, hml, hown, hlk, hE, hK, hA⟩ := id X
  rw [F_X9_laid_42] at hf
  refine lv_iload hx hb dX9_laid_42 (lv_at hl 5 rfl) ?_
  refine lv_if_lt (tgt := 59) hx hb dX9_laid_44 (by decide) (fun c1 => ?_) (fun c1 => ?_)
  · have hf := it_t c1 hf
    exact t_X9_laid_59 X HR hf hP hD hS (lv_sub hl [0, 1, 2, 3, 4, 5] rfl)
  · have hf := it_f c1 hf
    refine lv_iload hx hb dX9_laid_47 (lv_at hl 5 rfl) ?_
    refine lv_sipush (v := 170) hx hb dX9_laid_49 (by decide) ?_
    refine lv_icmp_ge (tgt := 59) hx hb dX9_laid_52 (by decide) (fun c2 => ?_) (fun c2 => ?_)
    · have hf := it_t c2 hf
      exact t_X9_laid_59 X HR hf hP hD hS (lv_sub hl [0, 1, 2, 3, 4, 5] rfl)
    · have hf := it_f c2 hf
      refine lv_iconst (v := 1) hx hb dX9_laid_55 (by decide) ?_
      refine lv_goto (tgt := 60) hx hb dX9_laid_56 (by decide) ?_
      exact t_X9_laid_60 X HR hf hP hD hS (lv_sub hl [0, 1, 2, 3, 4, 5] rfl)
set_option maxHeartbeats 4000000 in
set_option maxRecDepth 100000 in
theorem t_X9_laid_0 {rc : Int32 → Int32 → Int32 → Int32 → St → Rs} (X : Fx p s m meth c D cA A RX9 cX9_laid 14 (some .boolean)) (HR : ∀ (σ : St) (x1 x2 x3 x4 : Int32) (r : Int32) (σ' : St), rc x1 x2 x3 x4 σ = some (r, σ') → MI l D cA A (wM cA ad) yX9_laid cX9_laid 14 (some .boolean) (rm_X9_laid dd) [.ref (ad 0), .int x1, .int x2, .int x3, .int x4] ta σ r σ' 0 0) {x1 x2 x3 x4 : Int32} { σ : St} {H : Heap} {locs : List Loc} {ls : Array Slot} (hf : F_X9_laidb rc x1 x2 x3 x4 σ = some (r, σ')) (hP : va_P D vwCl (wM cA ad ta σ) H) (hD : va_D A (wM cA ad ta σ)) (hS : va_S A s.heap H locs) (hl : lv_has ls 14 [(0, .ref (ad 0)), (1, .int x1), (2, .int x2), (3, .int x3), (4, .int x4)]) : W p l e (rm_X9_laid (dd + 1)) s m args below meth c H locs 0 0 (MQ below (QI D cA A (wM cA ad) r σ' ta) args s 0 0 A) (F0 m 0 ls []) := by
  obtain ⟨hx, hb, hr, hml, hown, hlk, hE, hK, hA⟩ := id X
  rw [F_X9_laidb] at hf
  refine lv_aload_n hx hb dX9_laid_0 rfl (lv_at hl 0 rfl) ?_
  refine lv_iload_n hx hb dX9_laid_1 rfl (lv_at hl 1 rfl) ?_
  refine lv_iload_n hx hb dX9_laid_2 rfl (lv_at hl 2 rfl) ?_
  obtain ⟨r1, s2, h3, hf⟩ := bo_e hf
  refine callV_i X cv_X9_needed kw887 (c_X9_needed l D cA A ad ta σ x1 x2 r1 s2 h3) ⟨by dsimp only [rm_X9_laid, rm_X9_needed]; omega, by dsimp only [rm_X9_laid, rm_X9_needed]; omega⟩ ⟨rfl, rfl⟩ hP hD hS (q0 := 0) (ci := 9) rfl rfl rfl rfl hl rfl (Nat.le_of_ble_eq_true rfl) dX9_laid_3 ⟨Nat.le_of_ble_eq_true rfl, Nat.le_of_ble_eq_true rfl⟩ (fun H locs hP hD hS => ?_)
  refine lv_istore (lv' := [(5, .int r1), (0, .ref (ad 0)), (1, .int x1), (2, .int x2), (3, .int x3), (4, .int x4)]) hx hb dX9_laid_6 hl (by decide) rfl (fun ls hl => ?_)
  refine lv_iload hx hb dX9_laid_8 (lv_at hl 0 rfl) ?_
  refine lv_iconst (v := -1) hx hb dX9_laid_10 (by decide) ?_
  refine lv_icmp_ne (tgt := 42) hx hb dX9_laid_11 (by decide) (fun c4 => ?_) (fun c4 => ?_)
  · have hf := it_f c4 hf
    exact t_X9_laid_42 X HR hf hP hD hS (lv_sub hl [1, 2, 3, 4, 5, 0] rfl)
  · have hf := it_t c4 hf
    refine lv_iload_n hx hb dX9_laid_14 rfl (lv_at hl 3 rfl) ?_
    refine lv_iconst (v := 1) hx hb dX9_laid_15 (by decide) ?_
    refine lv_icmp_ne (tgt := 42) hx hb dX9_laid_16 (by decide) (fun c5 => ?_) (fun c5 => ?_)
    · have hf := it_f c5 hf
      exact t_X9_laid_42 X HR hf hP hD hS (lv_sub hl [1, 2, 3, 4, 5, 0] rfl)
    · have hf := it_t c5 hf
      refine lv_aload_n hx hb dX9_laid_19 rfl (lv_at hl 1 rfl) ?_
      refine lv_iconst (v := 0) hx hb dX9_laid_20 (by decide) ?_
      refine lv_aload_n hx hb dX9_laid_21 rfl (lv_at hl 1 rfl) ?_
      refine gM_Mod_set X hP kw703 dX9_laid_22 ?_
      refine lv_iload_n hx hb dX9_laid_25 rfl (lv_at hl 2 rfl) ?_
      obtain ⟨b6, hf⟩ := ck_e hf
      refine lM_set X hP b6 dX9_laid_26 ?_
      refine lv_topi (fun y7 ey7 => ?_)
      have hf := bd_x ey7 hf
      refine lv_iload_n hx hb dX9_laid_27 rfl (lv_at hl 4 rfl) ?_
      refine lv_iload hx hb dX9_laid_28 (lv_at hl 5 rfl) ?_
      obtain ⟨r8, s9, h10, hf⟩ := bo_e hf
      refine callV_i X cv_X9_node kw895 (c_X9_node l D cA A ad ta s2 0 y7 x3 x4 r8 s9 h10) ⟨by dsimp only [rm_X9_laid, rm_X9_node]; omega, by dsimp only [rm_X9_laid, rm_X9_node]; omega⟩ ⟨rfl, rfl⟩ hP hD hS (q0 := 0) (ci := 9) rfl rfl rfl rfl hl rfl (Nat.le_of_ble_eq_true rfl) dX9_laid_30 ⟨Nat.le_of_ble_eq_true rfl, Nat.le_of_ble_eq_true rfl⟩ (fun H locs hP hD hS => ?_)
      refine lv_if_lt (tgt := 40) hx hb dX9_laid_33 (by decide) (fun c11 => ?_) (fun c11 => ?_)
      · have hf := it_t c11 hf
        refine lv_iconst (v := 0) hx hb dX9_laid_40 (by decide) ?_
        obtain ⟨b12, hf⟩ := ck_e hf
        obtain ⟨rfl, rfl⟩ := Prod.mk.inj (Option.some.inj hf)
        exact ret_z X b12 hP hD hS dX9_laid_41
      · have hf := it_f c11 hf
        refine lv_iconst (v := 1) hx hb dX9_laid_36 (by decide) ?_
        refine lv_goto (tgt := 41) hx hb dX9_laid_37 (by decide) ?_
        obtain ⟨b13, hf⟩ := ck_e hf
        obtain ⟨rfl, rfl⟩ := Prod.mk.inj (Option.some.inj hf)
        exact ret_z X b13 hP hD hS dX9_laid_41
end S_X9_laid
theorem c_X9_laid (l : Launch) (D : va_G) (cA : ClassId) (A : Nat → Prop) (ad : Nat → Nat) (ta : Nat) : ∀ (d : Nat) (σ : St) (x1 x2 x3 x4 : Int32) (r : Int32) (σ' : St), F_X9_laid d x1 x2 x3 x4 σ = some (r, σ') → MI l D cA A (wM cA ad) yX9_laid cX9_laid 14 (some .boolean) (rm_X9_laid d) [.ref (ad 0), .int x1, .int x2, .int x3, .int x4] ta σ r σ' 0 0 := by
  intro d
  induction d with
  | zero =>
    intro σ x1 x2 x3 x4 r σ' hf
    cases (show (none : Rs) = some _ from hf)
  | succ d ih =>
    intro σ x1 x2 x3 x4 r σ' hf
    rw [F_X9_laid] at hf
    refine enter (by decide) (Nat.le_of_ble_eq_true rfl) ?_
    intro p e s m below meth c ls X hnm hP hD hS hl
    exact t_X9_laid_0 X ih hf hP hD hS hl
abbrev rm_X9_lay : Room := { frames := 1000, cells := 0, slots := 0, locals := 40000 }
def F_X9_lay  (σ : St) : Rs :=
  bd (sF σ 10 0) (fun s1 => bd (sF s1 11 0) (fun s2 => bd (sF s2 12 0) (fun s3 => bd (sF s3 13 0) (fun s4 => ck (isB 0) (bd (sF s4 14 0) (fun s6 => if (gF s6 4) = 0 then (some (0, s6)) else (bo (F_X9_openAll  s6) (fun r8 s9 => bo (F_X9_laid 300 0 (gF s9 4) (-1) 0 s9) (fun r11 s12 => ck (isB r11) (bd (sF s12 14 r11) (fun s15 => some (0, s15))))))))))))
section S_X9_lay
variable {p : Program} {l : Launch} {e : Env} {s : State} {m : MethodId} {args : Array Value} {below : List Frame} {meth : Method} {c : Code}
variable {D : va_G} {cA : ClassId} {A : Nat → Prop} {ad : Nat → Nat} {r : Int32} {σ' : St} {ta : Nat}
set_option maxHeartbeats 4000000 in
set_option maxRecDepth 100000 in
theorem t_X9_lay_0  (X : Fx p s m meth c D cA A RX9 cX9_lay 1 none)  { σ : St} {H : Heap} {locs : List Loc} {ls : Array Slot} (hf : F_X9_lay σ = some (r, σ')) (hP : va_P D vwCl (wM cA ad ta σ) H) (hD : va_D A (wM cA ad ta σ)) (hS : va_S A s.heap H locs) (hl : lv_has ls 1 [(0, .ref (ad 0))]) : W p l e (rm_X9_lay) s m args below meth c H locs 0 0 (MQ below (QV D cA A (wM cA ad) σ' ta) args s 0 0 A) (F0 m 0 ls []) := by
  obtain ⟨hx, hb, hr, hml, hown, hlk, hE, hK, hA⟩ := id X
  rw [F_X9_lay] at hf
  refine lv_aload_n hx hb dX9_lay_0 rfl (lv_at hl 0 rfl) ?_
  refine lv_iconst (v := 0) hx hb dX9_lay_1 (by decide) ?_
  refine pM_Mod_nodes X hP hD hS kw707 dX9_lay_2 (fun H locs hP hD hS => ?_)
  obtain ⟨s1, es1, hf⟩ := bd_e hf
  rw [← es1] at hP hD
  refine lv_aload_n hx hb dX9_lay_5 rfl (lv_at hl 0 rfl) ?_
  refine lv_iconst (v := 0) hx hb dX9_lay_6 (by decide) ?_
  refine pM_Mod_ors X hP hD hS kw708 dX9_lay_7 (fun H locs hP hD hS => ?_)
  obtain ⟨s2, es2, hf⟩ := bd_e hf
  rw [← es2] at hP hD
  refine lv_aload_n hx hb dX9_lay_10 rfl (lv_at hl 0 rfl) ?_
  refine lv_iconst (v := 0) hx hb dX9_lay_11 (by decide) ?_
  refine pM_Mod_branches X hP hD hS kw709 dX9_lay_12 (fun H locs hP hD hS => ?_)
  obtain ⟨s3, es3, hf⟩ := bd_e hf
  rw [← es3] at hP hD
  refine lv_aload_n hx hb dX9_lay_15 rfl (lv_at hl 0 rfl) ?_
  refine lv_iconst (v := 0) hx hb dX9_lay_16 (by decide) ?_
  refine pM_Mod_deepest X hP hD hS kw710 dX9_lay_17 (fun H locs hP hD hS => ?_)
  obtain ⟨s4, es4, hf⟩ := bd_e hf
  rw [← es4] at hP hD
  refine lv_aload_n hx hb dX9_lay_20 rfl (lv_at hl 0 rfl) ?_
  refine lv_iconst (v := 0) hx hb dX9_lay_21 (by decide) ?_
  obtain ⟨b5, hf⟩ := ck_e hf
  refine pM_Mod_all X b5 hP hD hS kw711 dX9_lay_22 (fun H locs hP hD hS => ?_)
  obtain ⟨s6, es6, hf⟩ := bd_e hf
  rw [← es6] at hP hD
  refine lv_aload_n hx hb dX9_lay_25 rfl (lv_at hl 0 rfl) ?_
  refine gM_Mod_rules X hP kw686 dX9_lay_26 ?_
  refine lv_if_ne (tgt := 33) hx hb dX9_lay_29 (by decide) (fun c7 => ?_) (fun c7 => ?_)
  · have hf := it_f c7 hf
    refine lv_aload_n hx hb dX9_lay_33 rfl (lv_at hl 0 rfl) ?_
    obtain ⟨r8, s9, h10, hf⟩ := bo_e hf
    refine callV_v X cv_X9_openAll kw880 (c_X9_openAll l D cA A ad ta s6  r8 s9 h10) ⟨by decide, by decide⟩ ⟨rfl, rfl⟩ hP hD hS (q0 := 0) (ci := 9) rfl rfl rfl rfl hl rfl (Nat.le_of_ble_eq_true rfl) dX9_lay_34 ⟨by decide, by decide⟩ (fun H locs hP hD hS => ?_)
    refine lv_aload_n hx hb dX9_lay_37 rfl (lv_at hl 0 rfl) ?_
    refine lv_aload_n hx hb dX9_lay_38 rfl (lv_at hl 0 rfl) ?_
    refine lv_iconst (v := 0) hx hb dX9_lay_39 (by decide) ?_
    refine lv_aload_n hx hb dX9_lay_40 rfl (lv_at hl 0 rfl) ?_
    refine gM_Mod_rules X hP kw686 dX9_lay_41 ?_
    refine lv_iconst (v := -1) hx hb dX9_lay_44 (by decide) ?_
    refine lv_iconst (v := 0) hx hb dX9_lay_45 (by decide) ?_
    obtain ⟨r11, s12, h13, hf⟩ := bo_e hf
    refine callS_i X cs_X9_laid kw884 (c_X9_laid l D cA A ad ta 300 s9 0 (gF s9 4) (-1) 0 r11 s12 h13) ⟨by decide, by decide⟩ ⟨rfl, rfl⟩ hP hD hS rfl hl rfl (Nat.le_of_ble_eq_true rfl) dX9_lay_46 ⟨by decide, by decide⟩ (fun H locs hP hD hS => ?_)
    obtain ⟨b14, hf⟩ := ck_e hf
    refine pM_Mod_all X b14 hP hD hS kw711 dX9_lay_49 (fun H locs hP hD hS => ?_)
    obtain ⟨s15, es15, hf⟩ := bd_e hf
    rw [← es15] at hP hD
    obtain ⟨rfl, rfl⟩ := Prod.mk.inj (Option.some.inj hf)
    exact ret_v X hP hD hS dX9_lay_52
  · have hf := it_t c7 hf
    obtain ⟨rfl, rfl⟩ := Prod.mk.inj (Option.some.inj hf)
    exact ret_v X hP hD hS dX9_lay_32
end S_X9_lay
theorem c_X9_lay (l : Launch) (D : va_G) (cA : ClassId) (A : Nat → Prop) (ad : Nat → Nat) (ta : Nat) (σ : St) (r : Int32) (σ' : St) (hf : F_X9_lay σ = some (r, σ')) : MV l D cA A (wM cA ad) yX9_lay cX9_lay 1 none rm_X9_lay [.ref (ad 0)] ta σ σ' 0 0 := by
  refine enter (by decide) (Nat.le_of_ble_eq_true rfl) ?_
  intro p e s m below meth c ls X hnm hP hD hS hl
  exact t_X9_lay_0 X hf hP hD hS hl
abbrev rm_X9_begin : Room := { frames := 1001, cells := 0, slots := 0, locals := 40020 }
def F_X9_begin (x1 : Int32) (x2 : Int32) (σ : St) : Rs :=
  if x1 < 0 then (ck (isB 0) (some (0, σ))) else (if 6 < x1 then (ck (isB 0) (some (0, σ))) else (bo (F_X9_areTypes x1 x2 σ) (fun r5 s6 => if r5 = 0 then (ck (isB 0) (some (0, s6))) else (bd (sF s6 2 x1) (fun s9 => bd (sF s9 3 x2) (fun s10 => bd (sF s10 4 0) (fun s11 => bd (sF s11 19 0) (fun s12 => bo (F_X9_lay  s12) (fun r13 s14 => ck (isB 1) (some (1, s14)))))))))))
section S_X9_begin
variable {p : Program} {l : Launch} {e : Env} {s : State} {m : MethodId} {args : Array Value} {below : List Frame} {meth : Method} {c : Code}
variable {D : va_G} {cA : ClassId} {A : Nat → Prop} {ad : Nat → Nat} {r : Int32} {σ' : St} {ta : Nat}
set_option maxHeartbeats 4000000 in
set_option maxRecDepth 100000 in
theorem t_X9_begin_0  (X : Fx p s m meth c D cA A RX9 cX9_begin 3 (some .boolean))  {x1 x2 : Int32} { σ : St} {H : Heap} {locs : List Loc} {ls : Array Slot} (hf : F_X9_begin x1 x2 σ = some (r, σ')) (hP : va_P D vwCl (wM cA ad ta σ) H) (hD : va_D A (wM cA ad ta σ)) (hS : va_S A s.heap H locs) (hl : lv_has ls 3 [(0, .ref (ad 0)), (1, .int x1), (2, .int x2)]) : W p l e (rm_X9_begin) s m args below meth c H locs 0 0 (MQ below (QI D cA A (wM cA ad) r σ' ta) args s 0 0 A) (F0 m 0 ls []) := by
  obtain ⟨hx, hb, hr, hml, hown, hlk, hE, hK, hA⟩ := id X
  rw [F_X9_begin] at hf
  refine lv_iload_n hx hb dX9_begin_0 rfl (lv_at hl 1 rfl) ?_
  refine lv_if_lt (tgt := 19) hx hb dX9_begin_1 (by decide) (fun c1 => ?_) (fun c1 => ?_)
  · have hf := it_t c1 hf
    refine lv_iconst (v := 0) hx hb dX9_begin_19 (by decide) ?_
    obtain ⟨b2, hf⟩ := ck_e hf
    obtain ⟨rfl, rfl⟩ := Prod.mk.inj (Option.some.inj hf)
    exact ret_z X b2 hP hD hS dX9_begin_20
  · have hf := it_f c1 hf
    refine lv_iload_n hx hb dX9_begin_4 rfl (lv_at hl 1 rfl) ?_
    refine lv_bipush (v := 6) hx hb dX9_begin_5 (by decide) ?_
    refine lv_icmp_gt (tgt := 19) hx hb dX9_begin_7 (by decide) (fun c3 => ?_) (fun c3 => ?_)
    · have hf := it_t c3 hf
      refine lv_iconst (v := 0) hx hb dX9_begin_19 (by decide) ?_
      obtain ⟨b4, hf⟩ := ck_e hf
      obtain ⟨rfl, rfl⟩ := Prod.mk.inj (Option.some.inj hf)
      exact ret_z X b4 hP hD hS dX9_begin_20
    · have hf := it_f c3 hf
      refine lv_aload_n hx hb dX9_begin_10 rfl (lv_at hl 0 rfl) ?_
      refine lv_iload_n hx hb dX9_begin_11 rfl (lv_at hl 1 rfl) ?_
      refine lv_iload_n hx hb dX9_begin_12 rfl (lv_at hl 2 rfl) ?_
      obtain ⟨r5, s6, h7, hf⟩ := bo_e hf
      refine callV_i X cv_X9_areTypes kw865 (c_X9_areTypes l D cA A ad ta σ x1 x2 r5 s6 h7) ⟨by decide, by decide⟩ ⟨rfl, rfl⟩ hP hD hS (q0 := 0) (ci := 9) rfl rfl rfl rfl hl rfl (Nat.le_of_ble_eq_true rfl) dX9_begin_13 ⟨by decide, by decide⟩ (fun H locs hP hD hS => ?_)
      refine lv_if_ne (tgt := 21) hx hb dX9_begin_16 (by decide) (fun c8 => ?_) (fun c8 => ?_)
      · have hf := it_f c8 hf
        refine lv_aload_n hx hb dX9_begin_21 rfl (lv_at hl 0 rfl) ?_
        refine lv_iload_n hx hb dX9_begin_22 rfl (lv_at hl 1 rfl) ?_
        refine pM_Mod_args X hP hD hS kw684 dX9_begin_23 (fun H locs hP hD hS => ?_)
        obtain ⟨s9, es9, hf⟩ := bd_e hf
        rw [← es9] at hP hD
        refine lv_aload_n hx hb dX9_begin_26 rfl (lv_at hl 0 rfl) ?_
        refine lv_iload_n hx hb dX9_begin_27 rfl (lv_at hl 2 rfl) ?_
        refine pM_Mod_argTypes X hP hD hS kw685 dX9_begin_28 (fun H locs hP hD hS => ?_)
        obtain ⟨s10, es10, hf⟩ := bd_e hf
        rw [← es10] at hP hD
        refine lv_aload_n hx hb dX9_begin_31 rfl (lv_at hl 0 rfl) ?_
        refine lv_iconst (v := 0) hx hb dX9_begin_32 (by decide) ?_
        refine pM_Mod_rules X hP hD hS kw686 dX9_begin_33 (fun H locs hP hD hS => ?_)
        obtain ⟨s11, es11, hf⟩ := bd_e hf
        rw [← es11] at hP hD
        refine lv_aload_n hx hb dX9_begin_36 rfl (lv_at hl 0 rfl) ?_
        refine lv_iconst (v := 0) hx hb dX9_begin_37 (by decide) ?_
        refine pM_Mod_outcomes X hP hD hS kw727 dX9_begin_38 (fun H locs hP hD hS => ?_)
        obtain ⟨s12, es12, hf⟩ := bd_e hf
        rw [← es12] at hP hD
        refine lv_aload_n hx hb dX9_begin_41 rfl (lv_at hl 0 rfl) ?_
        obtain ⟨r13, s14, h15, hf⟩ := bo_e hf
        refine callV_v X cv_X9_lay kw876 (c_X9_lay l D cA A ad ta s12  r13 s14 h15) ⟨by decide, by decide⟩ ⟨rfl, rfl⟩ hP hD hS (q0 := 0) (ci := 9) rfl rfl rfl rfl hl rfl (Nat.le_of_ble_eq_true rfl) dX9_begin_42 ⟨by decide, by decide⟩ (fun H locs hP hD hS => ?_)
        refine lv_iconst (v := 1) hx hb dX9_begin_45 (by decide) ?_
        obtain ⟨b16, hf⟩ := ck_e hf
        obtain ⟨rfl, rfl⟩ := Prod.mk.inj (Option.some.inj hf)
        exact ret_z X b16 hP hD hS dX9_begin_46
      · have hf := it_t c8 hf
        refine lv_iconst (v := 0) hx hb dX9_begin_19 (by decide) ?_
        obtain ⟨b17, hf⟩ := ck_e hf
        obtain ⟨rfl, rfl⟩ := Prod.mk.inj (Option.some.inj hf)
        exact ret_z X b17 hP hD hS dX9_begin_20
end S_X9_begin
theorem c_X9_begin (l : Launch) (D : va_G) (cA : ClassId) (A : Nat → Prop) (ad : Nat → Nat) (ta : Nat) (σ : St) (x1 x2 : Int32) (r : Int32) (σ' : St) (hf : F_X9_begin x1 x2 σ = some (r, σ')) : MI l D cA A (wM cA ad) yX9_begin cX9_begin 3 (some .boolean) rm_X9_begin [.ref (ad 0), .int x1, .int x2] ta σ r σ' 0 0 := by
  refine enter (by decide) (Nat.le_of_ble_eq_true rfl) ?_
  intro p e s m below meth c ls X hnm hP hD hS hl
  exact t_X9_begin_0 X hf hP hD hS hl
abbrev rm_X9_rule : Room := { frames := 1001, cells := 0, slots := 0, locals := 40020 }
def F_X9_rule_17  (σ : St) : Rs :=
  bd (sF σ 5 0) (fun s1 => some ((-1), s1))
def F_X9_rule_171  (σ : St) : Rs :=
  ck (inb (gF σ 4) 24) (bd (sA σ 9 (upd (gA σ 9) (gF σ 4).toNatClampNeg (gF σ 5))) (fun s2 => bd (sF s2 5 0) (fun s3 => bd (sF s3 4 ((gF s3 4) + 1)) (fun s4 => bd (sF s4 19 0) (fun s5 => bo (F_X9_lay  s5) (fun r6 s7 => some (((gF s7 4) - 1), s7)))))))
def F_X9_rule_146 (k111 : Int32 → Int32 → Int32 → Int32 → St → Rs) (k55 : Int32 → Int32 → St → Rs) (x2 : Int32) (x3 : Int32) (x5 : Int32) (z0 : Int32) (z1 : Int32) (σ : St) : Rs :=
  bd (z1 + z0) (fun y1 => k111 x2 x3 y1 (x5 + 1) σ)
def F_X9_rule_155 (k55 : Int32 → Int32 → St → Rs) (x2 : Int32) (x3 : Int32) (x5 : Int32) (σ : St) : Rs :=
  ck (inb (x2 + x3) 3840) (bd (sA σ 8 (upd (gA σ 8) (x2 + x3).toNatClampNeg x5)) (fun s2 => k55 x2 (x3 + 1) s2))
def F_X9_rule_111 (k55 : Int32 → Int32 → St → Rs) : Nat → Int32 → Int32 → Int32 → Int32 → St → Rs
  | 0, _, _, _, _, _ => none
  | n + 1, x2, x3, x4, x5, σ => if x4 ≤ 0 then (F_X9_rule_155 k55 x2 x3 x5 σ) else (ck (inb x5 160) (bd (gA σ 4 x5.toNatClampNeg) (fun y3 => if y3 < 0 then (F_X9_rule_146 (F_X9_rule_111 k55 n) k55 x2 x3 x5 (-1) x4 σ) else (ck (inb x5 160) (bd (gA σ 4 x5.toNatClampNeg) (fun y6 => ck (inb y6 60) (bd (gA σ 2 y6.toNatClampNeg) (fun y8 => F_X9_rule_146 (F_X9_rule_111 k55 n) k55 x2 x3 x5 (y8 - 1) x4 σ))))))))
def F_X9_rule_55  : Nat → Int32 → Int32 → St → Rs
  | 0, _, _, _ => none
  | n + 1, x2, x3, σ => if (gF σ 5) ≤ x3 then (F_X9_rule_171 σ) else (ck (inb x3 160) (bd (gA σ 4 x3.toNatClampNeg) (fun y3 => ck (inb (x2 + x3) 3840) (bd (sA σ 5 (upd (gA σ 5) (x2 + x3).toNatClampNeg y3)) (fun s5 => ck (inb x3 160) (bd (gA s5 13 x3.toNatClampNeg) (fun y7 => ck (inb (x2 + x3) 3840) (bd (sA s5 6 (upd (gA s5 6) (x2 + x3).toNatClampNeg y7)) (fun s9 => ck (inb x3 160) (bd (gA s9 14 x3.toNatClampNeg) (fun y11 => ck (inb (x2 + x3) 3840) (bd (sA s9 7 (upd (gA s9 7) (x2 + x3).toNatClampNeg y11)) (fun s13 => F_X9_rule_111 (F_X9_rule_55 n) 5000 x2 x3 1 x3 s13)))))))))))))
def F_X9_rule  (σ : St) : Rs :=
  if (gF σ 2) = (-1) then (F_X9_rule_17 σ) else (if (gF σ 4) = 24 then (F_X9_rule_17 σ) else (bo (F_X9_wrong 0 σ) (fun r3 s4 => if r3 < 0 then (bd (160 * (gF s4 4)) (fun y7 => F_X9_rule_55 5000 y7 0 s4)) else (bd (sF s4 5 0) (fun s8 => some (((-2) - r3), s8))))))
section S_X9_rule
variable {p : Program} {l : Launch} {e : Env} {s : State} {m : MethodId} {args : Array Value} {below : List Frame} {meth : Method} {c : Code}
variable {D : va_G} {cA : ClassId} {A : Nat → Prop} {ad : Nat → Nat} {r : Int32} {σ' : St} {ta : Nat}
set_option maxHeartbeats 4000000 in
set_option maxRecDepth 100000 in
theorem t_X9_rule_17  (X : Fx p s m meth c D cA A RX9 cX9_rule 6 (some .int))  { σ : St} {H : Heap} {locs : List Loc} {ls : Array Slot} (hf : F_X9_rule_17 σ = some (r, σ')) (hP : va_P D vwCl (wM cA ad ta σ) H) (hD : va_D A (wM cA ad ta σ)) (hS : va_S A s.heap H locs) (hl : lv_has ls 6 [(0, .ref (ad 0))]) : W p l e (rm_X9_rule) s m args below meth c H locs 0 0 (MQ below (QI D cA A (wM cA ad) r σ' ta) args s 0 0 A) (F0 m 17 ls []) := by
  obtain ⟨hx, hb, hr, hml, hown, hlk, hE, hK, hA⟩ := id X
  rw [F_X9_rule_17] at hf
  refine lv_aload_n hx hb dX9_rule_17 rfl (lv_at hl 0 rfl) ?_
  refine lv_iconst (v := 0) hx hb dX9_rule_18 (by decide) ?_
  refine pM_Mod_size X hP hD hS kw688 dX9_rule_19 (fun H locs hP hD hS => ?_)
  obtain ⟨s1, es1, hf⟩ := bd_e hf
  rw [← es1] at hP hD
  refine lv_iconst (v := -1) hx hb dX9_rule_22 (by decide) ?_
  obtain ⟨rfl, rfl⟩ := Prod.mk.inj (Option.some.inj hf)
  exact ret_i X hP hD hS dX9_rule_23
set_option maxHeartbeats 4000000 in
set_option maxRecDepth 100000 in
theorem t_X9_rule_171  (X : Fx p s m meth c D cA A RX9 cX9_rule 6 (some .int))  { σ : St} {H : Heap} {locs : List Loc} {ls : Array Slot} (hf : F_X9_rule_171 σ = some (r, σ')) (hP : va_P D vwCl (wM cA ad ta σ) H) (hD : va_D A (wM cA ad ta σ)) (hS : va_S A s.heap H locs) (hl : lv_has ls 6 [(0, .ref (ad 0))]) : W p l e (rm_X9_rule) s m args below meth c H locs 0 0 (MQ below (QI D cA A (wM cA ad) r σ' ta) args s 0 0 A) (F0 m 171 ls []) := by
  obtain ⟨hx, hb, hr, hml, hown, hlk, hE, hK, hA⟩ := id X
  rw [F_X9_rule_171] at hf
  refine lv_aload_n hx hb dX9_rule_171 rfl (lv_at hl 0 rfl) ?_
  refine gM_Mod_long0 X hP kw693 dX9_rule_172 ?_
  refine lv_aload_n hx hb dX9_rule_175 rfl (lv_at hl 0 rfl) ?_
  refine gM_Mod_rules X hP kw686 dX9_rule_176 ?_
  refine lv_aload_n hx hb dX9_rule_179 rfl (lv_at hl 0 rfl) ?_
  refine gM_Mod_size X hP kw688 dX9_rule_180 ?_
  obtain ⟨b1, hf⟩ := ck_e hf
  refine sM_long0 X hP hD hS b1 dX9_rule_183 (fun H locs hP hD hS => ?_)
  obtain ⟨s2, es2, hf⟩ := bd_e hf
  rw [← es2] at hP hD
  refine lv_aload_n hx hb dX9_rule_184 rfl (lv_at hl 0 rfl) ?_
  refine lv_iconst (v := 0) hx hb dX9_rule_185 (by decide) ?_
  refine pM_Mod_size X hP hD hS kw688 dX9_rule_186 (fun H locs hP hD hS => ?_)
  obtain ⟨s3, es3, hf⟩ := bd_e hf
  rw [← es3] at hP hD
  refine lv_aload_n hx hb dX9_rule_189 rfl (lv_at hl 0 rfl) ?_
  refine lv_dup hx hb dX9_rule_190 rfl ?_
  refine gM_Mod_rules X hP kw686 dX9_rule_191 ?_
  refine lv_iconst (v := 1) hx hb dX9_rule_194 (by decide) ?_
  refine lv_iadd hx hb dX9_rule_195 ?_
  refine pM_Mod_rules X hP hD hS kw686 dX9_rule_196 (fun H locs hP hD hS => ?_)
  obtain ⟨s4, es4, hf⟩ := bd_e hf
  rw [← es4] at hP hD
  refine lv_aload_n hx hb dX9_rule_199 rfl (lv_at hl 0 rfl) ?_
  refine lv_iconst (v := 0) hx hb dX9_rule_200 (by decide) ?_
  refine pM_Mod_outcomes X hP hD hS kw727 dX9_rule_201 (fun H locs hP hD hS => ?_)
  obtain ⟨s5, es5, hf⟩ := bd_e hf
  rw [← es5] at hP hD
  refine lv_aload_n hx hb dX9_rule_204 rfl (lv_at hl 0 rfl) ?_
  obtain ⟨r6, s7, h8, hf⟩ := bo_e hf
  refine callV_v X cv_X9_lay kw876 (c_X9_lay l D cA A ad ta s5  r6 s7 h8) ⟨by decide, by decide⟩ ⟨rfl, rfl⟩ hP hD hS (q0 := 0) (ci := 9) rfl rfl rfl rfl hl rfl (Nat.le_of_ble_eq_true rfl) dX9_rule_205 ⟨by decide, by decide⟩ (fun H locs hP hD hS => ?_)
  refine lv_aload_n hx hb dX9_rule_208 rfl (lv_at hl 0 rfl) ?_
  refine gM_Mod_rules X hP kw686 dX9_rule_209 ?_
  refine lv_iconst (v := 1) hx hb dX9_rule_212 (by decide) ?_
  refine lv_isub hx hb dX9_rule_213 ?_
  obtain ⟨rfl, rfl⟩ := Prod.mk.inj (Option.some.inj hf)
  exact ret_i X hP hD hS dX9_rule_214
set_option maxHeartbeats 4000000 in
set_option maxRecDepth 100000 in
theorem t_X9_rule_146 {k111 : Int32 → Int32 → Int32 → Int32 → St → Rs} {k55 : Int32 → Int32 → St → Rs} (X : Fx p s m meth c D cA A RX9 cX9_rule 6 (some .int)) (K111 : ∀ (x2 x3 x4 x5 : Int32) (σ : St) (H : Heap) (locs : List Loc) (ls : Array Slot), k111 x2 x3 x4 x5 σ = some (r, σ') → va_P D vwCl (wM cA ad ta σ) H → va_D A (wM cA ad ta σ) → va_S A s.heap H locs → lv_has ls 6 [(0, .ref (ad 0)), (2, .int x2), (3, .int x3), (4, .int x4), (5, .int x5)] → W p l e (rm_X9_rule) s m args below meth c H locs 0 0 (MQ below (QI D cA A (wM cA ad) r σ' ta) args s 0 0 A) (F0 m 111 ls [])) (K55 : ∀ (x2 x3 : Int32) (σ : St) (H : Heap) (locs : List Loc) (ls : Array Slot), k55 x2 x3 σ = some (r, σ') → va_P D vwCl (wM cA ad ta σ) H → va_D A (wM cA ad ta σ) → va_S A s.heap H locs → lv_has ls 6 [(0, .ref (ad 0)), (2, .int x2), (3, .int x3)] → W p l e (rm_X9_rule) s m args below meth c H locs 0 0 (MQ below (QI D cA A (wM cA ad) r σ' ta) args s 0 0 A) (F0 m 55 ls [])) {x2 x3 x5 z0 z1 : Int32} { σ : St} {H : Heap} {locs : List Loc} {ls : Array Slot} (hf : F_X9_rule_146 k111 k55 x2 x3 x5 z0 z1 σ = some (r, σ')) (hP : va_P D vwCl (wM cA ad ta σ) H) (hD : va_D A (wM cA ad ta σ)) (hS : va_S A s.heap H locs) (hl : lv_has ls 6 [(0, .ref (ad 0)), (2, .int x2), (3, .int x3), (5, .int x5)]) : W p l e (rm_X9_rule) s m args below meth c H locs 0 0 (MQ below (QI D cA A (wM cA ad) r σ' ta) args s 0 0 A) (F0 m 146 ls [.int z0, .int z1]) := by
  obtain ⟨hx, hb, hr, hml, hown, hlk, hE, hK, hA⟩ := id X
  rw [F_X9_rule_146] at hf
  refine lv_iadd hx hb dX9_rule_146 ?_
  refine lv_topi (fun y1 ey1 => ?_)
  have hf := bd_x ey1 hf
  refine lv_istore (lv' := [(4, .int y1), (0, .ref (ad 0)), (2, .int x2), (3, .int x3), (5, .int x5)]) hx hb dX9_rule_147 hl (by decide) rfl (fun ls hl => ?_)
  refine lv_iinc (v := (x5 + 1)) (lv' := [(5, .int (x5 + 1)), (4, .int y1), (0, .ref (ad 0)), (2, .int x2), (3, .int x3)]) hx hb dX9_rule_149 hl (k := 4) rfl rfl (by decide) rfl (fun ls hl => ?_)
  refine lv_goto (tgt := 111) hx hb dX9_rule_152 (by decide) ?_
  exact K111 x2 x3 y1 (x5 + 1) σ _ _ _ hf hP hD hS (lv_sub hl [2, 3, 4, 1, 0] rfl)
set_option maxHeartbeats 4000000 in
set_option maxRecDepth 100000 in
theorem t_X9_rule_155 {k55 : Int32 → Int32 → St → Rs} (X : Fx p s m meth c D cA A RX9 cX9_rule 6 (some .int)) (K55 : ∀ (x2 x3 : Int32) (σ : St) (H : Heap) (locs : List Loc) (ls : Array Slot), k55 x2 x3 σ = some (r, σ') → va_P D vwCl (wM cA ad ta σ) H → va_D A (wM cA ad ta σ) → va_S A s.heap H locs → lv_has ls 6 [(0, .ref (ad 0)), (2, .int x2), (3, .int x3)] → W p l e (rm_X9_rule) s m args below meth c H locs 0 0 (MQ below (QI D cA A (wM cA ad) r σ' ta) args s 0 0 A) (F0 m 55 ls [])) {x2 x3 x5 : Int32} { σ : St} {H : Heap} {locs : List Loc} {ls : Array Slot} (hf : F_X9_rule_155 k55 x2 x3 x5 σ = some (r, σ')) (hP : va_P D vwCl (wM cA ad ta σ) H) (hD : va_D A (wM cA ad ta σ)) (hS : va_S A s.heap H locs) (hl : lv_has ls 6 [(0, .ref (ad 0)), (2, .int x2), (3, .int x3), (5, .int x5)]) : W p l e (rm_X9_rule) s m args below meth c H locs 0 0 (MQ below (QI D cA A (wM cA ad) r σ' ta) args s 0 0 A) (F0 m 155 ls []) := by
  obtain ⟨hx, hb, hr, hml, hown, hlk, hE, hK, hA⟩ := id X
  rw [F_X9_rule_155] at hf
  refine lv_aload_n hx hb dX9_rule_155 rfl (lv_at hl 0 rfl) ?_
  refine gM_Mod_end X hP kw692 dX9_rule_156 ?_
  refine lv_iload_n hx hb dX9_rule_159 rfl (lv_at hl 1 rfl) ?_
  refine lv_iload_n hx hb dX9_rule_160 rfl (lv_at hl 2 rfl) ?_
  refine lv_iadd hx hb dX9_rule_161 ?_
  refine lv_iload hx hb dX9_rule_162 (lv_at hl 3 rfl) ?_
  obtain ⟨b1, hf⟩ := ck_e hf
  refine sM_end X hP hD hS b1 dX9_rule_164 (fun H locs hP hD hS => ?_)
  obtain ⟨s2, es2, hf⟩ := bd_e hf
  rw [← es2] at hP hD
  refine lv_iinc (v := (x3 + 1)) (lv' := [(3, .int (x3 + 1)), (0, .ref (ad 0)), (2, .int x2), (5, .int x5)]) hx hb dX9_rule_165 hl (k := 2) rfl rfl (by decide) rfl (fun ls hl => ?_)
  refine lv_goto (tgt := 55) hx hb dX9_rule_168 (by decide) ?_
  exact K55 x2 (x3 + 1) s2 _ _ _ hf hP hD hS (lv_sub hl [1, 2, 0] rfl)
set_option maxHeartbeats 4000000 in
set_option maxRecDepth 100000 in
theorem t_X9_rule_111 {k55 : Int32 → Int32 → St → Rs} (X : Fx p s m meth c D cA A RX9 cX9_rule 6 (some .int)) (K55 : ∀ (x2 x3 : Int32) (σ : St) (H : Heap) (locs : List Loc) (ls : Array Slot), k55 x2 x3 σ = some (r, σ') → va_P D vwCl (wM cA ad ta σ) H → va_D A (wM cA ad ta σ) → va_S A s.heap H locs → lv_has ls 6 [(0, .ref (ad 0)), (2, .int x2), (3, .int x3)] → W p l e (rm_X9_rule) s m args below meth c H locs 0 0 (MQ below (QI D cA A (wM cA ad) r σ' ta) args s 0 0 A) (F0 m 55 ls [])) : ∀ (n : Nat) (x2 x3 x4 x5 : Int32) (σ : St) (H : Heap) (locs : List Loc) (ls : Array Slot), F_X9_rule_111 k55 n x2 x3 x4 x5 σ = some (r, σ') → va_P D vwCl (wM cA ad ta σ) H → va_D A (wM cA ad ta σ) → va_S A s.heap H locs → lv_has ls 6 [(0, .ref (ad 0)), (2, .int x2), (3, .int x3), (4, .int x4), (5, .int x5)] → W p l e (rm_X9_rule) s m args below meth c H locs 0 0 (MQ below (QI D cA A (wM cA ad) r σ' ta) args s 0 0 A) (F0 m 111 ls []) := by
  obtain ⟨hx, hb, hr, hml, hown, hlk, hE, hK, hA⟩ := id X
  intro n
  induction n with
  | zero =>
    intro x2 x3 x4 x5 σ H locs ls hf
    cases (show (none : Rs) = some _ from hf)
  | succ n ih =>
    intro x2 x3 x4 x5 σ H locs ls hf hP hD hS hl
    rw [F_X9_rule_111] at hf
    refine lv_iload hx hb dX9_rule_111 (lv_at hl 3 rfl) ?_
    refine lv_if_le (tgt := 155) hx hb dX9_rule_113 (by decide) (fun c1 => ?_) (fun c1 => ?_)
    · have hf := it_t c1 hf
      exact t_X9_rule_155 X K55 hf hP hD hS (lv_sub hl [0, 1, 2, 4] rfl)
    · have hf := it_f c1 hf
      refine lv_iload hx hb dX9_rule_116 (lv_at hl 3 rfl) ?_
      refine lv_aload_n hx hb dX9_rule_118 rfl (lv_at hl 0 rfl) ?_
      refine gM_Mod_row X hP kw687 dX9_rule_119 ?_
      refine lv_iload hx hb dX9_rule_122 (lv_at hl 4 rfl) ?_
      obtain ⟨b2, hf⟩ := ck_e hf
      refine lM_row X hP b2 dX9_rule_124 ?_
      refine lv_topi (fun y3 ey3 => ?_)
      have hf := bd_x ey3 hf
      refine lv_if_lt (tgt := 145) hx hb dX9_rule_125 (by decide) (fun c4 => ?_) (fun c4 => ?_)
      · have hf := it_t c4 hf
        refine lv_iconst (v := -1) hx hb dX9_rule_145 (by decide) ?_
        exact t_X9_rule_146 X ih K55 hf hP hD hS (lv_sub hl [0, 1, 2, 4] rfl)
      · have hf := it_f c4 hf
        refine lv_aload_n hx hb dX9_rule_128 rfl (lv_at hl 0 rfl) ?_
        refine gM_Mod_arity X hP kw682 dX9_rule_129 ?_
        refine lv_aload_n hx hb dX9_rule_132 rfl (lv_at hl 0 rfl) ?_
        refine gM_Mod_row X hP kw687 dX9_rule_133 ?_
        refine lv_iload hx hb dX9_rule_136 (lv_at hl 4 rfl) ?_
        obtain ⟨b5, hf⟩ := ck_e hf
        refine lM_row X hP b5 dX9_rule_138 ?_
        refine lv_topi (fun y6 ey6 => ?_)
        have hf := bd_x ey6 hf
        obtain ⟨b7, hf⟩ := ck_e hf
        refine lM_arity X hP b7 dX9_rule_139 ?_
        refine lv_topi (fun y8 ey8 => ?_)
        have hf := bd_x ey8 hf
        refine lv_iconst (v := 1) hx hb dX9_rule_140 (by decide) ?_
        refine lv_isub hx hb dX9_rule_141 ?_
        refine lv_goto (tgt := 146) hx hb dX9_rule_142 (by decide) ?_
        exact t_X9_rule_146 X ih K55 hf hP hD hS (lv_sub hl [0, 1, 2, 4] rfl)
set_option maxHeartbeats 4000000 in
set_option maxRecDepth 100000 in
theorem t_X9_rule_55  (X : Fx p s m meth c D cA A RX9 cX9_rule 6 (some .int))  : ∀ (n : Nat) (x2 x3 : Int32) (σ : St) (H : Heap) (locs : List Loc) (ls : Array Slot), F_X9_rule_55 n x2 x3 σ = some (r, σ') → va_P D vwCl (wM cA ad ta σ) H → va_D A (wM cA ad ta σ) → va_S A s.heap H locs → lv_has ls 6 [(0, .ref (ad 0)), (2, .int x2), (3, .int x3)] → W p l e (rm_X9_rule) s m args below meth c H locs 0 0 (MQ below (QI D cA A (wM cA ad) r σ' ta) args s 0 0 A) (F0 m 55 ls []) := by
  obtain ⟨hx, hb, hr, hml, hown, hlk, hE, hK, hA⟩ := id X
  intro n
  induction n with
  | zero =>
    intro x2 x3 σ H locs ls hf
    cases (show (none : Rs) = some _ from hf)
  | succ n ih =>
    intro x2 x3 σ H locs ls hf hP hD hS hl
    rw [F_X9_rule_55] at hf
    refine lv_iload_n hx hb dX9_rule_55 rfl (lv_at hl 2 rfl) ?_
    refine lv_aload_n hx hb dX9_rule_56 rfl (lv_at hl 0 rfl) ?_
    refine gM_Mod_size X hP kw688 dX9_rule_57 ?_
    refine lv_icmp_ge (tgt := 171) hx hb dX9_rule_60 (by decide) (fun c1 => ?_) (fun c1 => ?_)
    · have hf := it_t c1 hf
      exact t_X9_rule_171 X  hf hP hD hS (lv_sub hl [0] rfl)
    · have hf := it_f c1 hf
      refine lv_aload_n hx hb dX9_rule_63 rfl (lv_at hl 0 rfl) ?_
      refine gM_Mod_rule X hP kw689 dX9_rule_64 ?_
      refine lv_iload_n hx hb dX9_rule_67 rfl (lv_at hl 1 rfl) ?_
      refine lv_iload_n hx hb dX9_rule_68 rfl (lv_at hl 2 rfl) ?_
      refine lv_iadd hx hb dX9_rule_69 ?_
      refine lv_aload_n hx hb dX9_rule_70 rfl (lv_at hl 0 rfl) ?_
      refine gM_Mod_row X hP kw687 dX9_rule_71 ?_
      refine lv_iload_n hx hb dX9_rule_74 rfl (lv_at hl 2 rfl) ?_
      obtain ⟨b2, hf⟩ := ck_e hf
      refine lM_row X hP b2 dX9_rule_75 ?_
      refine lv_topi (fun y3 ey3 => ?_)
      have hf := bd_x ey3 hf
      obtain ⟨b4, hf⟩ := ck_e hf
      refine sM_rule X hP hD hS b4 dX9_rule_76 (fun H locs hP hD hS => ?_)
      obtain ⟨s5, es5, hf⟩ := bd_e hf
      rw [← es5] at hP hD
      refine lv_aload_n hx hb dX9_rule_77 rfl (lv_at hl 0 rfl) ?_
      refine gM_Mod_up X hP kw690 dX9_rule_78 ?_
      refine lv_iload_n hx hb dX9_rule_81 rfl (lv_at hl 1 rfl) ?_
      refine lv_iload_n hx hb dX9_rule_82 rfl (lv_at hl 2 rfl) ?_
      refine lv_iadd hx hb dX9_rule_83 ?_
      refine lv_aload_n hx hb dX9_rule_84 rfl (lv_at hl 0 rfl) ?_
      refine gM_Mod_in X hP kw698 dX9_rule_85 ?_
      refine lv_iload_n hx hb dX9_rule_88 rfl (lv_at hl 2 rfl) ?_
      obtain ⟨b6, hf⟩ := ck_e hf
      refine lM_in X hP b6 dX9_rule_89 ?_
      refine lv_topi (fun y7 ey7 => ?_)
      have hf := bd_x ey7 hf
      obtain ⟨b8, hf⟩ := ck_e hf
      refine sM_up X hP hD hS b8 dX9_rule_90 (fun H locs hP hD hS => ?_)
      obtain ⟨s9, es9, hf⟩ := bd_e hf
      rw [← es9] at hP hD
      refine lv_aload_n hx hb dX9_rule_91 rfl (lv_at hl 0 rfl) ?_
      refine gM_Mod_at X hP kw691 dX9_rule_92 ?_
      refine lv_iload_n hx hb dX9_rule_95 rfl (lv_at hl 1 rfl) ?_
      refine lv_iload_n hx hb dX9_rule_96 rfl (lv_at hl 2 rfl) ?_
      refine lv_iadd hx hb dX9_rule_97 ?_
      refine lv_aload_n hx hb dX9_rule_98 rfl (lv_at hl 0 rfl) ?_
      refine gM_Mod_as X hP kw699 dX9_rule_99 ?_
      refine lv_iload_n hx hb dX9_rule_102 rfl (lv_at hl 2 rfl) ?_
      obtain ⟨b10, hf⟩ := ck_e hf
      refine lM_as X hP b10 dX9_rule_103 ?_
      refine lv_topi (fun y11 ey11 => ?_)
      have hf := bd_x ey11 hf
      obtain ⟨b12, hf⟩ := ck_e hf
      refine sM_at X hP hD hS b12 dX9_rule_104 (fun H locs hP hD hS => ?_)
      obtain ⟨s13, es13, hf⟩ := bd_e hf
      rw [← es13] at hP hD
      refine lv_iconst (v := 1) hx hb dX9_rule_105 (by decide) ?_
      refine lv_istore (lv' := [(4, .int 1), (0, .ref (ad 0)), (2, .int x2), (3, .int x3)]) hx hb dX9_rule_106 hl (by decide) rfl (fun ls hl => ?_)
      refine lv_iload_n hx hb dX9_rule_108 rfl (lv_at hl 3 rfl) ?_
      refine lv_istore (lv' := [(5, .int x3), (4, .int 1), (0, .ref (ad 0)), (2, .int x2), (3, .int x3)]) hx hb dX9_rule_109 hl (by decide) rfl (fun ls hl => ?_)
      exact t_X9_rule_111 X ih 5000 x2 x3 1 x3 s13 _ _ _ hf hP hD hS (lv_sub hl [2, 3, 4, 1, 0] rfl)
set_option maxHeartbeats 4000000 in
set_option maxRecDepth 100000 in
theorem t_X9_rule_0  (X : Fx p s m meth c D cA A RX9 cX9_rule 6 (some .int))  { σ : St} {H : Heap} {locs : List Loc} {ls : Array Slot} (hf : F_X9_rule σ = some (r, σ')) (hP : va_P D vwCl (wM cA ad ta σ) H) (hD : va_D A (wM cA ad ta σ)) (hS : va_S A s.heap H locs) (hl : lv_has ls 6 [(0, .ref (ad 0))]) : W p l e (rm_X9_rule) s m args below meth c H locs 0 0 (MQ below (QI D cA A (wM cA ad) r σ' ta) args s 0 0 A) (F0 m 0 ls []) := by
  obtain ⟨hx, hb, hr, hml, hown, hlk, hE, hK, hA⟩ := id X
  rw [F_X9_rule] at hf
  refine lv_aload_n hx hb dX9_rule_0 rfl (lv_at hl 0 rfl) ?_
  refine gM_Mod_args X hP kw684 dX9_rule_1 ?_
  refine lv_iconst (v := -1) hx hb dX9_rule_4 (by decide) ?_
  refine lv_icmp_eq (tgt := 17) hx hb dX9_rule_5 (by decide) (fun c1 => ?_) (fun c1 => ?_)
  · have hf := it_t c1 hf
    exact t_X9_rule_17 X  hf hP hD hS (lv_sub hl [0] rfl)
  · have hf := it_f c1 hf
    refine lv_aload_n hx hb dX9_rule_8 rfl (lv_at hl 0 rfl) ?_
    refine gM_Mod_rules X hP kw686 dX9_rule_9 ?_
    refine lv_bipush (v := 24) hx hb dX9_rule_12 (by decide) ?_
    refine lv_icmp_ne (tgt := 24) hx hb dX9_rule_14 (by decide) (fun c2 => ?_) (fun c2 => ?_)
    · have hf := it_f c2 hf
      refine lv_aload_n hx hb dX9_rule_24 rfl (lv_at hl 0 rfl) ?_
      refine lv_iconst (v := 0) hx hb dX9_rule_25 (by decide) ?_
      obtain ⟨r3, s4, h5, hf⟩ := bo_e hf
      refine callV_i X cv_X9_wrong kw924 (c_X9_wrong l D cA A ad ta σ 0 r3 s4 h5) ⟨by decide, by decide⟩ ⟨rfl, rfl⟩ hP hD hS (q0 := 0) (ci := 9) rfl rfl rfl rfl hl rfl (Nat.le_of_ble_eq_true rfl) dX9_rule_26 ⟨by decide, by decide⟩ (fun H locs hP hD hS => ?_)
      refine lv_istore_n (lv' := [(1, .int r3), (0, .ref (ad 0))]) hx hb dX9_rule_29 rfl hl (by decide) rfl (fun ls hl => ?_)
      refine lv_iload_n hx hb dX9_rule_30 rfl (lv_at hl 0 rfl) ?_
      refine lv_if_lt (tgt := 44) hx hb dX9_rule_31 (by decide) (fun c6 => ?_) (fun c6 => ?_)
      · have hf := it_t c6 hf
        refine lv_sipush (v := 160) hx hb dX9_rule_44 (by decide) ?_
        refine lv_aload_n hx hb dX9_rule_47 rfl (lv_at hl 1 rfl) ?_
        refine gM_Mod_rules X hP kw686 dX9_rule_48 ?_
        refine lv_imul hx hb dX9_rule_51 ?_
        refine lv_topi (fun y7 ey7 => ?_)
        have hf := bd_x ey7 hf
        refine lv_istore_n (lv' := [(2, .int y7), (1, .int r3), (0, .ref (ad 0))]) hx hb dX9_rule_52 rfl hl (by decide) rfl (fun ls hl => ?_)
        refine lv_iconst (v := 0) hx hb dX9_rule_53 (by decide) ?_
        refine lv_istore_n (lv' := [(3, .int 0), (2, .int y7), (1, .int r3), (0, .ref (ad 0))]) hx hb dX9_rule_54 rfl hl (by decide) rfl (fun ls hl => ?_)
        exact t_X9_rule_55 X  5000 y7 0 s4 _ _ _ hf hP hD hS (lv_sub hl [3, 1, 0] rfl)
      · have hf := it_f c6 hf
        refine lv_aload_n hx hb dX9_rule_34 rfl (lv_at hl 1 rfl) ?_
        refine lv_iconst (v := 0) hx hb dX9_rule_35 (by decide) ?_
        refine pM_Mod_size X hP hD hS kw688 dX9_rule_36 (fun H locs hP hD hS => ?_)
        obtain ⟨s8, es8, hf⟩ := bd_e hf
        rw [← es8] at hP hD
        refine lv_bipush (v := -2) hx hb dX9_rule_39 (by decide) ?_
        refine lv_iload_n hx hb dX9_rule_41 rfl (lv_at hl 0 rfl) ?_
        refine lv_isub hx hb dX9_rule_42 ?_
        obtain ⟨rfl, rfl⟩ := Prod.mk.inj (Option.some.inj hf)
        exact ret_i X hP hD hS dX9_rule_43
    · have hf := it_t c2 hf
      exact t_X9_rule_17 X  hf hP hD hS (lv_sub hl [0] rfl)
end S_X9_rule
theorem c_X9_rule (l : Launch) (D : va_G) (cA : ClassId) (A : Nat → Prop) (ad : Nat → Nat) (ta : Nat) (σ : St) (r : Int32) (σ' : St) (hf : F_X9_rule σ = some (r, σ')) : MI l D cA A (wM cA ad) yX9_rule cX9_rule 6 (some .int) rm_X9_rule [.ref (ad 0)] ta σ r σ' 0 0 := by
  refine enter (by decide) (Nat.le_of_ble_eq_true rfl) ?_
  intro p e s m below meth c ls X hnm hP hD hS hl
  exact t_X9_rule_0 X hf hP hD hS hl
abbrev rm_X9_covers : Room := { frames := 1001, cells := 0, slots := 0, locals := 40020 }
def F_X9_covers  (σ : St) : Rs :=
  bo (F_X9_lay  σ) (fun r1 s2 => ck (isB (gF s2 14)) (some ((gF s2 14), s2)))
section S_X9_covers
variable {p : Program} {l : Launch} {e : Env} {s : State} {m : MethodId} {args : Array Value} {below : List Frame} {meth : Method} {c : Code}
variable {D : va_G} {cA : ClassId} {A : Nat → Prop} {ad : Nat → Nat} {r : Int32} {σ' : St} {ta : Nat}
set_option maxHeartbeats 4000000 in
set_option maxRecDepth 100000 in
theorem t_X9_covers_0  (X : Fx p s m meth c D cA A RX9 cX9_covers 1 (some .boolean))  { σ : St} {H : Heap} {locs : List Loc} {ls : Array Slot} (hf : F_X9_covers σ = some (r, σ')) (hP : va_P D vwCl (wM cA ad ta σ) H) (hD : va_D A (wM cA ad ta σ)) (hS : va_S A s.heap H locs) (hl : lv_has ls 1 [(0, .ref (ad 0))]) : W p l e (rm_X9_covers) s m args below meth c H locs 0 0 (MQ below (QI D cA A (wM cA ad) r σ' ta) args s 0 0 A) (F0 m 0 ls []) := by
  obtain ⟨hx, hb, hr, hml, hown, hlk, hE, hK, hA⟩ := id X
  rw [F_X9_covers] at hf
  refine lv_aload_n hx hb dX9_covers_0 rfl (lv_at hl 0 rfl) ?_
  obtain ⟨r1, s2, h3, hf⟩ := bo_e hf
  refine callV_v X cv_X9_lay kw876 (c_X9_lay l D cA A ad ta σ  r1 s2 h3) ⟨by decide, by decide⟩ ⟨rfl, rfl⟩ hP hD hS (q0 := 0) (ci := 9) rfl rfl rfl rfl hl rfl (Nat.le_of_ble_eq_true rfl) dX9_covers_1 ⟨by decide, by decide⟩ (fun H locs hP hD hS => ?_)
  refine lv_aload_n hx hb dX9_covers_4 rfl (lv_at hl 0 rfl) ?_
  refine gM_Mod_all X hP kw711 dX9_covers_5 ?_
  obtain ⟨b4, hf⟩ := ck_e hf
  obtain ⟨rfl, rfl⟩ := Prod.mk.inj (Option.some.inj hf)
  exact ret_z X b4 hP hD hS dX9_covers_8
end S_X9_covers
theorem c_X9_covers (l : Launch) (D : va_G) (cA : ClassId) (A : Nat → Prop) (ad : Nat → Nat) (ta : Nat) (σ : St) (r : Int32) (σ' : St) (hf : F_X9_covers σ = some (r, σ')) : MI l D cA A (wM cA ad) yX9_covers cX9_covers 1 (some .boolean) rm_X9_covers [.ref (ad 0)] ta σ r σ' 0 0 := by
  refine enter (by decide) (Nat.le_of_ble_eq_true rfl) ?_
  intro p e s m below meth c ls X hnm hP hD hS hl
  exact t_X9_covers_0 X hf hP hD hS hl
