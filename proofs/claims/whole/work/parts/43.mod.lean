abbrev rm_X9_led (d : Nat) : Room := { frames := 2 + d, cells := 0, slots := 0, locals := 48 + 32 * d }
def F_X9_led_57 (rc : Int32 → Int32 → St → Rs) : Nat → Int32 → Int32 → Int32 → Int32 → Int32 → St → Rs
  | 0, _, _, _, _, _, _ => none
  | n + 1, x1, x2, x3, x4, x5, σ => if x2 ≤ x5 then (some (0, σ)) else (bo (F_X9_run (x1 + x5) (x2 - x5) (x3 - 170) σ) (fun r2 s3 => bo (rc x4 r2 s3) (fun r5 s6 => bd (sF s6 8 x4) (fun s8 => bd (x5 + r2) (fun y9 => F_X9_led_57 rc n x1 x2 x3 x4 y9 s8)))))
def F_X9_led_21 (rc : Int32 → Int32 → St → Rs) : Nat → Int32 → Int32 → Int32 → St → Rs
  | 0, _, _, _, _ => none
  | n + 1, x1, x2, x5, σ => if (x1 + x2) ≤ x5 then (some (0, σ)) else (ck (inb x5 4800) (bd (gA σ 17 x5.toNatClampNeg) (fun y3 => bo (F_X9_comes y3 σ) (fun r4 s5 => F_X9_led_21 rc n x1 x2 (x5 + 1) s5))))
def F_X9_led_398 (rc : Int32 → Int32 → St → Rs) (k183 : Int32 → Int32 → Int32 → Int32 → Int32 → Int32 → Int32 → St → Rs) (x1 : Int32) (x2 : Int32) (x3 : Int32) (x4 : Int32) (x5 : Int32) (x6 : Int32) (x7 : Int32) (σ : St) : Rs :=
  k183 x1 x2 x3 x4 x5 x6 (x7 + 1) σ
def F_X9_led_386 (rc : Int32 → Int32 → St → Rs) (k183 : Int32 → Int32 → Int32 → Int32 → Int32 → Int32 → Int32 → St → Rs) (x1 : Int32) (x2 : Int32) (x3 : Int32) (x4 : Int32) (x5 : Int32) (x6 : Int32) (x7 : Int32) (x9 : Int32) (x10 : Int32) (σ : St) : Rs :=
  bd (sF σ 15 x9) (fun s1 => bd (sF s1 16 x10) (fun s2 => F_X9_led_398 rc k183 x1 x2 x3 x4 x5 x6 x7 s2))
def F_X9_led_279 (rc : Int32 → Int32 → St → Rs) (k183 : Int32 → Int32 → Int32 → Int32 → Int32 → Int32 → Int32 → St → Rs) (x1 : Int32) (x2 : Int32) (x3 : Int32) (x4 : Int32) (x5 : Int32) (x6 : Int32) (x7 : Int32) (x8 : Int32) (x9 : Int32) (x10 : Int32) (x11 : Int32) (σ : St) : Rs :=
  ck (inb x3 170) (bd (gA σ 29 x3.toNatClampNeg) (fun y2 => ck (inb x7 60) (bd (gA σ 2 x7.toNatClampNeg) (fun y4 => bo (F_X9_take x4 x8 x3 y4 σ) (fun r5 s6 => ck (inb x7 60) (bd (gA s6 2 x7.toNatClampNeg) (fun y9 => ck (inb x11 1200) (bd (gA s6 27 x11.toNatClampNeg) (fun y11 => bo (F_X9_shift x3 y9 y11 s6) (fun r12 s13 => bo (rc x4 x8 s13) (fun r15 s16 => ck (inb x7 60) (bd (gA s16 2 x7.toNatClampNeg) (fun y19 => bo (F_X9_putBack x4 x8 x3 y19 s16) (fun r20 s21 => ck (inb x7 60) (bd (gA s21 2 x7.toNatClampNeg) (fun y24 => bo (F_X9_shiftBack x3 y24 y2 s21) (fun r25 s26 => bd (sF s26 8 x4) (fun s28 => if x6 = 0 then (F_X9_led_386 rc k183 x1 x2 x3 x4 x5 x6 x7 x9 x10 s28) else (ck (inb x5 1200) (bd (gA s28 26 x5.toNatClampNeg) (fun y31 => ck (inb ((-1) - y31) 800) (bd (sA s28 28 (upd (gA s28 28) ((-1) - y31).toNatClampNeg (-1))) (fun s33 => F_X9_led_386 rc k183 x1 x2 x3 x4 x5 x6 x7 x9 x10 s33)))))))))))))))))))))))
def F_X9_led_256 (rc : Int32 → Int32 → St → Rs) (k183 : Int32 → Int32 → Int32 → Int32 → Int32 → Int32 → Int32 → St → Rs) (x1 : Int32) (x2 : Int32) (x3 : Int32) (x4 : Int32) (x5 : Int32) (x6 : Int32) (x7 : Int32) (x8 : Int32) (x9 : Int32) (x10 : Int32) (z0 : Int32) (σ : St) : Rs :=
  if x6 = 0 then (F_X9_led_279 rc k183 x1 x2 x3 x4 x5 x6 x7 x8 x9 x10 z0 σ) else (ck (inb x5 1200) (bd (gA σ 26 x5.toNatClampNeg) (fun y3 => ck (inb ((-1) - y3) 800) (bd (sA σ 28 (upd (gA σ 28) ((-1) - y3).toNatClampNeg z0)) (fun s5 => F_X9_led_279 rc k183 x1 x2 x3 x4 x5 x6 x7 x8 x9 x10 z0 s5)))))
def F_X9_led_429 (rc : Int32 → Int32 → St → Rs) (z0 : Int32) (z1 : Int32) (σ : St) : Rs :=
  bd (sF σ 18 (z1 - z0)) (fun s1 => some (0, s1))
def F_X9_led_404 (rc : Int32 → Int32 → St → Rs) (x6 : Int32) (σ : St) : Rs :=
  bd (sF σ 17 ((gF σ 17) - 1)) (fun s1 => if x6 = 0 then (F_X9_led_429 rc 0 (gF s1 18) s1) else (F_X9_led_429 rc 1 (gF s1 18) s1))
def F_X9_led_206 (rc : Int32 → Int32 → St → Rs) (k183 : Int32 → Int32 → Int32 → Int32 → Int32 → Int32 → Int32 → St → Rs) (x1 : Int32) (x2 : Int32) (x3 : Int32) (x4 : Int32) (x5 : Int32) (x6 : Int32) (x7 : Int32) (z0 : Int32) (z1 : Int32) (σ : St) : Rs :=
  if z0 ≤ z1 then (F_X9_led_404 rc x6 σ) else (bo (F_X9_those x1 x2 x3 x7 σ) (fun r2 s3 => if r2 = 0 then (F_X9_led_398 rc k183 x1 x2 x3 x4 x5 x6 x7 s3) else (bd (gF s3 15) (fun y6 => bd (gF s3 16) (fun y7 => if x6 = 0 then (F_X9_led_256 rc k183 x1 x2 x3 x4 x5 x6 x7 r2 y6 y7 x5 s3) else (bo (F_X9_grown x7 s3) (fun r9 s10 => F_X9_led_256 rc k183 x1 x2 x3 x4 x5 x6 x7 r2 y6 y7 r9 s10)))))))
def F_X9_led_183 (rc : Int32 → Int32 → St → Rs) : Nat → Int32 → Int32 → Int32 → Int32 → Int32 → Int32 → Int32 → St → Rs
  | 0, _, _, _, _, _, _, _, _ => none
  | n + 1, x1, x2, x3, x4, x5, x6, x7, σ => if x6 = 0 then (ck (inb x5 1200) (bd (gA σ 26 x5.toNatClampNeg) (fun y3 => F_X9_led_206 rc (F_X9_led_183 rc n) x1 x2 x3 x4 x5 x6 x7 (y3 + 1) x7 σ))) else (F_X9_led_206 rc (F_X9_led_183 rc n) x1 x2 x3 x4 x5 x6 x7 (gF σ 1) x7 σ)
def F_X9_led_181 (rc : Int32 → Int32 → St → Rs) (x1 : Int32) (x2 : Int32) (x3 : Int32) (x4 : Int32) (x5 : Int32) (x6 : Int32) (z0 : Int32) (σ : St) : Rs :=
  F_X9_led_183 rc 5000 x1 x2 x3 x4 x5 x6 z0 σ
def F_X9_led_161 (rc : Int32 → Int32 → St → Rs) (x1 : Int32) (x2 : Int32) (x3 : Int32) (x4 : Int32) (x5 : Int32) (x6 : Int32) (z0 : Int32) (z1 : Int32) (σ : St) : Rs :=
  bd (sF σ 18 (z1 + z0)) (fun s1 => if x6 = 0 then (ck (inb x5 1200) (bd (gA s1 26 x5.toNatClampNeg) (fun y4 => F_X9_led_181 rc x1 x2 x3 x4 x5 x6 y4 s1))) else (F_X9_led_181 rc x1 x2 x3 x4 x5 x6 0 s1))
def F_X9_led_134 (rc : Int32 → Int32 → St → Rs) (x1 : Int32) (x2 : Int32) (x3 : Int32) (x4 : Int32) (x5 : Int32) (z0 : Int32) (σ : St) : Rs :=
  bd (sF σ 17 ((gF σ 17) + 1)) (fun s1 => if z0 = 0 then (F_X9_led_161 rc x1 x2 x3 x4 x5 z0 0 (gF s1 18) s1) else (F_X9_led_161 rc x1 x2 x3 x4 x5 z0 1 (gF s1 18) s1))
def F_X9_ledb (rc : Int32 → Int32 → St → Rs) (x1 : Int32) (x2 : Int32) (σ : St) : Rs :=
  bo (F_X9_needed x1 x2 σ) (fun r1 s2 => bd (gF s2 8) (fun y4 => if r1 = (-1) then (F_X9_led_21 rc 5000 x1 x2 x1 s2) else (if r1 < 170 then (ck (inb r1 170) (bd (gA s2 29 r1.toNatClampNeg) (fun y8 => bo (F_X9_here y8 s2) (fun r9 s10 => ck (inb r9 1200) (bd (gA s10 26 r9.toNatClampNeg) (fun y13 => if 0 ≤ y13 then (F_X9_led_134 rc x1 x2 r1 y4 r9 0 s10) else (F_X9_led_134 rc x1 x2 r1 y4 r9 1 s10))))))) else (F_X9_led_57 rc 5000 x1 x2 r1 y4 0 s2))))
def F_X9_led : Nat → Int32 → Int32 → St → Rs
  | 0, _, _, _ => none
  | d + 1, x1, x2, σ => F_X9_ledb (F_X9_led d) x1 x2 σ
section S_X9_led
variable {p : Program} {l : Launch} {e : Env} {s : State} {m : MethodId} {args : Array Value} {below : List Frame} {meth : Method} {c : Code}
variable {D : va_G} {cA : ClassId} {A : Nat → Prop} {ad : Nat → Nat} {r : Int32} {σ' : St} {ta : Nat} {dd : Nat}
set_option maxHeartbeats 4000000 in
set_option maxRecDepth 100000 in
theorem t_X9_led_57 {rc : Int32 → Int32 → St → Rs} (X : Fx p s m meth c D cA A RX9 cX9_led 13 none) (HR : ∀ (σ : St) (x1 x2 : Int32) (r : Int32) (σ' : St), rc x1 x2 σ = some (r, σ') → MV l D cA A (wM cA ad) yX9_led cX9_led 13 none (rm_X9_led dd) [.ref (ad 0), .int x1, .int x2] ta σ σ' 0 0) : ∀ (n : Nat) (x1 x2 x3 x4 x5 : Int32) (σ : St) (H : Heap) (locs : List Loc) (ls : Array Slot), F_X9_led_57 rc n x1 x2 x3 x4 x5 σ = some (r, σ') → va_P D vwCl (wM cA ad ta σ) H → va_D A (wM cA ad ta σ) → va_S A s.heap H locs → lv_has ls 13 [(0, .ref (ad 0)), (1, .int x1), (2, .int x2), (3, .int x3), (4, .int x4), (5, .int x5)] → W p l e (rm_X9_led (dd + 1)) s m args below meth c H locs 0 0 (MQ below (QV D cA A (wM cA ad) σ' ta) args s 0 0 A) (F0 m 57 ls []) := by
  obtain ⟨hx, hb, hr, hml, hown, hlk, hE, hK, hA⟩ := id X
  intro n
  induction n with
  | zero =>
    intro x1 x2 x3 x4 x5 σ H locs ls hf
    cases (show (none : Rs) = some _ from hf)
  | succ n ih =>
    intro x1 x2 x3 x4 x5 σ H locs ls hf hP hD hS hl
    rw [F_X9_led_57] at hf
    refine lv_iload hx hb dX9_led_57 (lv_at hl 5 rfl) ?_
    refine lv_iload_n hx hb dX9_led_59 rfl (lv_at hl 2 rfl) ?_
    refine lv_icmp_ge (tgt := 106) hx hb dX9_led_60 (by decide) (fun c1 => ?_) (fun c1 => ?_)
    · have hf := it_t c1 hf
      obtain ⟨rfl, rfl⟩ := Prod.mk.inj (Option.some.inj hf)
      exact ret_v X hP hD hS dX9_led_106
    · have hf := it_f c1 hf
      refine lv_aload_n hx hb dX9_led_63 rfl (lv_at hl 0 rfl) ?_
      refine lv_iload_n hx hb dX9_led_64 rfl (lv_at hl 1 rfl) ?_
      refine lv_iload hx hb dX9_led_65 (lv_at hl 5 rfl) ?_
      refine lv_iadd hx hb dX9_led_67 ?_
      refine lv_iload_n hx hb dX9_led_68 rfl (lv_at hl 2 rfl) ?_
      refine lv_iload hx hb dX9_led_69 (lv_at hl 5 rfl) ?_
      refine lv_isub hx hb dX9_led_71 ?_
      refine lv_iload_n hx hb dX9_led_72 rfl (lv_at hl 3 rfl) ?_
      refine lv_sipush (v := 170) hx hb dX9_led_73 (by decide) ?_
      refine lv_isub hx hb dX9_led_76 ?_
      obtain ⟨r2, s3, h4, hf⟩ := bo_e hf
      refine callV_i X cv_X9_run kw912 (c_X9_run l D cA A ad ta σ (x1 + x5) (x2 - x5) (x3 - 170) r2 s3 h4) ⟨by dsimp only [rm_X9_led, rm_X9_run]; omega, by dsimp only [rm_X9_led, rm_X9_run]; omega⟩ ⟨rfl, rfl⟩ hP hD hS (q0 := 0) (ci := 9) rfl rfl rfl rfl hl rfl (Nat.le_of_ble_eq_true rfl) dX9_led_77 ⟨Nat.le_of_ble_eq_true rfl, Nat.le_of_ble_eq_true rfl⟩ (fun H locs hP hD hS => ?_)
      refine lv_istore (lv' := [(6, .int r2), (0, .ref (ad 0)), (1, .int x1), (2, .int x2), (3, .int x3), (4, .int x4), (5, .int x5)]) hx hb dX9_led_80 hl (by decide) rfl (fun ls hl => ?_)
      refine lv_aload_n hx hb dX9_led_82 rfl (lv_at hl 1 rfl) ?_
      refine lv_iload hx hb dX9_led_83 (lv_at hl 5 rfl) ?_
      refine lv_iload hx hb dX9_led_85 (lv_at hl 0 rfl) ?_
      obtain ⟨r5, s6, h7, hf⟩ := bo_e hf
      refine callS_v X cs_X9_led kw952 (HR s3 x4 r2 r5 s6 h7) ⟨by dsimp only [rm_X9_led, rm_X9_led]; omega, by dsimp only [rm_X9_led, rm_X9_led]; omega⟩ ⟨rfl, rfl⟩ hP hD hS rfl hl rfl (Nat.le_of_ble_eq_true rfl) dX9_led_87 ⟨Nat.le_of_ble_eq_true rfl, Nat.le_of_ble_eq_true rfl⟩ (fun H locs hP hD hS => ?_)
      refine lv_aload_n hx hb dX9_led_90 rfl (lv_at hl 1 rfl) ?_
      refine lv_iload hx hb dX9_led_91 (lv_at hl 5 rfl) ?_
      refine pM_Mod_setEnd X hP hD hS kw705 dX9_led_93 (fun H locs hP hD hS => ?_)
      obtain ⟨s8, es8, hf⟩ := bd_e hf
      rw [← es8] at hP hD
      refine lv_iload hx hb dX9_led_96 (lv_at hl 6 rfl) ?_
      refine lv_iload hx hb dX9_led_98 (lv_at hl 0 rfl) ?_
      refine lv_iadd hx hb dX9_led_100 ?_
      refine lv_topi (fun y9 ey9 => ?_)
      have hf := bd_x ey9 hf
      refine lv_istore (lv' := [(5, .int y9), (6, .int r2), (0, .ref (ad 0)), (1, .int x1), (2, .int x2), (3, .int x3), (4, .int x4)]) hx hb dX9_led_101 hl (by decide) rfl (fun ls hl => ?_)
      refine lv_goto (tgt := 57) hx hb dX9_led_103 (by decide) ?_
      exact ih x1 x2 x3 x4 y9 s8 _ _ _ hf hP hD hS (lv_sub hl [2, 3, 4, 5, 6, 0] rfl)
set_option maxHeartbeats 4000000 in
set_option maxRecDepth 100000 in
theorem t_X9_led_21 {rc : Int32 → Int32 → St → Rs} (X : Fx p s m meth c D cA A RX9 cX9_led 13 none) (HR : ∀ (σ : St) (x1 x2 : Int32) (r : Int32) (σ' : St), rc x1 x2 σ = some (r, σ') → MV l D cA A (wM cA ad) yX9_led cX9_led 13 none (rm_X9_led dd) [.ref (ad 0), .int x1, .int x2] ta σ σ' 0 0) : ∀ (n : Nat) (x1 x2 x5 : Int32) (σ : St) (H : Heap) (locs : List Loc) (ls : Array Slot), F_X9_led_21 rc n x1 x2 x5 σ = some (r, σ') → va_P D vwCl (wM cA ad ta σ) H → va_D A (wM cA ad ta σ) → va_S A s.heap H locs → lv_has ls 13 [(0, .ref (ad 0)), (1, .int x1), (2, .int x2), (5, .int x5)] → W p l e (rm_X9_led (dd + 1)) s m args below meth c H locs 0 0 (MQ below (QV D cA A (wM cA ad) σ' ta) args s 0 0 A) (F0 m 21 ls []) := by
  obtain ⟨hx, hb, hr, hml, hown, hlk, hE, hK, hA⟩ := id X
  intro n
  induction n with
  | zero =>
    intro x1 x2 x5 σ H locs ls hf
    cases (show (none : Rs) = some _ from hf)
  | succ n ih =>
    intro x1 x2 x5 σ H locs ls hf hP hD hS hl
    rw [F_X9_led_21] at hf
    refine lv_iload hx hb dX9_led_21 (lv_at hl 3 rfl) ?_
    refine lv_iload_n hx hb dX9_led_23 rfl (lv_at hl 1 rfl) ?_
    refine lv_iload_n hx hb dX9_led_24 rfl (lv_at hl 2 rfl) ?_
    refine lv_iadd hx hb dX9_led_25 ?_
    refine lv_icmp_ge (tgt := 46) hx hb dX9_led_26 (by decide) (fun c1 => ?_) (fun c1 => ?_)
    · have hf := it_t c1 hf
      obtain ⟨rfl, rfl⟩ := Prod.mk.inj (Option.some.inj hf)
      exact ret_v X hP hD hS dX9_led_46
    · have hf := it_f c1 hf
      refine lv_aload_n hx hb dX9_led_29 rfl (lv_at hl 0 rfl) ?_
      refine lv_aload_n hx hb dX9_led_30 rfl (lv_at hl 0 rfl) ?_
      refine gM_Mod_set X hP kw703 dX9_led_31 ?_
      refine lv_iload hx hb dX9_led_34 (lv_at hl 3 rfl) ?_
      obtain ⟨b2, hf⟩ := ck_e hf
      refine lM_set X hP b2 dX9_led_36 ?_
      refine lv_topi (fun y3 ey3 => ?_)
      have hf := bd_x ey3 hf
      obtain ⟨r4, s5, h6, hf⟩ := bo_e hf
      refine callV_v X cv_X9_comes kw955 (c_X9_comes l D cA A ad ta σ y3 r4 s5 h6) ⟨by dsimp only [rm_X9_led, rm_X9_comes]; omega, by dsimp only [rm_X9_led, rm_X9_comes]; omega⟩ ⟨rfl, rfl⟩ hP hD hS (q0 := 0) (ci := 9) rfl rfl rfl rfl hl rfl (Nat.le_of_ble_eq_true rfl) dX9_led_37 ⟨Nat.le_of_ble_eq_true rfl, Nat.le_of_ble_eq_true rfl⟩ (fun H locs hP hD hS => ?_)
      refine lv_iinc (v := (x5 + 1)) (lv' := [(5, .int (x5 + 1)), (0, .ref (ad 0)), (1, .int x1), (2, .int x2)]) hx hb dX9_led_40 hl (k := 3) rfl rfl (by decide) rfl (fun ls hl => ?_)
      refine lv_goto (tgt := 21) hx hb dX9_led_43 (by decide) ?_
      exact ih x1 x2 (x5 + 1) s5 _ _ _ hf hP hD hS (lv_sub hl [1, 2, 3, 0] rfl)
set_option maxHeartbeats 4000000 in
set_option maxRecDepth 100000 in
theorem t_X9_led_398 {rc : Int32 → Int32 → St → Rs} {k183 : Int32 → Int32 → Int32 → Int32 → Int32 → Int32 → Int32 → St → Rs} (X : Fx p s m meth c D cA A RX9 cX9_led 13 none) (HR : ∀ (σ : St) (x1 x2 : Int32) (r : Int32) (σ' : St), rc x1 x2 σ = some (r, σ') → MV l D cA A (wM cA ad) yX9_led cX9_led 13 none (rm_X9_led dd) [.ref (ad 0), .int x1, .int x2] ta σ σ' 0 0) (K183 : ∀ (x1 x2 x3 x4 x5 x6 x7 : Int32) (σ : St) (H : Heap) (locs : List Loc) (ls : Array Slot), k183 x1 x2 x3 x4 x5 x6 x7 σ = some (r, σ') → va_P D vwCl (wM cA ad ta σ) H → va_D A (wM cA ad ta σ) → va_S A s.heap H locs → lv_has ls 13 [(0, .ref (ad 0)), (1, .int x1), (2, .int x2), (3, .int x3), (4, .int x4), (5, .int x5), (6, .int x6), (7, .int x7)] → W p l e (rm_X9_led (dd + 1)) s m args below meth c H locs 0 0 (MQ below (QV D cA A (wM cA ad) σ' ta) args s 0 0 A) (F0 m 183 ls [])) {x1 x2 x3 x4 x5 x6 x7 : Int32} { σ : St} {H : Heap} {locs : List Loc} {ls : Array Slot} (hf : F_X9_led_398 rc k183 x1 x2 x3 x4 x5 x6 x7 σ = some (r, σ')) (hP : va_P D vwCl (wM cA ad ta σ) H) (hD : va_D A (wM cA ad ta σ)) (hS : va_S A s.heap H locs) (hl : lv_has ls 13 [(0, .ref (ad 0)), (1, .int x1), (2, .int x2), (3, .int x3), (4, .int x4), (5, .int x5), (6, .int x6), (7, .int x7)]) : W p l e (rm_X9_led (dd + 1)) s m args below meth c H locs 0 0 (MQ below (QV D cA A (wM cA ad) σ' ta) args s 0 0 A) (F0 m 398 ls []) := by
  obtain ⟨hx, hb, hr, hml, hown, hlk, hE, hK, hA⟩ := id X
  rw [F_X9_led_398] at hf
  refine lv_iinc (v := (x7 + 1)) (lv' := [(7, .int (x7 + 1)), (0, .ref (ad 0)), (1, .int x1), (2, .int x2), (3, .int x3), (4, .int x4), (5, .int x5), (6, .int x6)]) hx hb dX9_led_398 hl (k := 7) rfl rfl (by decide) rfl (fun ls hl => ?_)
  refine lv_goto (tgt := 183) hx hb dX9_led_401 (by decide) ?_
  exact K183 x1 x2 x3 x4 x5 x6 (x7 + 1) σ _ _ _ hf hP hD hS (lv_sub hl [1, 2, 3, 4, 5, 6, 7, 0] rfl)
set_option maxHeartbeats 4000000 in
set_option maxRecDepth 100000 in
theorem t_X9_led_386 {rc : Int32 → Int32 → St → Rs} {k183 : Int32 → Int32 → Int32 → Int32 → Int32 → Int32 → Int32 → St → Rs} (X : Fx p s m meth c D cA A RX9 cX9_led 13 none) (HR : ∀ (σ : St) (x1 x2 : Int32) (r : Int32) (σ' : St), rc x1 x2 σ = some (r, σ') → MV l D cA A (wM cA ad) yX9_led cX9_led 13 none (rm_X9_led dd) [.ref (ad 0), .int x1, .int x2] ta σ σ' 0 0) (K183 : ∀ (x1 x2 x3 x4 x5 x6 x7 : Int32) (σ : St) (H : Heap) (locs : List Loc) (ls : Array Slot), k183 x1 x2 x3 x4 x5 x6 x7 σ = some (r, σ') → va_P D vwCl (wM cA ad ta σ) H → va_D A (wM cA ad ta σ) → va_S A s.heap H locs → lv_has ls 13 [(0, .ref (ad 0)), (1, .int x1), (2, .int x2), (3, .int x3), (4, .int x4), (5, .int x5), (6, .int x6), (7, .int x7)] → W p l e (rm_X9_led (dd + 1)) s m args below meth c H locs 0 0 (MQ below (QV D cA A (wM cA ad) σ' ta) args s 0 0 A) (F0 m 183 ls [])) {x1 x2 x3 x4 x5 x6 x7 x9 x10 : Int32} { σ : St} {H : Heap} {locs : List Loc} {ls : Array Slot} (hf : F_X9_led_386 rc k183 x1 x2 x3 x4 x5 x6 x7 x9 x10 σ = some (r, σ')) (hP : va_P D vwCl (wM cA ad ta σ) H) (hD : va_D A (wM cA ad ta σ)) (hS : va_S A s.heap H locs) (hl : lv_has ls 13 [(0, .ref (ad 0)), (1, .int x1), (2, .int x2), (3, .int x3), (4, .int x4), (5, .int x5), (6, .int x6), (7, .int x7), (9, .int x9), (10, .int x10)]) : W p l e (rm_X9_led (dd + 1)) s m args below meth c H locs 0 0 (MQ below (QV D cA A (wM cA ad) σ' ta) args s 0 0 A) (F0 m 386 ls []) := by
  obtain ⟨hx, hb, hr, hml, hown, hlk, hE, hK, hA⟩ := id X
  rw [F_X9_led_386] at hf
  refine lv_aload_n hx hb dX9_led_386 rfl (lv_at hl 0 rfl) ?_
  refine lv_iload hx hb dX9_led_387 (lv_at hl 8 rfl) ?_
  refine pM_Mod_cells X hP hD hS kw722 dX9_led_389 (fun H locs hP hD hS => ?_)
  obtain ⟨s1, es1, hf⟩ := bd_e hf
  rw [← es1] at hP hD
  refine lv_aload_n hx hb dX9_led_392 rfl (lv_at hl 0 rfl) ?_
  refine lv_iload hx hb dX9_led_393 (lv_at hl 9 rfl) ?_
  refine pM_Mod_names X hP hD hS kw723 dX9_led_395 (fun H locs hP hD hS => ?_)
  obtain ⟨s2, es2, hf⟩ := bd_e hf
  rw [← es2] at hP hD
  exact t_X9_led_398 X HR K183 hf hP hD hS (lv_sub hl [0, 1, 2, 3, 4, 5, 6, 7] rfl)
set_option maxHeartbeats 4000000 in
set_option maxRecDepth 100000 in
theorem t_X9_led_279 {rc : Int32 → Int32 → St → Rs} {k183 : Int32 → Int32 → Int32 → Int32 → Int32 → Int32 → Int32 → St → Rs} (X : Fx p s m meth c D cA A RX9 cX9_led 13 none) (HR : ∀ (σ : St) (x1 x2 : Int32) (r : Int32) (σ' : St), rc x1 x2 σ = some (r, σ') → MV l D cA A (wM cA ad) yX9_led cX9_led 13 none (rm_X9_led dd) [.ref (ad 0), .int x1, .int x2] ta σ σ' 0 0) (K183 : ∀ (x1 x2 x3 x4 x5 x6 x7 : Int32) (σ : St) (H : Heap) (locs : List Loc) (ls : Array Slot), k183 x1 x2 x3 x4 x5 x6 x7 σ = some (r, σ') → va_P D vwCl (wM cA ad ta σ) H → va_D A (wM cA ad ta σ) → va_S A s.heap H locs → lv_has ls 13 [(0, .ref (ad 0)), (1, .int x1), (2, .int x2), (3, .int x3), (4, .int x4), (5, .int x5), (6, .int x6), (7, .int x7)] → W p l e (rm_X9_led (dd + 1)) s m args below meth c H locs 0 0 (MQ below (QV D cA A (wM cA ad) σ' ta) args s 0 0 A) (F0 m 183 ls [])) {x1 x2 x3 x4 x5 x6 x7 x8 x9 x10 x11 : Int32} { σ : St} {H : Heap} {locs : List Loc} {ls : Array Slot} (hf : F_X9_led_279 rc k183 x1 x2 x3 x4 x5 x6 x7 x8 x9 x10 x11 σ = some (r, σ')) (hP : va_P D vwCl (wM cA ad ta σ) H) (hD : va_D A (wM cA ad ta σ)) (hS : va_S A s.heap H locs) (hl : lv_has ls 13 [(0, .ref (ad 0)), (1, .int x1), (2, .int x2), (3, .int x3), (4, .int x4), (5, .int x5), (6, .int x6), (7, .int x7), (8, .int x8), (9, .int x9), (10, .int x10), (11, .int x11)]) : W p l e (rm_X9_led (dd + 1)) s m args below meth c H locs 0 0 (MQ below (QV D cA A (wM cA ad) σ' ta) args s 0 0 A) (F0 m 279 ls []) := by
  obtain ⟨hx, hb, hr, hml, hown, hlk, hE, hK, hA⟩ := id X
  rw [F_X9_led_279] at hf
  refine lv_aload_n hx hb dX9_led_279 rfl (lv_at hl 0 rfl) ?_
  refine gM_Mod_terms X hP kw724 dX9_led_280 ?_
  refine lv_iload_n hx hb dX9_led_283 rfl (lv_at hl 3 rfl) ?_
  obtain ⟨b1, hf⟩ := ck_e hf
  refine lM_terms X hP b1 dX9_led_284 ?_
  refine lv_topi (fun y2 ey2 => ?_)
  have hf := bd_x ey2 hf
  refine lv_istore (lv' := [(12, .int y2), (0, .ref (ad 0)), (1, .int x1), (2, .int x2), (3, .int x3), (4, .int x4), (5, .int x5), (6, .int x6), (7, .int x7), (8, .int x8), (9, .int x9), (10, .int x10), (11, .int x11)]) hx hb dX9_led_285 hl (by decide) rfl (fun ls hl => ?_)
  refine lv_aload_n hx hb dX9_led_287 rfl (lv_at hl 1 rfl) ?_
  refine lv_iload hx hb dX9_led_288 (lv_at hl 5 rfl) ?_
  refine lv_iload hx hb dX9_led_290 (lv_at hl 9 rfl) ?_
  refine lv_iload_n hx hb dX9_led_292 rfl (lv_at hl 4 rfl) ?_
  refine lv_aload_n hx hb dX9_led_293 rfl (lv_at hl 1 rfl) ?_
  refine gM_Mod_arity X hP kw682 dX9_led_294 ?_
  refine lv_iload hx hb dX9_led_297 (lv_at hl 8 rfl) ?_
  obtain ⟨b3, hf⟩ := ck_e hf
  refine lM_arity X hP b3 dX9_led_299 ?_
  refine lv_topi (fun y4 ey4 => ?_)
  have hf := bd_x ey4 hf
  obtain ⟨r5, s6, h7, hf⟩ := bo_e hf
  refine callV_v X cv_X9_take kw904 (c_X9_take l D cA A ad ta σ x4 x8 x3 y4 r5 s6 h7) ⟨by dsimp only [rm_X9_led, rm_X9_take]; omega, by dsimp only [rm_X9_led, rm_X9_take]; omega⟩ ⟨rfl, rfl⟩ hP hD hS (q0 := 0) (ci := 9) rfl rfl rfl rfl hl rfl (Nat.le_of_ble_eq_true rfl) dX9_led_300 ⟨Nat.le_of_ble_eq_true rfl, Nat.le_of_ble_eq_true rfl⟩ (fun H locs hP hD hS => ?_)
  refine lv_aload_n hx hb dX9_led_303 rfl (lv_at hl 1 rfl) ?_
  refine lv_iload_n hx hb dX9_led_304 rfl (lv_at hl 4 rfl) ?_
  refine lv_aload_n hx hb dX9_led_305 rfl (lv_at hl 1 rfl) ?_
  refine gM_Mod_arity X hP kw682 dX9_led_306 ?_
  refine lv_iload hx hb dX9_led_309 (lv_at hl 8 rfl) ?_
  obtain ⟨b8, hf⟩ := ck_e hf
  refine lM_arity X hP b8 dX9_led_311 ?_
  refine lv_topi (fun y9 ey9 => ?_)
  have hf := bd_x ey9 hf
  refine lv_aload_n hx hb dX9_led_312 rfl (lv_at hl 1 rfl) ?_
  refine gM_Mod_kids X hP kw720 dX9_led_313 ?_
  refine lv_iload hx hb dX9_led_316 (lv_at hl 12 rfl) ?_
  obtain ⟨b10, hf⟩ := ck_e hf
  refine lM_kids X hP b10 dX9_led_318 ?_
  refine lv_topi (fun y11 ey11 => ?_)
  have hf := bd_x ey11 hf
  obtain ⟨r12, s13, h14, hf⟩ := bo_e hf
  refine callV_v X cv_X9_shift kw967 (c_X9_shift l D cA A ad ta s6 x3 y9 y11 r12 s13 h14) ⟨by dsimp only [rm_X9_led, rm_X9_shift]; omega, by dsimp only [rm_X9_led, rm_X9_shift]; omega⟩ ⟨rfl, rfl⟩ hP hD hS (q0 := 0) (ci := 9) rfl rfl rfl rfl hl rfl (Nat.le_of_ble_eq_true rfl) dX9_led_319 ⟨Nat.le_of_ble_eq_true rfl, Nat.le_of_ble_eq_true rfl⟩ (fun H locs hP hD hS => ?_)
  refine lv_aload_n hx hb dX9_led_322 rfl (lv_at hl 1 rfl) ?_
  refine lv_iload hx hb dX9_led_323 (lv_at hl 5 rfl) ?_
  refine lv_iload hx hb dX9_led_325 (lv_at hl 9 rfl) ?_
  obtain ⟨r15, s16, h17, hf⟩ := bo_e hf
  refine callS_v X cs_X9_led kw952 (HR s13 x4 x8 r15 s16 h17) ⟨by dsimp only [rm_X9_led, rm_X9_led]; omega, by dsimp only [rm_X9_led, rm_X9_led]; omega⟩ ⟨rfl, rfl⟩ hP hD hS rfl hl rfl (Nat.le_of_ble_eq_true rfl) dX9_led_327 ⟨Nat.le_of_ble_eq_true rfl, Nat.le_of_ble_eq_true rfl⟩ (fun H locs hP hD hS => ?_)
  refine lv_aload_n hx hb dX9_led_330 rfl (lv_at hl 1 rfl) ?_
  refine lv_iload hx hb dX9_led_331 (lv_at hl 5 rfl) ?_
  refine lv_iload hx hb dX9_led_333 (lv_at hl 9 rfl) ?_
  refine lv_iload_n hx hb dX9_led_335 rfl (lv_at hl 4 rfl) ?_
  refine lv_aload_n hx hb dX9_led_336 rfl (lv_at hl 1 rfl) ?_
  refine gM_Mod_arity X hP kw682 dX9_led_337 ?_
  refine lv_iload hx hb dX9_led_340 (lv_at hl 8 rfl) ?_
  obtain ⟨b18, hf⟩ := ck_e hf
  refine lM_arity X hP b18 dX9_led_342 ?_
  refine lv_topi (fun y19 ey19 => ?_)
  have hf := bd_x ey19 hf
  obtain ⟨r20, s21, h22, hf⟩ := bo_e hf
  refine callV_v X cv_X9_putBack kw908 (c_X9_putBack l D cA A ad ta s16 x4 x8 x3 y19 r20 s21 h22) ⟨by dsimp only [rm_X9_led, rm_X9_putBack]; omega, by dsimp only [rm_X9_led, rm_X9_putBack]; omega⟩ ⟨rfl, rfl⟩ hP hD hS (q0 := 0) (ci := 9) rfl rfl rfl rfl hl rfl (Nat.le_of_ble_eq_true rfl) dX9_led_343 ⟨Nat.le_of_ble_eq_true rfl, Nat.le_of_ble_eq_true rfl⟩ (fun H locs hP hD hS => ?_)
  refine lv_aload_n hx hb dX9_led_346 rfl (lv_at hl 1 rfl) ?_
  refine lv_iload_n hx hb dX9_led_347 rfl (lv_at hl 4 rfl) ?_
  refine lv_aload_n hx hb dX9_led_348 rfl (lv_at hl 1 rfl) ?_
  refine gM_Mod_arity X hP kw682 dX9_led_349 ?_
  refine lv_iload hx hb dX9_led_352 (lv_at hl 8 rfl) ?_
  obtain ⟨b23, hf⟩ := ck_e hf
  refine lM_arity X hP b23 dX9_led_354 ?_
  refine lv_topi (fun y24 ey24 => ?_)
  have hf := bd_x ey24 hf
  refine lv_iload hx hb dX9_led_355 (lv_at hl 0 rfl) ?_
  obtain ⟨r25, s26, h27, hf⟩ := bo_e hf
  refine callV_v X cv_X9_shiftBack kw971 (c_X9_shiftBack l D cA A ad ta s21 x3 y24 y2 r25 s26 h27) ⟨by dsimp only [rm_X9_led, rm_X9_shiftBack]; omega, by dsimp only [rm_X9_led, rm_X9_shiftBack]; omega⟩ ⟨rfl, rfl⟩ hP hD hS (q0 := 0) (ci := 9) rfl rfl rfl rfl hl rfl (Nat.le_of_ble_eq_true rfl) dX9_led_357 ⟨Nat.le_of_ble_eq_true rfl, Nat.le_of_ble_eq_true rfl⟩ (fun H locs hP hD hS => ?_)
  refine lv_aload_n hx hb dX9_led_360 rfl (lv_at hl 1 rfl) ?_
  refine lv_iload hx hb dX9_led_361 (lv_at hl 5 rfl) ?_
  refine pM_Mod_setEnd X hP hD hS kw705 dX9_led_363 (fun H locs hP hD hS => ?_)
  obtain ⟨s28, es28, hf⟩ := bd_e hf
  rw [← es28] at hP hD
  refine lv_iload hx hb dX9_led_366 (lv_at hl 7 rfl) ?_
  refine lv_if_eq (tgt := 386) hx hb dX9_led_368 (by decide) (fun c29 => ?_) (fun c29 => ?_)
  · have hf := it_t c29 hf
    exact t_X9_led_386 X HR K183 hf hP hD hS (lv_sub hl [1, 2, 3, 4, 5, 6, 7, 8, 10, 11] rfl)
  · have hf := it_f c29 hf
    refine lv_aload_n hx hb dX9_led_371 rfl (lv_at hl 1 rfl) ?_
    refine gM_Mod_became X hP kw721 dX9_led_372 ?_
    refine lv_iconst (v := -1) hx hb dX9_led_375 (by decide) ?_
    refine lv_aload_n hx hb dX9_led_376 rfl (lv_at hl 1 rfl) ?_
    refine gM_Mod_cell X hP kw719 dX9_led_377 ?_
    refine lv_iload hx hb dX9_led_380 (lv_at hl 6 rfl) ?_
    obtain ⟨b30, hf⟩ := ck_e hf
    refine lM_cell X hP b30 dX9_led_382 ?_
    refine lv_topi (fun y31 ey31 => ?_)
    have hf := bd_x ey31 hf
    refine lv_isub hx hb dX9_led_383 ?_
    refine lv_iconst (v := -1) hx hb dX9_led_384 (by decide) ?_
    obtain ⟨b32, hf⟩ := ck_e hf
    refine sM_became X hP hD hS b32 dX9_led_385 (fun H locs hP hD hS => ?_)
    obtain ⟨s33, es33, hf⟩ := bd_e hf
    rw [← es33] at hP hD
    exact t_X9_led_386 X HR K183 hf hP hD hS (lv_sub hl [1, 2, 3, 4, 5, 6, 7, 8, 10, 11] rfl)
set_option maxHeartbeats 4000000 in
set_option maxRecDepth 100000 in
theorem t_X9_led_256 {rc : Int32 → Int32 → St → Rs} {k183 : Int32 → Int32 → Int32 → Int32 → Int32 → Int32 → Int32 → St → Rs} (X : Fx p s m meth c D cA A RX9 cX9_led 13 none) (HR : ∀ (σ : St) (x1 x2 : Int32) (r : Int32) (σ' : St), rc x1 x2 σ = some (r, σ') → MV l D cA A (wM cA ad) yX9_led cX9_led 13 none (rm_X9_led dd) [.ref (ad 0), .int x1, .int x2] ta σ σ' 0 0) (K183 : ∀ (x1 x2 x3 x4 x5 x6 x7 : Int32) (σ : St) (H : Heap) (locs : List Loc) (ls : Array Slot), k183 x1 x2 x3 x4 x5 x6 x7 σ = some (r, σ') → va_P D vwCl (wM cA ad ta σ) H → va_D A (wM cA ad ta σ) → va_S A s.heap H locs → lv_has ls 13 [(0, .ref (ad 0)), (1, .int x1), (2, .int x2), (3, .int x3), (4, .int x4), (5, .int x5), (6, .int x6), (7, .int x7)] → W p l e (rm_X9_led (dd + 1)) s m args below meth c H locs 0 0 (MQ below (QV D cA A (wM cA ad) σ' ta) args s 0 0 A) (F0 m 183 ls [])) {x1 x2 x3 x4 x5 x6 x7 x8 x9 x10 z0 : Int32} { σ : St} {H : Heap} {locs : List Loc} {ls : Array Slot} (hf : F_X9_led_256 rc k183 x1 x2 x3 x4 x5 x6 x7 x8 x9 x10 z0 σ = some (r, σ')) (hP : va_P D vwCl (wM cA ad ta σ) H) (hD : va_D A (wM cA ad ta σ)) (hS : va_S A s.heap H locs) (hl : lv_has ls 13 [(0, .ref (ad 0)), (1, .int x1), (2, .int x2), (3, .int x3), (4, .int x4), (5, .int x5), (6, .int x6), (7, .int x7), (8, .int x8), (9, .int x9), (10, .int x10)]) : W p l e (rm_X9_led (dd + 1)) s m args below meth c H locs 0 0 (MQ below (QV D cA A (wM cA ad) σ' ta) args s 0 0 A) (F0 m 256 ls [.int z0]) := by
  obtain ⟨hx, hb, hr, hml, hown, hlk, hE, hK, hA⟩ := id X
  rw [F_X9_led_256] at hf
  refine lv_istore (lv' := [(11, .int z0), (0, .ref (ad 0)), (1, .int x1), (2, .int x2), (3, .int x3), (4, .int x4), (5, .int x5), (6, .int x6), (7, .int x7), (8, .int x8), (9, .int x9), (10, .int x10)]) hx hb dX9_led_256 hl (by decide) rfl (fun ls hl => ?_)
  refine lv_iload hx hb dX9_led_258 (lv_at hl 7 rfl) ?_
  refine lv_if_eq (tgt := 279) hx hb dX9_led_260 (by decide) (fun c1 => ?_) (fun c1 => ?_)
  · have hf := it_t c1 hf
    exact t_X9_led_279 X HR K183 hf hP hD hS (lv_sub hl [1, 2, 3, 4, 5, 6, 7, 8, 9, 10, 11, 0] rfl)
  · have hf := it_f c1 hf
    refine lv_aload_n hx hb dX9_led_263 rfl (lv_at hl 1 rfl) ?_
    refine gM_Mod_became X hP kw721 dX9_led_264 ?_
    refine lv_iconst (v := -1) hx hb dX9_led_267 (by decide) ?_
    refine lv_aload_n hx hb dX9_led_268 rfl (lv_at hl 1 rfl) ?_
    refine gM_Mod_cell X hP kw719 dX9_led_269 ?_
    refine lv_iload hx hb dX9_led_272 (lv_at hl 6 rfl) ?_
    obtain ⟨b2, hf⟩ := ck_e hf
    refine lM_cell X hP b2 dX9_led_274 ?_
    refine lv_topi (fun y3 ey3 => ?_)
    have hf := bd_x ey3 hf
    refine lv_isub hx hb dX9_led_275 ?_
    refine lv_iload hx hb dX9_led_276 (lv_at hl 0 rfl) ?_
    obtain ⟨b4, hf⟩ := ck_e hf
    refine sM_became X hP hD hS b4 dX9_led_278 (fun H locs hP hD hS => ?_)
    obtain ⟨s5, es5, hf⟩ := bd_e hf
    rw [← es5] at hP hD
    exact t_X9_led_279 X HR K183 hf hP hD hS (lv_sub hl [1, 2, 3, 4, 5, 6, 7, 8, 9, 10, 11, 0] rfl)
set_option maxHeartbeats 4000000 in
set_option maxRecDepth 100000 in
theorem t_X9_led_429 {rc : Int32 → Int32 → St → Rs} (X : Fx p s m meth c D cA A RX9 cX9_led 13 none) (HR : ∀ (σ : St) (x1 x2 : Int32) (r : Int32) (σ' : St), rc x1 x2 σ = some (r, σ') → MV l D cA A (wM cA ad) yX9_led cX9_led 13 none (rm_X9_led dd) [.ref (ad 0), .int x1, .int x2] ta σ σ' 0 0) {z0 z1 : Int32} { σ : St} {H : Heap} {locs : List Loc} {ls : Array Slot} (hf : F_X9_led_429 rc z0 z1 σ = some (r, σ')) (hP : va_P D vwCl (wM cA ad ta σ) H) (hD : va_D A (wM cA ad ta σ)) (hS : va_S A s.heap H locs) (hl : lv_has ls 13 []) : W p l e (rm_X9_led (dd + 1)) s m args below meth c H locs 0 0 (MQ below (QV D cA A (wM cA ad) σ' ta) args s 0 0 A) (F0 m 429 ls [.int z0, .int z1, .ref (ad 0)]) := by
  obtain ⟨hx, hb, hr, hml, hown, hlk, hE, hK, hA⟩ := id X
  rw [F_X9_led_429] at hf
  refine lv_isub hx hb dX9_led_429 ?_
  refine pM_Mod_askedFree X hP hD hS kw726 dX9_led_430 (fun H locs hP hD hS => ?_)
  obtain ⟨s1, es1, hf⟩ := bd_e hf
  rw [← es1] at hP hD
  obtain ⟨rfl, rfl⟩ := Prod.mk.inj (Option.some.inj hf)
  exact ret_v X hP hD hS dX9_led_433
set_option maxHeartbeats 4000000 in
set_option maxRecDepth 100000 in
theorem t_X9_led_404 {rc : Int32 → Int32 → St → Rs} (X : Fx p s m meth c D cA A RX9 cX9_led 13 none) (HR : ∀ (σ : St) (x1 x2 : Int32) (r : Int32) (σ' : St), rc x1 x2 σ = some (r, σ') → MV l D cA A (wM cA ad) yX9_led cX9_led 13 none (rm_X9_led dd) [.ref (ad 0), .int x1, .int x2] ta σ σ' 0 0) {x6 : Int32} { σ : St} {H : Heap} {locs : List Loc} {ls : Array Slot} (hf : F_X9_led_404 rc x6 σ = some (r, σ')) (hP : va_P D vwCl (wM cA ad ta σ) H) (hD : va_D A (wM cA ad ta σ)) (hS : va_S A s.heap H locs) (hl : lv_has ls 13 [(0, .ref (ad 0)), (6, .int x6)]) : W p l e (rm_X9_led (dd + 1)) s m args below meth c H locs 0 0 (MQ below (QV D cA A (wM cA ad) σ' ta) args s 0 0 A) (F0 m 404 ls []) := by
  obtain ⟨hx, hb, hr, hml, hown, hlk, hE, hK, hA⟩ := id X
  rw [F_X9_led_404] at hf
  refine lv_aload_n hx hb dX9_led_404 rfl (lv_at hl 0 rfl) ?_
  refine lv_dup hx hb dX9_led_405 rfl ?_
  refine gM_Mod_asked X hP kw725 dX9_led_406 ?_
  refine lv_iconst (v := 1) hx hb dX9_led_409 (by decide) ?_
  refine lv_isub hx hb dX9_led_410 ?_
  refine pM_Mod_asked X hP hD hS kw725 dX9_led_411 (fun H locs hP hD hS => ?_)
  obtain ⟨s1, es1, hf⟩ := bd_e hf
  rw [← es1] at hP hD
  refine lv_aload_n hx hb dX9_led_414 rfl (lv_at hl 0 rfl) ?_
  refine lv_dup hx hb dX9_led_415 rfl ?_
  refine gM_Mod_askedFree X hP kw726 dX9_led_416 ?_
  refine lv_iload hx hb dX9_led_419 (lv_at hl 1 rfl) ?_
  refine lv_if_eq (tgt := 428) hx hb dX9_led_421 (by decide) (fun c2 => ?_) (fun c2 => ?_)
  · have hf := it_t c2 hf
    refine lv_iconst (v := 0) hx hb dX9_led_428 (by decide) ?_
    exact t_X9_led_429 X HR hf hP hD hS (lv_sub hl [] rfl)
  · have hf := it_f c2 hf
    refine lv_iconst (v := 1) hx hb dX9_led_424 (by decide) ?_
    refine lv_goto (tgt := 429) hx hb dX9_led_425 (by decide) ?_
    exact t_X9_led_429 X HR hf hP hD hS (lv_sub hl [] rfl)
set_option maxHeartbeats 4000000 in
set_option maxRecDepth 100000 in
theorem t_X9_led_206 {rc : Int32 → Int32 → St → Rs} {k183 : Int32 → Int32 → Int32 → Int32 → Int32 → Int32 → Int32 → St → Rs} (X : Fx p s m meth c D cA A RX9 cX9_led 13 none) (HR : ∀ (σ : St) (x1 x2 : Int32) (r : Int32) (σ' : St), rc x1 x2 σ = some (r, σ') → MV l D cA A (wM cA ad) yX9_led cX9_led 13 none (rm_X9_led dd) [.ref (ad 0), .int x1, .int x2] ta σ σ' 0 0) (K183 : ∀ (x1 x2 x3 x4 x5 x6 x7 : Int32) (σ : St) (H : Heap) (locs : List Loc) (ls : Array Slot), k183 x1 x2 x3 x4 x5 x6 x7 σ = some (r, σ') → va_P D vwCl (wM cA ad ta σ) H → va_D A (wM cA ad ta σ) → va_S A s.heap H locs → lv_has ls 13 [(0, .ref (ad 0)), (1, .int x1), (2, .int x2), (3, .int x3), (4, .int x4), (5, .int x5), (6, .int x6), (7, .int x7)] → W p l e (rm_X9_led (dd + 1)) s m args below meth c H locs 0 0 (MQ below (QV D cA A (wM cA ad) σ' ta) args s 0 0 A) (F0 m 183 ls [])) {x1 x2 x3 x4 x5 x6 x7 z0 z1 : Int32} { σ : St} {H : Heap} {locs : List Loc} {ls : Array Slot} (hf : F_X9_led_206 rc k183 x1 x2 x3 x4 x5 x6 x7 z0 z1 σ = some (r, σ')) (hP : va_P D vwCl (wM cA ad ta σ) H) (hD : va_D A (wM cA ad ta σ)) (hS : va_S A s.heap H locs) (hl : lv_has ls 13 [(0, .ref (ad 0)), (1, .int x1), (2, .int x2), (3, .int x3), (4, .int x4), (5, .int x5), (6, .int x6), (7, .int x7)]) : W p l e (rm_X9_led (dd + 1)) s m args below meth c H locs 0 0 (MQ below (QV D cA A (wM cA ad) σ' ta) args s 0 0 A) (F0 m 206 ls [.int z0, .int z1]) := by
  obtain ⟨hx, hb, hr, hml, hown, hlk, hE, hK, hA⟩ := id X
  rw [F_X9_led_206] at hf
  refine lv_icmp_ge (tgt := 404) hx hb dX9_led_206 (by decide) (fun c1 => ?_) (fun c1 => ?_)
  · have hf := it_t c1 hf
    exact t_X9_led_404 X HR hf hP hD hS (lv_sub hl [0, 6] rfl)
  · have hf := it_f c1 hf
    refine lv_aload_n hx hb dX9_led_209 rfl (lv_at hl 0 rfl) ?_
    refine lv_iload_n hx hb dX9_led_210 rfl (lv_at hl 1 rfl) ?_
    refine lv_iload_n hx hb dX9_led_211 rfl (lv_at hl 2 rfl) ?_
    refine lv_iload_n hx hb dX9_led_212 rfl (lv_at hl 3 rfl) ?_
    refine lv_iload hx hb dX9_led_213 (lv_at hl 7 rfl) ?_
    obtain ⟨r2, s3, h4, hf⟩ := bo_e hf
    refine callV_i X cv_X9_those kw900 (c_X9_those l D cA A ad ta σ x1 x2 x3 x7 r2 s3 h4) ⟨by dsimp only [rm_X9_led, rm_X9_those]; omega, by dsimp only [rm_X9_led, rm_X9_those]; omega⟩ ⟨rfl, rfl⟩ hP hD hS (q0 := 0) (ci := 9) rfl rfl rfl rfl hl rfl (Nat.le_of_ble_eq_true rfl) dX9_led_215 ⟨Nat.le_of_ble_eq_true rfl, Nat.le_of_ble_eq_true rfl⟩ (fun H locs hP hD hS => ?_)
    refine lv_istore (lv' := [(8, .int r2), (0, .ref (ad 0)), (1, .int x1), (2, .int x2), (3, .int x3), (4, .int x4), (5, .int x5), (6, .int x6), (7, .int x7)]) hx hb dX9_led_218 hl (by decide) rfl (fun ls hl => ?_)
    refine lv_iload hx hb dX9_led_220 (lv_at hl 0 rfl) ?_
    refine lv_if_ne (tgt := 228) hx hb dX9_led_222 (by decide) (fun c5 => ?_) (fun c5 => ?_)
    · have hf := it_f c5 hf
      refine lv_aload_n hx hb dX9_led_228 rfl (lv_at hl 1 rfl) ?_
      refine gM_Mod_cells X hP kw722 dX9_led_229 ?_
      refine lv_topi (fun y6 ey6 => ?_)
      have hf := bd_x ey6 hf
      refine lv_istore (lv' := [(9, .int y6), (8, .int r2), (0, .ref (ad 0)), (1, .int x1), (2, .int x2), (3, .int x3), (4, .int x4), (5, .int x5), (6, .int x6), (7, .int x7)]) hx hb dX9_led_232 hl (by decide) rfl (fun ls hl => ?_)
      refine lv_aload_n hx hb dX9_led_234 rfl (lv_at hl 2 rfl) ?_
      refine gM_Mod_names X hP kw723 dX9_led_235 ?_
      refine lv_topi (fun y7 ey7 => ?_)
      have hf := bd_x ey7 hf
      refine lv_istore (lv' := [(10, .int y7), (9, .int y6), (8, .int r2), (0, .ref (ad 0)), (1, .int x1), (2, .int x2), (3, .int x3), (4, .int x4), (5, .int x5), (6, .int x6), (7, .int x7)]) hx hb dX9_led_238 hl (by decide) rfl (fun ls hl => ?_)
      refine lv_iload hx hb dX9_led_240 (lv_at hl 9 rfl) ?_
      refine lv_if_eq (tgt := 254) hx hb dX9_led_242 (by decide) (fun c8 => ?_) (fun c8 => ?_)
      · have hf := it_t c8 hf
        refine lv_iload hx hb dX9_led_254 (lv_at hl 8 rfl) ?_
        exact t_X9_led_256 X HR K183 hf hP hD hS (lv_sub hl [3, 4, 5, 6, 7, 8, 9, 10, 2, 1, 0] rfl)
      · have hf := it_f c8 hf
        refine lv_aload_n hx hb dX9_led_245 rfl (lv_at hl 3 rfl) ?_
        refine lv_iload hx hb dX9_led_246 (lv_at hl 10 rfl) ?_
        obtain ⟨r9, s10, h11, hf⟩ := bo_e hf
        refine callV_i X cv_X9_grown kw963 (c_X9_grown l D cA A ad ta s3 x7 r9 s10 h11) ⟨by dsimp only [rm_X9_led, rm_X9_grown]; omega, by dsimp only [rm_X9_led, rm_X9_grown]; omega⟩ ⟨rfl, rfl⟩ hP hD hS (q0 := 0) (ci := 9) rfl rfl rfl rfl hl rfl (Nat.le_of_ble_eq_true rfl) dX9_led_248 ⟨Nat.le_of_ble_eq_true rfl, Nat.le_of_ble_eq_true rfl⟩ (fun H locs hP hD hS => ?_)
        refine lv_goto (tgt := 256) hx hb dX9_led_251 (by decide) ?_
        exact t_X9_led_256 X HR K183 hf hP hD hS (lv_sub hl [3, 4, 5, 6, 7, 8, 9, 10, 2, 1, 0] rfl)
    · have hf := it_t c5 hf
      refine lv_goto (tgt := 398) hx hb dX9_led_225 (by decide) ?_
      exact t_X9_led_398 X HR K183 hf hP hD hS (lv_sub hl [1, 2, 3, 4, 5, 6, 7, 8] rfl)
set_option maxHeartbeats 4000000 in
set_option maxRecDepth 100000 in
theorem t_X9_led_183 {rc : Int32 → Int32 → St → Rs} (X : Fx p s m meth c D cA A RX9 cX9_led 13 none) (HR : ∀ (σ : St) (x1 x2 : Int32) (r : Int32) (σ' : St), rc x1 x2 σ = some (r, σ') → MV l D cA A (wM cA ad) yX9_led cX9_led 13 none (rm_X9_led dd) [.ref (ad 0), .int x1, .int x2] ta σ σ' 0 0) : ∀ (n : Nat) (x1 x2 x3 x4 x5 x6 x7 : Int32) (σ : St) (H : Heap) (locs : List Loc) (ls : Array Slot), F_X9_led_183 rc n x1 x2 x3 x4 x5 x6 x7 σ = some (r, σ') → va_P D vwCl (wM cA ad ta σ) H → va_D A (wM cA ad ta σ) → va_S A s.heap H locs → lv_has ls 13 [(0, .ref (ad 0)), (1, .int x1), (2, .int x2), (3, .int x3), (4, .int x4), (5, .int x5), (6, .int x6), (7, .int x7)] → W p l e (rm_X9_led (dd + 1)) s m args below meth c H locs 0 0 (MQ below (QV D cA A (wM cA ad) σ' ta) args s 0 0 A) (F0 m 183 ls []) := by
  obtain ⟨hx, hb, hr, hml, hown, hlk, hE, hK, hA⟩ := id X
  intro n
  induction n with
  | zero =>
    intro x1 x2 x3 x4 x5 x6 x7 σ H locs ls hf
    cases (show (none : Rs) = some _ from hf)
  | succ n ih =>
    intro x1 x2 x3 x4 x5 x6 x7 σ H locs ls hf hP hD hS hl
    rw [F_X9_led_183] at hf
    refine lv_iload hx hb dX9_led_183 (lv_at hl 7 rfl) ?_
    refine lv_iload hx hb dX9_led_185 (lv_at hl 6 rfl) ?_
    refine lv_if_eq (tgt := 197) hx hb dX9_led_187 (by decide) (fun c1 => ?_) (fun c1 => ?_)
    · have hf := it_t c1 hf
      refine lv_aload_n hx hb dX9_led_197 rfl (lv_at hl 0 rfl) ?_
      refine gM_Mod_cell X hP kw719 dX9_led_198 ?_
      refine lv_iload hx hb dX9_led_201 (lv_at hl 5 rfl) ?_
      obtain ⟨b2, hf⟩ := ck_e hf
      refine lM_cell X hP b2 dX9_led_203 ?_
      refine lv_topi (fun y3 ey3 => ?_)
      have hf := bd_x ey3 hf
      refine lv_iconst (v := 1) hx hb dX9_led_204 (by decide) ?_
      refine lv_iadd hx hb dX9_led_205 ?_
      exact t_X9_led_206 X HR ih hf hP hD hS (lv_sub hl [0, 1, 2, 3, 4, 5, 6, 7] rfl)
    · have hf := it_f c1 hf
      refine lv_aload_n hx hb dX9_led_190 rfl (lv_at hl 0 rfl) ?_
      refine gM_Mod_cons X hP kw680 dX9_led_191 ?_
      refine lv_goto (tgt := 206) hx hb dX9_led_194 (by decide) ?_
      exact t_X9_led_206 X HR ih hf hP hD hS (lv_sub hl [0, 1, 2, 3, 4, 5, 6, 7] rfl)
set_option maxHeartbeats 4000000 in
set_option maxRecDepth 100000 in
theorem t_X9_led_181 {rc : Int32 → Int32 → St → Rs} (X : Fx p s m meth c D cA A RX9 cX9_led 13 none) (HR : ∀ (σ : St) (x1 x2 : Int32) (r : Int32) (σ' : St), rc x1 x2 σ = some (r, σ') → MV l D cA A (wM cA ad) yX9_led cX9_led 13 none (rm_X9_led dd) [.ref (ad 0), .int x1, .int x2] ta σ σ' 0 0) {x1 x2 x3 x4 x5 x6 z0 : Int32} { σ : St} {H : Heap} {locs : List Loc} {ls : Array Slot} (hf : F_X9_led_181 rc x1 x2 x3 x4 x5 x6 z0 σ = some (r, σ')) (hP : va_P D vwCl (wM cA ad ta σ) H) (hD : va_D A (wM cA ad ta σ)) (hS : va_S A s.heap H locs) (hl : lv_has ls 13 [(0, .ref (ad 0)), (1, .int x1), (2, .int x2), (3, .int x3), (4, .int x4), (5, .int x5), (6, .int x6)]) : W p l e (rm_X9_led (dd + 1)) s m args below meth c H locs 0 0 (MQ below (QV D cA A (wM cA ad) σ' ta) args s 0 0 A) (F0 m 181 ls [.int z0]) := by
  obtain ⟨hx, hb, hr, hml, hown, hlk, hE, hK, hA⟩ := id X
  rw [F_X9_led_181] at hf
  refine lv_istore (lv' := [(7, .int z0), (0, .ref (ad 0)), (1, .int x1), (2, .int x2), (3, .int x3), (4, .int x4), (5, .int x5), (6, .int x6)]) hx hb dX9_led_181 hl (by decide) rfl (fun ls hl => ?_)
  exact t_X9_led_183 X HR 5000 x1 x2 x3 x4 x5 x6 z0 σ _ _ _ hf hP hD hS (lv_sub hl [1, 2, 3, 4, 5, 6, 7, 0] rfl)
set_option maxHeartbeats 4000000 in
set_option maxRecDepth 100000 in
theorem t_X9_led_161 {rc : Int32 → Int32 → St → Rs} (X : Fx p s m meth c D cA A RX9 cX9_led 13 none) (HR : ∀ (σ : St) (x1 x2 : Int32) (r : Int32) (σ' : St), rc x1 x2 σ = some (r, σ') → MV l D cA A (wM cA ad) yX9_led cX9_led 13 none (rm_X9_led dd) [.ref (ad 0), .int x1, .int x2] ta σ σ' 0 0) {x1 x2 x3 x4 x5 x6 z0 z1 : Int32} { σ : St} {H : Heap} {locs : List Loc} {ls : Array Slot} (hf : F_X9_led_161 rc x1 x2 x3 x4 x5 x6 z0 z1 σ = some (r, σ')) (hP : va_P D vwCl (wM cA ad ta σ) H) (hD : va_D A (wM cA ad ta σ)) (hS : va_S A s.heap H locs) (hl : lv_has ls 13 [(0, .ref (ad 0)), (1, .int x1), (2, .int x2), (3, .int x3), (4, .int x4), (5, .int x5), (6, .int x6)]) : W p l e (rm_X9_led (dd + 1)) s m args below meth c H locs 0 0 (MQ below (QV D cA A (wM cA ad) σ' ta) args s 0 0 A) (F0 m 161 ls [.int z0, .int z1, .ref (ad 0)]) := by
  obtain ⟨hx, hb, hr, hml, hown, hlk, hE, hK, hA⟩ := id X
  rw [F_X9_led_161] at hf
  refine lv_iadd hx hb dX9_led_161 ?_
  refine pM_Mod_askedFree X hP hD hS kw726 dX9_led_162 (fun H locs hP hD hS => ?_)
  obtain ⟨s1, es1, hf⟩ := bd_e hf
  rw [← es1] at hP hD
  refine lv_iload hx hb dX9_led_165 (lv_at hl 6 rfl) ?_
  refine lv_if_eq (tgt := 174) hx hb dX9_led_167 (by decide) (fun c2 => ?_) (fun c2 => ?_)
  · have hf := it_t c2 hf
    refine lv_aload_n hx hb dX9_led_174 rfl (lv_at hl 0 rfl) ?_
    refine gM_Mod_cell X hP kw719 dX9_led_175 ?_
    refine lv_iload hx hb dX9_led_178 (lv_at hl 5 rfl) ?_
    obtain ⟨b3, hf⟩ := ck_e hf
    refine lM_cell X hP b3 dX9_led_180 ?_
    refine lv_topi (fun y4 ey4 => ?_)
    have hf := bd_x ey4 hf
    exact t_X9_led_181 X HR hf hP hD hS (lv_sub hl [0, 1, 2, 3, 4, 5, 6] rfl)
  · have hf := it_f c2 hf
    refine lv_iconst (v := 0) hx hb dX9_led_170 (by decide) ?_
    refine lv_goto (tgt := 181) hx hb dX9_led_171 (by decide) ?_
    exact t_X9_led_181 X HR hf hP hD hS (lv_sub hl [0, 1, 2, 3, 4, 5, 6] rfl)
set_option maxHeartbeats 4000000 in
set_option maxRecDepth 100000 in
theorem t_X9_led_134 {rc : Int32 → Int32 → St → Rs} (X : Fx p s m meth c D cA A RX9 cX9_led 13 none) (HR : ∀ (σ : St) (x1 x2 : Int32) (r : Int32) (σ' : St), rc x1 x2 σ = some (r, σ') → MV l D cA A (wM cA ad) yX9_led cX9_led 13 none (rm_X9_led dd) [.ref (ad 0), .int x1, .int x2] ta σ σ' 0 0) {x1 x2 x3 x4 x5 z0 : Int32} { σ : St} {H : Heap} {locs : List Loc} {ls : Array Slot} (hf : F_X9_led_134 rc x1 x2 x3 x4 x5 z0 σ = some (r, σ')) (hP : va_P D vwCl (wM cA ad ta σ) H) (hD : va_D A (wM cA ad ta σ)) (hS : va_S A s.heap H locs) (hl : lv_has ls 13 [(0, .ref (ad 0)), (1, .int x1), (2, .int x2), (3, .int x3), (4, .int x4), (5, .int x5)]) : W p l e (rm_X9_led (dd + 1)) s m args below meth c H locs 0 0 (MQ below (QV D cA A (wM cA ad) σ' ta) args s 0 0 A) (F0 m 134 ls [.int z0]) := by
  obtain ⟨hx, hb, hr, hml, hown, hlk, hE, hK, hA⟩ := id X
  rw [F_X9_led_134] at hf
  refine lv_istore (lv' := [(6, .int z0), (0, .ref (ad 0)), (1, .int x1), (2, .int x2), (3, .int x3), (4, .int x4), (5, .int x5)]) hx hb dX9_led_134 hl (by decide) rfl (fun ls hl => ?_)
  refine lv_aload_n hx hb dX9_led_136 rfl (lv_at hl 1 rfl) ?_
  refine lv_dup hx hb dX9_led_137 rfl ?_
  refine gM_Mod_asked X hP kw725 dX9_led_138 ?_
  refine lv_iconst (v := 1) hx hb dX9_led_141 (by decide) ?_
  refine lv_iadd hx hb dX9_led_142 ?_
  refine pM_Mod_asked X hP hD hS kw725 dX9_led_143 (fun H locs hP hD hS => ?_)
  obtain ⟨s1, es1, hf⟩ := bd_e hf
  rw [← es1] at hP hD
  refine lv_aload_n hx hb dX9_led_146 rfl (lv_at hl 1 rfl) ?_
  refine lv_dup hx hb dX9_led_147 rfl ?_
  refine gM_Mod_askedFree X hP kw726 dX9_led_148 ?_
  refine lv_iload hx hb dX9_led_151 (lv_at hl 0 rfl) ?_
  refine lv_if_eq (tgt := 160) hx hb dX9_led_153 (by decide) (fun c2 => ?_) (fun c2 => ?_)
  · have hf := it_t c2 hf
    refine lv_iconst (v := 0) hx hb dX9_led_160 (by decide) ?_
    exact t_X9_led_161 X HR hf hP hD hS (lv_sub hl [1, 2, 3, 4, 5, 6, 0] rfl)
  · have hf := it_f c2 hf
    refine lv_iconst (v := 1) hx hb dX9_led_156 (by decide) ?_
    refine lv_goto (tgt := 161) hx hb dX9_led_157 (by decide) ?_
    exact t_X9_led_161 X HR hf hP hD hS (lv_sub hl [1, 2, 3, 4, 5, 6, 0] rfl)
set_option maxHeartbeats 4000000 in
set_option maxRecDepth 100000 in
theorem t_X9_led_0 {rc : Int32 → Int32 → St → Rs} (X : Fx p s m meth c D cA A RX9 cX9_led 13 none) (HR : ∀ (σ : St) (x1 x2 : Int32) (r : Int32) (σ' : St), rc x1 x2 σ = some (r, σ') → MV l D cA A (wM cA ad) yX9_led cX9_led 13 none (rm_X9_led dd) [.ref (ad 0), .int x1, .int x2] ta σ σ' 0 0) {x1 x2 : Int32} { σ : St} {H : Heap} {locs : List Loc} {ls : Array Slot} (hf : F_X9_ledb rc x1 x2 σ = some (r, σ')) (hP : va_P D vwCl (wM cA ad ta σ) H) (hD : va_D A (wM cA ad ta σ)) (hS : va_S A s.heap H locs) (hl : lv_has ls 13 [(0, .ref (ad 0)), (1, .int x1), (2, .int x2)]) : W p l e (rm_X9_led (dd + 1)) s m args below meth c H locs 0 0 (MQ below (QV D cA A (wM cA ad) σ' ta) args s 0 0 A) (F0 m 0 ls []) := by
  obtain ⟨hx, hb, hr, hml, hown, hlk, hE, hK, hA⟩ := id X
  rw [F_X9_ledb] at hf
  refine lv_aload_n hx hb dX9_led_0 rfl (lv_at hl 0 rfl) ?_
  refine lv_iload_n hx hb dX9_led_1 rfl (lv_at hl 1 rfl) ?_
  refine lv_iload_n hx hb dX9_led_2 rfl (lv_at hl 2 rfl) ?_
  obtain ⟨r1, s2, h3, hf⟩ := bo_e hf
  refine callV_i X cv_X9_needed kw887 (c_X9_needed l D cA A ad ta σ x1 x2 r1 s2 h3) ⟨by dsimp only [rm_X9_led, rm_X9_needed]; omega, by dsimp only [rm_X9_led, rm_X9_needed]; omega⟩ ⟨rfl, rfl⟩ hP hD hS (q0 := 0) (ci := 9) rfl rfl rfl rfl hl rfl (Nat.le_of_ble_eq_true rfl) dX9_led_3 ⟨Nat.le_of_ble_eq_true rfl, Nat.le_of_ble_eq_true rfl⟩ (fun H locs hP hD hS => ?_)
  refine lv_istore_n (lv' := [(3, .int r1), (0, .ref (ad 0)), (1, .int x1), (2, .int x2)]) hx hb dX9_led_6 rfl hl (by decide) rfl (fun ls hl => ?_)
  refine lv_aload_n hx hb dX9_led_7 rfl (lv_at hl 1 rfl) ?_
  refine gM_Mod_setEnd X hP kw705 dX9_led_8 ?_
  refine lv_topi (fun y4 ey4 => ?_)
  have hf := bd_x ey4 hf
  refine lv_istore (lv' := [(4, .int y4), (3, .int r1), (0, .ref (ad 0)), (1, .int x1), (2, .int x2)]) hx hb dX9_led_11 hl (by decide) rfl (fun ls hl => ?_)
  refine lv_iload_n hx hb dX9_led_13 rfl (lv_at hl 1 rfl) ?_
  refine lv_iconst (v := -1) hx hb dX9_led_14 (by decide) ?_
  refine lv_icmp_ne (tgt := 47) hx hb dX9_led_15 (by decide) (fun c5 => ?_) (fun c5 => ?_)
  · have hf := it_f c5 hf
    refine lv_iload_n hx hb dX9_led_47 rfl (lv_at hl 1 rfl) ?_
    refine lv_sipush (v := 170) hx hb dX9_led_48 (by decide) ?_
    refine lv_icmp_lt (tgt := 107) hx hb dX9_led_51 (by decide) (fun c6 => ?_) (fun c6 => ?_)
    · have hf := it_t c6 hf
      refine lv_aload_n hx hb dX9_led_107 rfl (lv_at hl 2 rfl) ?_
      refine lv_aload_n hx hb dX9_led_108 rfl (lv_at hl 2 rfl) ?_
      refine gM_Mod_terms X hP kw724 dX9_led_109 ?_
      refine lv_iload_n hx hb dX9_led_112 rfl (lv_at hl 1 rfl) ?_
      obtain ⟨b7, hf⟩ := ck_e hf
      refine lM_terms X hP b7 dX9_led_113 ?_
      refine lv_topi (fun y8 ey8 => ?_)
      have hf := bd_x ey8 hf
      obtain ⟨r9, s10, h11, hf⟩ := bo_e hf
      refine callV_i X cv_X9_here kw959 (c_X9_here l D cA A ad ta s2 y8 r9 s10 h11) ⟨by dsimp only [rm_X9_led, rm_X9_here]; omega, by dsimp only [rm_X9_led, rm_X9_here]; omega⟩ ⟨rfl, rfl⟩ hP hD hS (q0 := 0) (ci := 9) rfl rfl rfl rfl hl rfl (Nat.le_of_ble_eq_true rfl) dX9_led_114 ⟨Nat.le_of_ble_eq_true rfl, Nat.le_of_ble_eq_true rfl⟩ (fun H locs hP hD hS => ?_)
      refine lv_istore (lv' := [(5, .int r9), (4, .int y4), (3, .int r1), (0, .ref (ad 0)), (1, .int x1), (2, .int x2)]) hx hb dX9_led_117 hl (by decide) rfl (fun ls hl => ?_)
      refine lv_aload_n hx hb dX9_led_119 rfl (lv_at hl 3 rfl) ?_
      refine gM_Mod_cell X hP kw719 dX9_led_120 ?_
      refine lv_iload hx hb dX9_led_123 (lv_at hl 0 rfl) ?_
      obtain ⟨b12, hf⟩ := ck_e hf
      refine lM_cell X hP b12 dX9_led_125 ?_
      refine lv_topi (fun y13 ey13 => ?_)
      have hf := bd_x ey13 hf
      refine lv_if_ge (tgt := 133) hx hb dX9_led_126 (by decide) (fun c14 => ?_) (fun c14 => ?_)
      · have hf := it_t c14 hf
        refine lv_iconst (v := 0) hx hb dX9_led_133 (by decide) ?_
        exact t_X9_led_134 X HR hf hP hD hS (lv_sub hl [3, 4, 5, 2, 1, 0] rfl)
      · have hf := it_f c14 hf
        refine lv_iconst (v := 1) hx hb dX9_led_129 (by decide) ?_
        refine lv_goto (tgt := 134) hx hb dX9_led_130 (by decide) ?_
        exact t_X9_led_134 X HR hf hP hD hS (lv_sub hl [3, 4, 5, 2, 1, 0] rfl)
    · have hf := it_f c6 hf
      refine lv_iconst (v := 0) hx hb dX9_led_54 (by decide) ?_
      refine lv_istore (lv' := [(5, .int 0), (4, .int y4), (3, .int r1), (0, .ref (ad 0)), (1, .int x1), (2, .int x2)]) hx hb dX9_led_55 hl (by decide) rfl (fun ls hl => ?_)
      exact t_X9_led_57 X HR 5000 x1 x2 r1 y4 0 s2 _ _ _ hf hP hD hS (lv_sub hl [3, 4, 5, 2, 1, 0] rfl)
  · have hf := it_t c5 hf
    refine lv_iload_n hx hb dX9_led_18 rfl (lv_at hl 3 rfl) ?_
    refine lv_istore (lv' := [(5, .int x1), (4, .int y4), (3, .int r1), (0, .ref (ad 0)), (1, .int x1), (2, .int x2)]) hx hb dX9_led_19 hl (by decide) rfl (fun ls hl => ?_)
    exact t_X9_led_21 X HR 5000 x1 x2 x1 s2 _ _ _ hf hP hD hS (lv_sub hl [3, 4, 5, 0] rfl)
end S_X9_led
theorem c_X9_led (l : Launch) (D : va_G) (cA : ClassId) (A : Nat → Prop) (ad : Nat → Nat) (ta : Nat) : ∀ (d : Nat) (σ : St) (x1 x2 : Int32) (r : Int32) (σ' : St), F_X9_led d x1 x2 σ = some (r, σ') → MV l D cA A (wM cA ad) yX9_led cX9_led 13 none (rm_X9_led d) [.ref (ad 0), .int x1, .int x2] ta σ σ' 0 0 := by
  intro d
  induction d with
  | zero =>
    intro σ x1 x2 r σ' hf
    cases (show (none : Rs) = some _ from hf)
  | succ d ih =>
    intro σ x1 x2 r σ' hf
    rw [F_X9_led] at hf
    refine enter (by decide) (Nat.le_of_ble_eq_true rfl) ?_
    intro p e s m below meth c ls X hnm hP hD hS hl
    exact t_X9_led_0 X ih hf hP hD hS hl
abbrev rm_X9_go : Room := { frames := 1000, cells := 0, slots := 0, locals := 40000 }
def F_X9_go_52  (σ : St) : Rs :=
  if (gF σ 4) ≤ 0 then (some (0, σ)) else (bo (F_X9_led 300 0 (gF σ 4) σ) (fun r2 s3 => some (0, s3)))
def F_X9_go_31  : Nat → Int32 → St → Rs
  | 0, _, _ => none
  | n + 1, x2, σ => if (gF σ 2) ≤ x2 then (F_X9_go_52 σ) else (ck (inb x2 170) (bd (sA σ 29 (upd (gA σ 29) x2.toNatClampNeg x2)) (fun s3 => F_X9_go_31 n (x2 + 1) s3)))
def F_X9_go (x1 : Int32) (σ : St) : Rs :=
  bd (sF σ 21 x1) (fun s1 => bd (sF s1 20 0) (fun s2 => ck (isB 0) (bd (sF s2 26 0) (fun s4 => bd (sF s4 17 0) (fun s5 => bd (sF s5 18 0) (fun s6 => bo (F_X9_openAll  s6) (fun r7 s8 => F_X9_go_31 5000 0 s8)))))))
section S_X9_go
variable {p : Program} {l : Launch} {e : Env} {s : State} {m : MethodId} {args : Array Value} {below : List Frame} {meth : Method} {c : Code}
variable {D : va_G} {cA : ClassId} {A : Nat → Prop} {ad : Nat → Nat} {r : Int32} {σ' : St} {ta : Nat}
set_option maxHeartbeats 4000000 in
set_option maxRecDepth 100000 in
theorem t_X9_go_52  (X : Fx p s m meth c D cA A RX9 cX9_go 3 none)  { σ : St} {H : Heap} {locs : List Loc} {ls : Array Slot} (hf : F_X9_go_52 σ = some (r, σ')) (hP : va_P D vwCl (wM cA ad ta σ) H) (hD : va_D A (wM cA ad ta σ)) (hS : va_S A s.heap H locs) (hl : lv_has ls 3 [(0, .ref (ad 0))]) : W p l e (rm_X9_go) s m args below meth c H locs 0 0 (MQ below (QV D cA A (wM cA ad) σ' ta) args s 0 0 A) (F0 m 52 ls []) := by
  obtain ⟨hx, hb, hr, hml, hown, hlk, hE, hK, hA⟩ := id X
  rw [F_X9_go_52] at hf
  refine lv_aload_n hx hb dX9_go_52 rfl (lv_at hl 0 rfl) ?_
  refine gM_Mod_rules X hP kw686 dX9_go_53 ?_
  refine lv_if_le (tgt := 68) hx hb dX9_go_56 (by decide) (fun c1 => ?_) (fun c1 => ?_)
  · have hf := it_t c1 hf
    obtain ⟨rfl, rfl⟩ := Prod.mk.inj (Option.some.inj hf)
    exact ret_v X hP hD hS dX9_go_68
  · have hf := it_f c1 hf
    refine lv_aload_n hx hb dX9_go_59 rfl (lv_at hl 0 rfl) ?_
    refine lv_iconst (v := 0) hx hb dX9_go_60 (by decide) ?_
    refine lv_aload_n hx hb dX9_go_61 rfl (lv_at hl 0 rfl) ?_
    refine gM_Mod_rules X hP kw686 dX9_go_62 ?_
    obtain ⟨r2, s3, h4, hf⟩ := bo_e hf
    refine callS_v X cs_X9_led kw952 (c_X9_led l D cA A ad ta 300 σ 0 (gF σ 4) r2 s3 h4) ⟨by decide, by decide⟩ ⟨rfl, rfl⟩ hP hD hS rfl hl rfl (Nat.le_of_ble_eq_true rfl) dX9_go_65 ⟨by decide, by decide⟩ (fun H locs hP hD hS => ?_)
    obtain ⟨rfl, rfl⟩ := Prod.mk.inj (Option.some.inj hf)
    exact ret_v X hP hD hS dX9_go_68
set_option maxHeartbeats 4000000 in
set_option maxRecDepth 100000 in
theorem t_X9_go_31  (X : Fx p s m meth c D cA A RX9 cX9_go 3 none)  : ∀ (n : Nat) (x2 : Int32) (σ : St) (H : Heap) (locs : List Loc) (ls : Array Slot), F_X9_go_31 n x2 σ = some (r, σ') → va_P D vwCl (wM cA ad ta σ) H → va_D A (wM cA ad ta σ) → va_S A s.heap H locs → lv_has ls 3 [(0, .ref (ad 0)), (2, .int x2)] → W p l e (rm_X9_go) s m args below meth c H locs 0 0 (MQ below (QV D cA A (wM cA ad) σ' ta) args s 0 0 A) (F0 m 31 ls []) := by
  obtain ⟨hx, hb, hr, hml, hown, hlk, hE, hK, hA⟩ := id X
  intro n
  induction n with
  | zero =>
    intro x2 σ H locs ls hf
    cases (show (none : Rs) = some _ from hf)
  | succ n ih =>
    intro x2 σ H locs ls hf hP hD hS hl
    rw [F_X9_go_31] at hf
    refine lv_iload_n hx hb dX9_go_31 rfl (lv_at hl 1 rfl) ?_
    refine lv_aload_n hx hb dX9_go_32 rfl (lv_at hl 0 rfl) ?_
    refine gM_Mod_args X hP kw684 dX9_go_33 ?_
    refine lv_icmp_ge (tgt := 52) hx hb dX9_go_36 (by decide) (fun c1 => ?_) (fun c1 => ?_)
    · have hf := it_t c1 hf
      exact t_X9_go_52 X  hf hP hD hS (lv_sub hl [0] rfl)
    · have hf := it_f c1 hf
      refine lv_aload_n hx hb dX9_go_39 rfl (lv_at hl 0 rfl) ?_
      refine gM_Mod_terms X hP kw724 dX9_go_40 ?_
      refine lv_iload_n hx hb dX9_go_43 rfl (lv_at hl 1 rfl) ?_
      refine lv_iload_n hx hb dX9_go_44 rfl (lv_at hl 1 rfl) ?_
      obtain ⟨b2, hf⟩ := ck_e hf
      refine sM_terms X hP hD hS b2 dX9_go_45 (fun H locs hP hD hS => ?_)
      obtain ⟨s3, es3, hf⟩ := bd_e hf
      rw [← es3] at hP hD
      refine lv_iinc (v := (x2 + 1)) (lv' := [(2, .int (x2 + 1)), (0, .ref (ad 0))]) hx hb dX9_go_46 hl (k := 1) rfl rfl (by decide) rfl (fun ls hl => ?_)
      refine lv_goto (tgt := 31) hx hb dX9_go_49 (by decide) ?_
      exact ih (x2 + 1) s3 _ _ _ hf hP hD hS (lv_sub hl [1, 0] rfl)
set_option maxHeartbeats 4000000 in
set_option maxRecDepth 100000 in
theorem t_X9_go_0  (X : Fx p s m meth c D cA A RX9 cX9_go 3 none)  {x1 : Int32} { σ : St} {H : Heap} {locs : List Loc} {ls : Array Slot} (hf : F_X9_go x1 σ = some (r, σ')) (hP : va_P D vwCl (wM cA ad ta σ) H) (hD : va_D A (wM cA ad ta σ)) (hS : va_S A s.heap H locs) (hl : lv_has ls 3 [(0, .ref (ad 0)), (1, .int x1)]) : W p l e (rm_X9_go) s m args below meth c H locs 0 0 (MQ below (QV D cA A (wM cA ad) σ' ta) args s 0 0 A) (F0 m 0 ls []) := by
  obtain ⟨hx, hb, hr, hml, hown, hlk, hE, hK, hA⟩ := id X
  rw [F_X9_go] at hf
  refine lv_aload_n hx hb dX9_go_0 rfl (lv_at hl 0 rfl) ?_
  refine lv_iload_n hx hb dX9_go_1 rfl (lv_at hl 1 rfl) ?_
  refine pM_Mod_sought X hP hD hS kw729 dX9_go_2 (fun H locs hP hD hS => ?_)
  obtain ⟨s1, es1, hf⟩ := bd_e hf
  rw [← es1] at hP hD
  refine lv_aload_n hx hb dX9_go_5 rfl (lv_at hl 0 rfl) ?_
  refine lv_iconst (v := 0) hx hb dX9_go_6 (by decide) ?_
  refine pM_Mod_came X hP hD hS kw728 dX9_go_7 (fun H locs hP hD hS => ?_)
  obtain ⟨s2, es2, hf⟩ := bd_e hf
  rw [← es2] at hP hD
  refine lv_aload_n hx hb dX9_go_10 rfl (lv_at hl 0 rfl) ?_
  refine lv_iconst (v := 0) hx hb dX9_go_11 (by decide) ?_
  obtain ⟨b3, hf⟩ := ck_e hf
  refine pM_Mod_isLong X b3 hP hD hS kw735 dX9_go_12 (fun H locs hP hD hS => ?_)
  obtain ⟨s4, es4, hf⟩ := bd_e hf
  rw [← es4] at hP hD
  refine lv_aload_n hx hb dX9_go_15 rfl (lv_at hl 0 rfl) ?_
  refine lv_iconst (v := 0) hx hb dX9_go_16 (by decide) ?_
  refine pM_Mod_asked X hP hD hS kw725 dX9_go_17 (fun H locs hP hD hS => ?_)
  obtain ⟨s5, es5, hf⟩ := bd_e hf
  rw [← es5] at hP hD
  refine lv_aload_n hx hb dX9_go_20 rfl (lv_at hl 0 rfl) ?_
  refine lv_iconst (v := 0) hx hb dX9_go_21 (by decide) ?_
  refine pM_Mod_askedFree X hP hD hS kw726 dX9_go_22 (fun H locs hP hD hS => ?_)
  obtain ⟨s6, es6, hf⟩ := bd_e hf
  rw [← es6] at hP hD
  refine lv_aload_n hx hb dX9_go_25 rfl (lv_at hl 0 rfl) ?_
  obtain ⟨r7, s8, h9, hf⟩ := bo_e hf
  refine callV_v X cv_X9_openAll kw880 (c_X9_openAll l D cA A ad ta s6  r7 s8 h9) ⟨by decide, by decide⟩ ⟨rfl, rfl⟩ hP hD hS (q0 := 0) (ci := 9) rfl rfl rfl rfl hl rfl (Nat.le_of_ble_eq_true rfl) dX9_go_26 ⟨by decide, by decide⟩ (fun H locs hP hD hS => ?_)
  refine lv_iconst (v := 0) hx hb dX9_go_29 (by decide) ?_
  refine lv_istore_n (lv' := [(2, .int 0), (0, .ref (ad 0)), (1, .int x1)]) hx hb dX9_go_30 rfl hl (by decide) rfl (fun ls hl => ?_)
  exact t_X9_go_31 X  5000 0 s8 _ _ _ hf hP hD hS (lv_sub hl [1, 0] rfl)
end S_X9_go
theorem c_X9_go (l : Launch) (D : va_G) (cA : ClassId) (A : Nat → Prop) (ad : Nat → Nat) (ta : Nat) (σ : St) (x1 : Int32) (r : Int32) (σ' : St) (hf : F_X9_go x1 σ = some (r, σ')) : MV l D cA A (wM cA ad) yX9_go cX9_go 3 none rm_X9_go [.ref (ad 0), .int x1] ta σ σ' 0 0 := by
  refine enter (by decide) (Nat.le_of_ble_eq_true rfl) ?_
  intro p e s m below meth c ls X hnm hP hD hS hl
  exact t_X9_go_0 X hf hP hD hS hl
abbrev rm_X9_lead : Room := { frames := 1001, cells := 0, slots := 0, locals := 40022 }
def F_X9_lead_40 (x1 : Int32) (σ : St) : Rs :=
  bd (sF σ 5 0) (fun s1 => if (gF s1 2) = (-1) then (some ((-1), s1)) else (some (((-2) - x1), s1)))
def F_X9_lead_117  (σ : St) : Rs :=
  some ((-1000), σ)
def F_X9_lead_97 (z0 : Int32) (σ : St) : Rs :=
  bd (sF σ 19 z0) (fun s1 => if (gF s1 26) = 0 then (if (gF s1 20) ≤ 200 then (some ((gF s1 20), s1)) else (F_X9_lead_117 s1)) else (F_X9_lead_117 s1))
def F_X9_lead_89  (σ : St) : Rs :=
  F_X9_lead_97 0 σ
def F_X9_lead_27 (z0 : Int32) (σ : St) : Rs :=
  if (gF σ 2) = (-1) then (F_X9_lead_40 z0 σ) else (if z0 < 0 then (bo (F_X9_read  σ) (fun r3 s4 => bo (F_X9_go (-1) s4) (fun r6 s7 => if (gF s7 26) = 0 then (if (gF s7 20) ≤ 200 then (F_X9_lead_97 (gF s7 20) s7) else (F_X9_lead_89 s7)) else (F_X9_lead_89 s7)))) else (F_X9_lead_40 z0 σ))
def F_X9_lead  (σ : St) : Rs :=
  bd (sF σ 19 0) (fun s1 => bd (sF s1 21 (-1)) (fun s2 => if (gF s2 2) = (-1) then (F_X9_lead_27 (-1) s2) else (bo (F_X9_wrong 1 s2) (fun r4 s5 => F_X9_lead_27 r4 s5))))
section S_X9_lead
variable {p : Program} {l : Launch} {e : Env} {s : State} {m : MethodId} {args : Array Value} {below : List Frame} {meth : Method} {c : Code}
variable {D : va_G} {cA : ClassId} {A : Nat → Prop} {ad : Nat → Nat} {r : Int32} {σ' : St} {ta : Nat}
set_option maxHeartbeats 4000000 in
set_option maxRecDepth 100000 in
theorem t_X9_lead_40  (X : Fx p s m meth c D cA A RX9 cX9_lead 2 (some .int))  {x1 : Int32} { σ : St} {H : Heap} {locs : List Loc} {ls : Array Slot} (hf : F_X9_lead_40 x1 σ = some (r, σ')) (hP : va_P D vwCl (wM cA ad ta σ) H) (hD : va_D A (wM cA ad ta σ)) (hS : va_S A s.heap H locs) (hl : lv_has ls 2 [(0, .ref (ad 0)), (1, .int x1)]) : W p l e (rm_X9_lead) s m args below meth c H locs 0 0 (MQ below (QI D cA A (wM cA ad) r σ' ta) args s 0 0 A) (F0 m 40 ls []) := by
  obtain ⟨hx, hb, hr, hml, hown, hlk, hE, hK, hA⟩ := id X
  rw [F_X9_lead_40] at hf
  refine lv_aload_n hx hb dX9_lead_40 rfl (lv_at hl 0 rfl) ?_
  refine lv_iconst (v := 0) hx hb dX9_lead_41 (by decide) ?_
  refine pM_Mod_size X hP hD hS kw688 dX9_lead_42 (fun H locs hP hD hS => ?_)
  obtain ⟨s1, es1, hf⟩ := bd_e hf
  rw [← es1] at hP hD
  refine lv_aload_n hx hb dX9_lead_45 rfl (lv_at hl 0 rfl) ?_
  refine gM_Mod_args X hP kw684 dX9_lead_46 ?_
  refine lv_iconst (v := -1) hx hb dX9_lead_49 (by decide) ?_
  refine lv_icmp_ne (tgt := 57) hx hb dX9_lead_50 (by decide) (fun c2 => ?_) (fun c2 => ?_)
  · have hf := it_f c2 hf
    refine lv_bipush (v := -2) hx hb dX9_lead_57 (by decide) ?_
    refine lv_iload_n hx hb dX9_lead_59 rfl (lv_at hl 1 rfl) ?_
    refine lv_isub hx hb dX9_lead_60 ?_
    obtain ⟨rfl, rfl⟩ := Prod.mk.inj (Option.some.inj hf)
    exact ret_i X hP hD hS dX9_lead_61
  · have hf := it_t c2 hf
    refine lv_iconst (v := -1) hx hb dX9_lead_53 (by decide) ?_
    refine lv_goto (tgt := 61) hx hb dX9_lead_54 (by decide) ?_
    obtain ⟨rfl, rfl⟩ := Prod.mk.inj (Option.some.inj hf)
    exact ret_i X hP hD hS dX9_lead_61
set_option maxHeartbeats 4000000 in
set_option maxRecDepth 100000 in
theorem t_X9_lead_117  (X : Fx p s m meth c D cA A RX9 cX9_lead 2 (some .int))  { σ : St} {H : Heap} {locs : List Loc} {ls : Array Slot} (hf : F_X9_lead_117 σ = some (r, σ')) (hP : va_P D vwCl (wM cA ad ta σ) H) (hD : va_D A (wM cA ad ta σ)) (hS : va_S A s.heap H locs) (hl : lv_has ls 2 []) : W p l e (rm_X9_lead) s m args below meth c H locs 0 0 (MQ below (QI D cA A (wM cA ad) r σ' ta) args s 0 0 A) (F0 m 117 ls []) := by
  obtain ⟨hx, hb, hr, hml, hown, hlk, hE, hK, hA⟩ := id X
  rw [F_X9_lead_117] at hf
  refine lv_sipush (v := -1000) hx hb dX9_lead_117 (by decide) ?_
  refine lv_goto (tgt := 127) hx hb dX9_lead_120 (by decide) ?_
  obtain ⟨rfl, rfl⟩ := Prod.mk.inj (Option.some.inj hf)
  exact ret_i X hP hD hS dX9_lead_127
set_option maxHeartbeats 4000000 in
set_option maxRecDepth 100000 in
theorem t_X9_lead_97  (X : Fx p s m meth c D cA A RX9 cX9_lead 2 (some .int))  {z0 : Int32} { σ : St} {H : Heap} {locs : List Loc} {ls : Array Slot} (hf : F_X9_lead_97 z0 σ = some (r, σ')) (hP : va_P D vwCl (wM cA ad ta σ) H) (hD : va_D A (wM cA ad ta σ)) (hS : va_S A s.heap H locs) (hl : lv_has ls 2 [(0, .ref (ad 0))]) : W p l e (rm_X9_lead) s m args below meth c H locs 0 0 (MQ below (QI D cA A (wM cA ad) r σ' ta) args s 0 0 A) (F0 m 97 ls [.int z0, .ref (ad 0)]) := by
  obtain ⟨hx, hb, hr, hml, hown, hlk, hE, hK, hA⟩ := id X
  rw [F_X9_lead_97] at hf
  refine pM_Mod_outcomes X hP hD hS kw727 dX9_lead_97 (fun H locs hP hD hS => ?_)
  obtain ⟨s1, es1, hf⟩ := bd_e hf
  rw [← es1] at hP hD
  refine lv_aload_n hx hb dX9_lead_100 rfl (lv_at hl 0 rfl) ?_
  refine gM_Mod_isLong X hP kw735 dX9_lead_101 ?_
  refine lv_if_ne (tgt := 117) hx hb dX9_lead_104 (by decide) (fun c2 => ?_) (fun c2 => ?_)
  · have hf := it_f c2 hf
    exact t_X9_lead_117 X  hf hP hD hS (lv_sub hl [] rfl)
  · have hf := it_t c2 hf
    refine lv_aload_n hx hb dX9_lead_107 rfl (lv_at hl 0 rfl) ?_
    refine gM_Mod_came X hP kw728 dX9_lead_108 ?_
    refine lv_sipush (v := 200) hx hb dX9_lead_111 (by decide) ?_
    refine lv_icmp_le (tgt := 123) hx hb dX9_lead_114 (by decide) (fun c3 => ?_) (fun c3 => ?_)
    · have hf := it_t c3 hf
      refine lv_aload_n hx hb dX9_lead_123 rfl (lv_at hl 0 rfl) ?_
      refine gM_Mod_came X hP kw728 dX9_lead_124 ?_
      obtain ⟨rfl, rfl⟩ := Prod.mk.inj (Option.some.inj hf)
      exact ret_i X hP hD hS dX9_lead_127
    · have hf := it_f c3 hf
      exact t_X9_lead_117 X  hf hP hD hS (lv_sub hl [] rfl)
set_option maxHeartbeats 4000000 in
set_option maxRecDepth 100000 in
theorem t_X9_lead_89  (X : Fx p s m meth c D cA A RX9 cX9_lead 2 (some .int))  { σ : St} {H : Heap} {locs : List Loc} {ls : Array Slot} (hf : F_X9_lead_89 σ = some (r, σ')) (hP : va_P D vwCl (wM cA ad ta σ) H) (hD : va_D A (wM cA ad ta σ)) (hS : va_S A s.heap H locs) (hl : lv_has ls 2 [(0, .ref (ad 0))]) : W p l e (rm_X9_lead) s m args below meth c H locs 0 0 (MQ below (QI D cA A (wM cA ad) r σ' ta) args s 0 0 A) (F0 m 89 ls [.ref (ad 0)]) := by
  obtain ⟨hx, hb, hr, hml, hown, hlk, hE, hK, hA⟩ := id X
  rw [F_X9_lead_89] at hf
  refine lv_iconst (v := 0) hx hb dX9_lead_89 (by decide) ?_
  refine lv_goto (tgt := 97) hx hb dX9_lead_90 (by decide) ?_
  exact t_X9_lead_97 X  hf hP hD hS (lv_sub hl [0] rfl)
set_option maxHeartbeats 4000000 in
set_option maxRecDepth 100000 in
theorem t_X9_lead_27  (X : Fx p s m meth c D cA A RX9 cX9_lead 2 (some .int))  {z0 : Int32} { σ : St} {H : Heap} {locs : List Loc} {ls : Array Slot} (hf : F_X9_lead_27 z0 σ = some (r, σ')) (hP : va_P D vwCl (wM cA ad ta σ) H) (hD : va_D A (wM cA ad ta σ)) (hS : va_S A s.heap H locs) (hl : lv_has ls 2 [(0, .ref (ad 0))]) : W p l e (rm_X9_lead) s m args below meth c H locs 0 0 (MQ below (QI D cA A (wM cA ad) r σ' ta) args s 0 0 A) (F0 m 27 ls [.int z0]) := by
  obtain ⟨hx, hb, hr, hml, hown, hlk, hE, hK, hA⟩ := id X
  rw [F_X9_lead_27] at hf
  refine lv_istore_n (lv' := [(1, .int z0), (0, .ref (ad 0))]) hx hb dX9_lead_27 rfl hl (by decide) rfl (fun ls hl => ?_)
  refine lv_aload_n hx hb dX9_lead_28 rfl (lv_at hl 1 rfl) ?_
  refine gM_Mod_args X hP kw684 dX9_lead_29 ?_
  refine lv_iconst (v := -1) hx hb dX9_lead_32 (by decide) ?_
  refine lv_icmp_eq (tgt := 40) hx hb dX9_lead_33 (by decide) (fun c1 => ?_) (fun c1 => ?_)
  · have hf := it_t c1 hf
    exact t_X9_lead_40 X  hf hP hD hS (lv_sub hl [1, 0] rfl)
  · have hf := it_f c1 hf
    refine lv_iload_n hx hb dX9_lead_36 rfl (lv_at hl 0 rfl) ?_
    refine lv_if_lt (tgt := 62) hx hb dX9_lead_37 (by decide) (fun c2 => ?_) (fun c2 => ?_)
    · have hf := it_t c2 hf
      refine lv_aload_n hx hb dX9_lead_62 rfl (lv_at hl 1 rfl) ?_
      obtain ⟨r3, s4, h5, hf⟩ := bo_e hf
      refine callV_v X cv_X9_read kw940 (c_X9_read l D cA A ad ta σ  r3 s4 h5) ⟨by decide, by decide⟩ ⟨rfl, rfl⟩ hP hD hS (q0 := 0) (ci := 9) rfl rfl rfl rfl hl rfl (Nat.le_of_ble_eq_true rfl) dX9_lead_63 ⟨by decide, by decide⟩ (fun H locs hP hD hS => ?_)
      refine lv_aload_n hx hb dX9_lead_66 rfl (lv_at hl 1 rfl) ?_
      refine lv_iconst (v := -1) hx hb dX9_lead_67 (by decide) ?_
      obtain ⟨r6, s7, h8, hf⟩ := bo_e hf
      refine callV_v X cv_X9_go kw948 (c_X9_go l D cA A ad ta s4 (-1) r6 s7 h8) ⟨by decide, by decide⟩ ⟨rfl, rfl⟩ hP hD hS (q0 := 0) (ci := 9) rfl rfl rfl rfl hl rfl (Nat.le_of_ble_eq_true rfl) dX9_lead_68 ⟨by decide, by decide⟩ (fun H locs hP hD hS => ?_)
      refine lv_aload_n hx hb dX9_lead_71 rfl (lv_at hl 1 rfl) ?_
      refine lv_aload_n hx hb dX9_lead_72 rfl (lv_at hl 1 rfl) ?_
      refine gM_Mod_isLong X hP kw735 dX9_lead_73 ?_
      refine lv_if_ne (tgt := 89) hx hb dX9_lead_76 (by decide) (fun c9 => ?_) (fun c9 => ?_)
      · have hf := it_f c9 hf
        exact t_X9_lead_89 X  hf hP hD hS (lv_sub hl [1] rfl)
      · have hf := it_t c9 hf
        refine lv_aload_n hx hb dX9_lead_79 rfl (lv_at hl 1 rfl) ?_
        refine gM_Mod_came X hP kw728 dX9_lead_80 ?_
        refine lv_sipush (v := 200) hx hb dX9_lead_83 (by decide) ?_
        refine lv_icmp_le (tgt := 93) hx hb dX9_lead_86 (by decide) (fun c10 => ?_) (fun c10 => ?_)
        · have hf := it_t c10 hf
          refine lv_aload_n hx hb dX9_lead_93 rfl (lv_at hl 1 rfl) ?_
          refine gM_Mod_came X hP kw728 dX9_lead_94 ?_
          exact t_X9_lead_97 X  hf hP hD hS (lv_sub hl [1] rfl)
        · have hf := it_f c10 hf
          exact t_X9_lead_89 X  hf hP hD hS (lv_sub hl [1] rfl)
    · have hf := it_f c2 hf
      exact t_X9_lead_40 X  hf hP hD hS (lv_sub hl [1, 0] rfl)
set_option maxHeartbeats 4000000 in
set_option maxRecDepth 100000 in
theorem t_X9_lead_0  (X : Fx p s m meth c D cA A RX9 cX9_lead 2 (some .int))  { σ : St} {H : Heap} {locs : List Loc} {ls : Array Slot} (hf : F_X9_lead σ = some (r, σ')) (hP : va_P D vwCl (wM cA ad ta σ) H) (hD : va_D A (wM cA ad ta σ)) (hS : va_S A s.heap H locs) (hl : lv_has ls 2 [(0, .ref (ad 0))]) : W p l e (rm_X9_lead) s m args below meth c H locs 0 0 (MQ below (QI D cA A (wM cA ad) r σ' ta) args s 0 0 A) (F0 m 0 ls []) := by
  obtain ⟨hx, hb, hr, hml, hown, hlk, hE, hK, hA⟩ := id X
  rw [F_X9_lead] at hf
  refine lv_aload_n hx hb dX9_lead_0 rfl (lv_at hl 0 rfl) ?_
  refine lv_iconst (v := 0) hx hb dX9_lead_1 (by decide) ?_
  refine pM_Mod_outcomes X hP hD hS kw727 dX9_lead_2 (fun H locs hP hD hS => ?_)
  obtain ⟨s1, es1, hf⟩ := bd_e hf
  rw [← es1] at hP hD
  refine lv_aload_n hx hb dX9_lead_5 rfl (lv_at hl 0 rfl) ?_
  refine lv_iconst (v := -1) hx hb dX9_lead_6 (by decide) ?_
  refine pM_Mod_sought X hP hD hS kw729 dX9_lead_7 (fun H locs hP hD hS => ?_)
  obtain ⟨s2, es2, hf⟩ := bd_e hf
  rw [← es2] at hP hD
  refine lv_aload_n hx hb dX9_lead_10 rfl (lv_at hl 0 rfl) ?_
  refine gM_Mod_args X hP kw684 dX9_lead_11 ?_
  refine lv_iconst (v := -1) hx hb dX9_lead_14 (by decide) ?_
  refine lv_icmp_ne (tgt := 22) hx hb dX9_lead_15 (by decide) (fun c3 => ?_) (fun c3 => ?_)
  · have hf := it_f c3 hf
    refine lv_aload_n hx hb dX9_lead_22 rfl (lv_at hl 0 rfl) ?_
    refine lv_iconst (v := 1) hx hb dX9_lead_23 (by decide) ?_
    obtain ⟨r4, s5, h6, hf⟩ := bo_e hf
    refine callV_i X cv_X9_wrong kw924 (c_X9_wrong l D cA A ad ta s2 1 r4 s5 h6) ⟨by decide, by decide⟩ ⟨rfl, rfl⟩ hP hD hS (q0 := 0) (ci := 9) rfl rfl rfl rfl hl rfl (Nat.le_of_ble_eq_true rfl) dX9_lead_24 ⟨by decide, by decide⟩ (fun H locs hP hD hS => ?_)
    exact t_X9_lead_27 X  hf hP hD hS (lv_sub hl [0] rfl)
  · have hf := it_t c3 hf
    refine lv_iconst (v := -1) hx hb dX9_lead_18 (by decide) ?_
    refine lv_goto (tgt := 27) hx hb dX9_lead_19 (by decide) ?_
    exact t_X9_lead_27 X  hf hP hD hS (lv_sub hl [0] rfl)
end S_X9_lead
theorem c_X9_lead (l : Launch) (D : va_G) (cA : ClassId) (A : Nat → Prop) (ad : Nat → Nat) (ta : Nat) (σ : St) (r : Int32) (σ' : St) (hf : F_X9_lead σ = some (r, σ')) : MI l D cA A (wM cA ad) yX9_lead cX9_lead 2 (some .int) rm_X9_lead [.ref (ad 0)] ta σ r σ' 0 0 := by
  refine enter (by decide) (Nat.le_of_ble_eq_true rfl) ?_
  intro p e s m below meth c ls X hnm hP hD hS hl
  exact t_X9_lead_0 X hf hP hD hS hl
abbrev rm_X9_outcome : Room := { frames := 1001, cells := 0, slots := 0, locals := 40022 }
def F_X9_outcome_32 (x2 : Int32) (σ : St) : Rs :=
  if x2 = 0 then (some ((gF σ 22), σ)) else (if x2 = 1 then (some ((gF σ 23), σ)) else (if x2 = 2 then (some ((gF σ 24), σ)) else (if x2 = 3 then (some ((gF σ 25), σ)) else (if (gF σ 25) ≤ (x2 - 4) then (some ((-9), σ)) else (ck (inb (x2 - 4) 401) (bd (gA σ 30 (x2 - 4).toNatClampNeg) (fun y7 => some (y7, σ))))))))
def F_X9_outcome (x1 : Int32) (x2 : Int32) (σ : St) : Rs :=
  if x1 < 0 then (some ((-9), σ)) else (if (gF σ 19) ≤ x1 then (some ((-9), σ)) else (if 0 ≤ x2 then (if (gF σ 21) = x1 then (F_X9_outcome_32 x2 σ) else (bo (F_X9_go x1 σ) (fun r5 s6 => F_X9_outcome_32 x2 s6))) else (some ((-9), σ))))
section S_X9_outcome
variable {p : Program} {l : Launch} {e : Env} {s : State} {m : MethodId} {args : Array Value} {below : List Frame} {meth : Method} {c : Code}
variable {D : va_G} {cA : ClassId} {A : Nat → Prop} {ad : Nat → Nat} {r : Int32} {σ' : St} {ta : Nat}
set_option maxHeartbeats 4000000 in
set_option maxRecDepth 100000 in
theorem t_X9_outcome_32  (X : Fx p s m meth c D cA A RX9 cX9_outcome 3 (some .int))  {x2 : Int32} { σ : St} {H : Heap} {locs : List Loc} {ls : Array Slot} (hf : F_X9_outcome_32 x2 σ = some (r, σ')) (hP : va_P D vwCl (wM cA ad ta σ) H) (hD : va_D A (wM cA ad ta σ)) (hS : va_S A s.heap H locs) (hl : lv_has ls 3 [(0, .ref (ad 0)), (2, .int x2)]) : W p l e (rm_X9_outcome) s m args below meth c H locs 0 0 (MQ below (QI D cA A (wM cA ad) r σ' ta) args s 0 0 A) (F0 m 32 ls []) := by
  obtain ⟨hx, hb, hr, hml, hown, hlk, hE, hK, hA⟩ := id X
  rw [F_X9_outcome_32] at hf
  refine lv_iload_n hx hb dX9_outcome_32 rfl (lv_at hl 1 rfl) ?_
  refine lv_if_ne (tgt := 41) hx hb dX9_outcome_33 (by decide) (fun c1 => ?_) (fun c1 => ?_)
  · have hf := it_f c1 hf
    refine lv_iload_n hx hb dX9_outcome_41 rfl (lv_at hl 1 rfl) ?_
    refine lv_iconst (v := 1) hx hb dX9_outcome_42 (by decide) ?_
    refine lv_icmp_ne (tgt := 51) hx hb dX9_outcome_43 (by decide) (fun c2 => ?_) (fun c2 => ?_)
    · have hf := it_f c2 hf
      refine lv_iload_n hx hb dX9_outcome_51 rfl (lv_at hl 1 rfl) ?_
      refine lv_iconst (v := 2) hx hb dX9_outcome_52 (by decide) ?_
      refine lv_icmp_ne (tgt := 61) hx hb dX9_outcome_53 (by decide) (fun c3 => ?_) (fun c3 => ?_)
      · have hf := it_f c3 hf
        refine lv_iload_n hx hb dX9_outcome_61 rfl (lv_at hl 1 rfl) ?_
        refine lv_iconst (v := 3) hx hb dX9_outcome_62 (by decide) ?_
        refine lv_icmp_ne (tgt := 71) hx hb dX9_outcome_63 (by decide) (fun c4 => ?_) (fun c4 => ?_)
        · have hf := it_f c4 hf
          refine lv_iload_n hx hb dX9_outcome_71 rfl (lv_at hl 1 rfl) ?_
          refine lv_iconst (v := 4) hx hb dX9_outcome_72 (by decide) ?_
          refine lv_isub hx hb dX9_outcome_73 ?_
          refine lv_aload_n hx hb dX9_outcome_74 rfl (lv_at hl 0 rfl) ?_
          refine gM_Mod_told X hP kw733 dX9_outcome_75 ?_
          refine lv_icmp_ge (tgt := 92) hx hb dX9_outcome_78 (by decide) (fun c5 => ?_) (fun c5 => ?_)
          · have hf := it_t c5 hf
            refine lv_bipush (v := -9) hx hb dX9_outcome_92 (by decide) ?_
            obtain ⟨rfl, rfl⟩ := Prod.mk.inj (Option.some.inj hf)
            exact ret_i X hP hD hS dX9_outcome_94
          · have hf := it_f c5 hf
            refine lv_aload_n hx hb dX9_outcome_81 rfl (lv_at hl 0 rfl) ?_
            refine gM_Mod_tell X hP kw734 dX9_outcome_82 ?_
            refine lv_iload_n hx hb dX9_outcome_85 rfl (lv_at hl 1 rfl) ?_
            refine lv_iconst (v := 4) hx hb dX9_outcome_86 (by decide) ?_
            refine lv_isub hx hb dX9_outcome_87 ?_
            obtain ⟨b6, hf⟩ := ck_e hf
            refine lM_tell X hP b6 dX9_outcome_88 ?_
            refine lv_topi (fun y7 ey7 => ?_)
            have hf := bd_x ey7 hf
            refine lv_goto (tgt := 94) hx hb dX9_outcome_89 (by decide) ?_
            obtain ⟨rfl, rfl⟩ := Prod.mk.inj (Option.some.inj hf)
            exact ret_i X hP hD hS dX9_outcome_94
        · have hf := it_t c4 hf
          refine lv_aload_n hx hb dX9_outcome_66 rfl (lv_at hl 0 rfl) ?_
          refine gM_Mod_told X hP kw733 dX9_outcome_67 ?_
          obtain ⟨rfl, rfl⟩ := Prod.mk.inj (Option.some.inj hf)
          exact ret_i X hP hD hS dX9_outcome_70
      · have hf := it_t c3 hf
        refine lv_aload_n hx hb dX9_outcome_56 rfl (lv_at hl 0 rfl) ?_
        refine gM_Mod_foundFree X hP kw732 dX9_outcome_57 ?_
        obtain ⟨rfl, rfl⟩ := Prod.mk.inj (Option.some.inj hf)
        exact ret_i X hP hD hS dX9_outcome_60
    · have hf := it_t c2 hf
      refine lv_aload_n hx hb dX9_outcome_46 rfl (lv_at hl 0 rfl) ?_
      refine gM_Mod_foundAsked X hP kw731 dX9_outcome_47 ?_
      obtain ⟨rfl, rfl⟩ := Prod.mk.inj (Option.some.inj hf)
      exact ret_i X hP hD hS dX9_outcome_50
  · have hf := it_t c1 hf
    refine lv_aload_n hx hb dX9_outcome_36 rfl (lv_at hl 0 rfl) ?_
    refine gM_Mod_foundRule X hP kw730 dX9_outcome_37 ?_
    obtain ⟨rfl, rfl⟩ := Prod.mk.inj (Option.some.inj hf)
    exact ret_i X hP hD hS dX9_outcome_40
set_option maxHeartbeats 4000000 in
set_option maxRecDepth 100000 in
theorem t_X9_outcome_0  (X : Fx p s m meth c D cA A RX9 cX9_outcome 3 (some .int))  {x1 x2 : Int32} { σ : St} {H : Heap} {locs : List Loc} {ls : Array Slot} (hf : F_X9_outcome x1 x2 σ = some (r, σ')) (hP : va_P D vwCl (wM cA ad ta σ) H) (hD : va_D A (wM cA ad ta σ)) (hS : va_S A s.heap H locs) (hl : lv_has ls 3 [(0, .ref (ad 0)), (1, .int x1), (2, .int x2)]) : W p l e (rm_X9_outcome) s m args below meth c H locs 0 0 (MQ below (QI D cA A (wM cA ad) r σ' ta) args s 0 0 A) (F0 m 0 ls []) := by
  obtain ⟨hx, hb, hr, hml, hown, hlk, hE, hK, hA⟩ := id X
  rw [F_X9_outcome] at hf
  refine lv_iload_n hx hb dX9_outcome_0 rfl (lv_at hl 1 rfl) ?_
  refine lv_if_lt (tgt := 16) hx hb dX9_outcome_1 (by decide) (fun c1 => ?_) (fun c1 => ?_)
  · have hf := it_t c1 hf
    refine lv_bipush (v := -9) hx hb dX9_outcome_16 (by decide) ?_
    obtain ⟨rfl, rfl⟩ := Prod.mk.inj (Option.some.inj hf)
    exact ret_i X hP hD hS dX9_outcome_18
  · have hf := it_f c1 hf
    refine lv_iload_n hx hb dX9_outcome_4 rfl (lv_at hl 1 rfl) ?_
    refine lv_aload_n hx hb dX9_outcome_5 rfl (lv_at hl 0 rfl) ?_
    refine gM_Mod_outcomes X hP kw727 dX9_outcome_6 ?_
    refine lv_icmp_ge (tgt := 16) hx hb dX9_outcome_9 (by decide) (fun c2 => ?_) (fun c2 => ?_)
    · have hf := it_t c2 hf
      refine lv_bipush (v := -9) hx hb dX9_outcome_16 (by decide) ?_
      obtain ⟨rfl, rfl⟩ := Prod.mk.inj (Option.some.inj hf)
      exact ret_i X hP hD hS dX9_outcome_18
    · have hf := it_f c2 hf
      refine lv_iload_n hx hb dX9_outcome_12 rfl (lv_at hl 2 rfl) ?_
      refine lv_if_ge (tgt := 19) hx hb dX9_outcome_13 (by decide) (fun c3 => ?_) (fun c3 => ?_)
      · have hf := it_t c3 hf
        refine lv_aload_n hx hb dX9_outcome_19 rfl (lv_at hl 0 rfl) ?_
        refine gM_Mod_sought X hP kw729 dX9_outcome_20 ?_
        refine lv_iload_n hx hb dX9_outcome_23 rfl (lv_at hl 1 rfl) ?_
        refine lv_icmp_eq (tgt := 32) hx hb dX9_outcome_24 (by decide) (fun c4 => ?_) (fun c4 => ?_)
        · have hf := it_t c4 hf
          exact t_X9_outcome_32 X  hf hP hD hS (lv_sub hl [0, 2] rfl)
        · have hf := it_f c4 hf
          refine lv_aload_n hx hb dX9_outcome_27 rfl (lv_at hl 0 rfl) ?_
          refine lv_iload_n hx hb dX9_outcome_28 rfl (lv_at hl 1 rfl) ?_
          obtain ⟨r5, s6, h7, hf⟩ := bo_e hf
          refine callV_v X cv_X9_go kw948 (c_X9_go l D cA A ad ta σ x1 r5 s6 h7) ⟨by decide, by decide⟩ ⟨rfl, rfl⟩ hP hD hS (q0 := 0) (ci := 9) rfl rfl rfl rfl hl rfl (Nat.le_of_ble_eq_true rfl) dX9_outcome_29 ⟨by decide, by decide⟩ (fun H locs hP hD hS => ?_)
          exact t_X9_outcome_32 X  hf hP hD hS (lv_sub hl [0, 2] rfl)
      · have hf := it_f c3 hf
        refine lv_bipush (v := -9) hx hb dX9_outcome_16 (by decide) ?_
        obtain ⟨rfl, rfl⟩ := Prod.mk.inj (Option.some.inj hf)
        exact ret_i X hP hD hS dX9_outcome_18
end S_X9_outcome
theorem c_X9_outcome (l : Launch) (D : va_G) (cA : ClassId) (A : Nat → Prop) (ad : Nat → Nat) (ta : Nat) (σ : St) (x1 x2 : Int32) (r : Int32) (σ' : St) (hf : F_X9_outcome x1 x2 σ = some (r, σ')) : MI l D cA A (wM cA ad) yX9_outcome cX9_outcome 3 (some .int) rm_X9_outcome [.ref (ad 0), .int x1, .int x2] ta σ r σ' 0 0 := by
  refine enter (by decide) (Nat.le_of_ble_eq_true rfl) ?_
  intro p e s m below meth c ls X hnm hP hD hS hl
  exact t_X9_outcome_0 X hf hP hD hS hl
