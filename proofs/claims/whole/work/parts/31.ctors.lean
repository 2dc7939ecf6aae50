theorem kwO : (.code objectInit ⟨#[0xb1]⟩ 1 none : Cond) ∈ lw_tbl := List.mem_append_right _ (List.mem_of_getElem? (i := 21) (by decide +kernel))
section CT
variable {p : Program} {l : Launch} {e : Env} {R : Room} {s : State} {m : MethodId} {args : Array Value} {below : List Frame} {meth : Method} {c : Code} {H : Heap} {locs : List Loc} {cells slots : Nat} {Q : State → Prop}
variable {D : va_G} {cA : ClassId} {A : Nat → Prop} {own : String} {cc : ByteArray} {nL pc index : Nat} {rt : Option FieldType} {ls : Array Slot}
variable {y : MethodName} {b : ByteArray} {nC n mc ms : Nat} {rm : Room} {o : Nat} {As rest st0 : List Value} {Wp : (Nat → Nat) → va_W} {w0 : va_W} {S : Type}
abbrev QC (D : va_G) (cA : ClassId) (A : Nat → Prop) (Wp : (Nat → Nat) → va_W) : Array Value → State → Outcome → State → Prop :=
  va_Qv (fun _ : Nat → Nat => True) (fun u t => Wd D cA A (Wp u) t) A
theorem ret_c (X : Fx p s m meth c D cA A own cc nL none) (u : Nat → Nat) (hP : va_P D vwCl (Wp u) H) (hD : va_D A (Wp u)) (hS : va_S A s.heap H locs) (hdg : decode cc pc = .ok (.return_, 1)) :
    W p l e R s m args below meth c H locs cells slots (MQ below (QC D cA A Wp) args s cells slots A) (F0 m pc ls []) := by
  obtain ⟨hx, hb, hr, hml, hown, hlk, hE, hK, hA⟩ := X
  exact W.vret hx hb hr (fun t ht hW => ⟨⟨u, rfl, trivial, hE.warm hW, by rw [ht]; exact hP, va_K.moved hW.alike hK, hD, fun q hq => hA q (Nat.le_trans hS.1 (by rw [ht] at hq; exact hq))⟩, hS.F ht⟩) hS.2.2 hdg hlk
theorem obj_i (X : Fx p s m meth c D cA A own cc nL rt) (hl : Cond.methodLink own index objectInit ∈ lw_tbl) {lv : List (Nat × Value)} (hlv : lv_has ls nL lv) {a : Nat} (hd : decode cc pc = .ok (.invokespecial index, 3)) (hf : 1 ≤ R.frames) (ho : 12 ≤ R.locals)
    (kk : W p l e R s m args below meth c H locs cells slots Q (F0 m (pc + 3) ls [])) : W p l e R s m args below meth c H locs cells slots Q (F0 m pc ls [.ref a]) := by
  obtain ⟨hx, hb, hr, hml, hown, hlk, hE, hK, hA⟩ := X
  exact W.objInit hx hb hown (hE.at args hl) (hE.at args kw20) (hE.at args kwO) rfl (by rw [hml]; exact hlv.1) rfl hd hf ho kk
/-- what an initialiser's contract needs -/
def Ci (y : MethodName) (b : ByteArray) (nL : Nat) (n : Nat) : Prop :=
  Cond.code y b nL none ∈ lw_tbl ∧ Cond.initialized y.cls ∈ lw_tbl ∧ Cond.instanceMethod y ∈ lw_tbl ∧ y.name = "<init>" ∧ (y.cls ≠ "java/lang/invoke/MethodHandle" ∧ y.cls ≠ "java/lang/invoke/VarHandle") ∧ (parseMethodDescriptor y.desc).map (fun d => d.parameters.length) = some n
theorem callIN_c {host : String} (X : Fx p s m meth c D cA A own cc nL rt) (cv : Ci y b nC n) (hl : Cond.methodLinkNest own index y host ∈ lw_tbl)
    (hM : Met l y [.code y b nC none] rm (va_Pc (.ref o :: As) (Wd D cA A w0)) (QC D cA A Wp) mc ms A)
    (hR : rm.frames + 1 ≤ R.frames ∧ 8 + (nC + 11) + rm.locals ≤ R.locals) (hm : rm.cells = mc ∧ rm.slots = ms) (hP : va_P D vwCl w0 H) (hD : va_D A w0) (hS : va_S A s.heap H locs)
    (hn : As.length = n) {lv : List (Nat × Value)} (hlv : lv_has ls nL lv) (hst : st0 = As.reverse ++ .ref o :: rest) (hW : (rest.map fun v => v.category).sum ≤ 8) (hdg : decode cc pc = .ok (.invokespecial index, 3)) (hf : cells + mc ≤ R.cells ∧ slots + ms ≤ R.slots)
    (kk : ∀ (u : Nat → Nat) (H1 : Heap) (locs1 : List Loc), va_P D vwCl (Wp u) H1 → va_D A (Wp u) → va_S A s.heap H1 locs1 → W p l e R s m args below meth c H1 locs1 (cells + mc) (slots + ms) Q (F0 m (pc + 3) ls rest)) :
    W p l e R s m args below meth c H locs cells slots Q (F0 m pc ls st0) := by
  have hpre := pre_of X w0 hP hD hS (.ref o :: As)
  obtain ⟨c1, c2, c3, c4, c5, c6⟩ := cv
  have cb := cn_of X c1 c2 c5 c6 hR hm hl (args := args)
  obtain ⟨hx, hb, -, hml, hown, -, hE, hK, -⟩ := X
  refine va_callv (va_runIN (g := F0 m pc ls st0) (rest := rest) ⟨hx, hb, hml, hown, hE.use args⟩ hM ⟨cb, c4, hE.at args c3⟩ hpre rfl hn hlv.1 hst (lv_room hW) hdg hf) hS (fun q _ h => h) (fun q h => h) (fun u t H1 locs1 ht hvm hp hB hz hk hS1 => ?_)
  obtain ⟨-, hP, -, hD, -⟩ := hB
  rw [ht] at hP
  exact kk u H1 locs1 hP hD hS1
theorem callI_c (X : Fx p s m meth c D cA A own cc nL rt) (cv : Ci y b nC n) (hl : Cond.methodLink own index y ∈ lw_tbl)
    (hM : Met l y [.code y b nC none] rm (va_Pc (.ref o :: As) (Wd D cA A w0)) (QC D cA A Wp) mc ms A)
    (hR : rm.frames + 1 ≤ R.frames ∧ 8 + (nC + 11) + rm.locals ≤ R.locals) (hm : rm.cells = mc ∧ rm.slots = ms) (hP : va_P D vwCl w0 H) (hD : va_D A w0) (hS : va_S A s.heap H locs)
    (hn : As.length = n) {lv : List (Nat × Value)} (hlv : lv_has ls nL lv) (hst : st0 = As.reverse ++ .ref o :: rest) (hW : (rest.map fun v => v.category).sum ≤ 8) (hdg : decode cc pc = .ok (.invokespecial index, 3)) (hf : cells + mc ≤ R.cells ∧ slots + ms ≤ R.slots)
    (kk : ∀ (u : Nat → Nat) (H1 : Heap) (locs1 : List Loc), va_P D vwCl (Wp u) H1 → va_D A (Wp u) → va_S A s.heap H1 locs1 → W p l e R s m args below meth c H1 locs1 (cells + mc) (slots + ms) Q (F0 m (pc + 3) ls rest)) :
    W p l e R s m args below meth c H locs cells slots Q (F0 m pc ls st0) := by
  have hpre := pre_of X w0 hP hD hS (.ref o :: As)
  obtain ⟨c1, c2, c3, c4, c5, c6⟩ := cv
  have cb := cb_of X c1 c2 c5 c6 hR hm hl (args := args)
  obtain ⟨hx, hb, -, hml, hown, -, hE, hK, -⟩ := X
  refine va_callv (va_runI (g := F0 m pc ls st0) (rest := rest) ⟨hx, hb, hml, hown, hE.use args⟩ hM ⟨cb, c4, hE.at args c3⟩ hpre rfl hn hlv.1 hst (lv_room hW) hdg hf) hS (fun q _ h => h) (fun q h => h) (fun u t H1 locs1 ht hvm hp hB hz hk hS1 => ?_)
  obtain ⟨-, hP, -, hD, -⟩ := hB
  rw [ht] at hP
  exact kk u H1 locs1 hP hD hS1
end CT
theorem ci_X4 : Ci yX4_init cX4_init 1 0 := ⟨kw26, kw2, kw25, rfl, by decide, by decide +kernel⟩
theorem ci_X2 : Ci yX2_init cX2_init 1 0 := ⟨kw58, kw3, kw57, rfl, by decide, by decide +kernel⟩
theorem ci_X3 : Ci yX3_init cX3_init 1 0 := ⟨kw96, kw4, kw95, rfl, by decide, by decide +kernel⟩
theorem ci_X6 : Ci yX6_init cX6_init 1 0 := ⟨kw133, kw5, kw132, rfl, by decide, by decide +kernel⟩
theorem ci_X1 : Ci yX1_init cX1_init 3 2 := ⟨kw167, kw6, kw166, rfl, by decide, by decide +kernel⟩
theorem ci_X5 : Ci yX5_init cX5_init 2 1 := ⟨kw195, kw7, kw194, rfl, by decide, by decide +kernel⟩
theorem ci_X0 : Ci yX0_init cX0_init 1 0 := ⟨kw242, kw8, kw241, rfl, by decide, by decide +kernel⟩
theorem ci_X7 : Ci yX7_init cX7_init 5 4 := ⟨kw268, kw9, kw267, rfl, by decide, by decide +kernel⟩
theorem ci_X9 : Ci yX9_init cX9_init 1 0 := ⟨kw677, kw10, kw676, rfl, by decide, by decide +kernel⟩
theorem ci_X8 : Ci yX8_init cX8_init 1 0 := ⟨kw18, kw1, kw17, rfl, by decide, by decide +kernel⟩
section CM
variable {p : Program} {l : Launch} {e : Env} {R : Room} {s : State} {m : MethodId} {args : Array Value} {below : List Frame} {meth : Method} {c : Code} {H : Heap} {locs : List Loc} {cells slots : Nat} {Q : State → Prop}
variable {D : va_G} {cA : ClassId} {A : Nat → Prop} {own : String} {cc : ByteArray} {nL pc index : Nat} {rt : Option FieldType} {ls : Array Slot} {o : Nat} {rest : List Value} {L : va_W} {x y : Nat × va_E} {fs : List Value}
theorem va_P.ins (h : va_P D vwCl ((x :: L) ++ [y]) H) : va_P D vwCl (x :: y :: L) H := by
  intro k q hk
  have hm : q ∈ (x :: L) ++ [y] := by
    rcases List.mem_cons.mp (List.mem_of_getElem? hk) with rfl | h1
    · exact List.mem_append_left _ List.mem_cons_self
    · rcases List.mem_cons.mp h1 with rfl | h2
      · exact List.mem_append_right _ (List.mem_singleton.mpr rfl)
      · exact List.mem_append_left _ (List.mem_cons_of_mem _ h2)
  obtain ⟨i, hi⟩ := List.getElem?_of_mem hm
  exact h i q hi
theorem va_D.ins (h : va_D A ((x :: L) ++ [y])) : va_D A (x :: y :: L) := by
  have key : ∀ (k : Nat) (q : Nat × va_E), (x :: y :: L)[k]? = some q → ((x :: L) ++ [y])[if k = 0 then 0 else if k = 1 then L.length + 1 else k - 1]? = some q ∧ k < L.length + 2 := by
    intro k q hk
    refine ⟨?_, (List.getElem?_eq_some_iff.mp hk).1⟩
    match k, hk with
    | 0, hk => exact hk
    | 1, hk =>
      rw [if_neg (by omega), if_pos rfl, List.getElem?_append_right (by simp)]
      simpa using hk
    | k + 2, hk =>
      rw [if_neg (by omega), if_neg (by omega)]
      have h2 : L[k]? = some q := hk
      have h3 := (List.getElem?_eq_some_iff.mp h2).1
      show ((x :: L) ++ [y])[k + 1]? = some q
      rw [List.getElem?_append_left (by simp; omega)]
      exact h2
  refine ⟨fun i j a b hi hj hab => ?_, fun k q hk => h.2 _ q (key k q hk).1⟩
  have h1 := h.1 _ _ a b (key i a hi).1 (key j b hj).1 hab
  have l1 := (key i a hi).2
  have l2 := (key j b hj).2
  split at h1 <;> split at h1 <;> (try split at h1) <;> (try split at h1) <;> omega
theorem newI0 (X : Fx p s m meth c D cA A own cc nL rt) (hP : va_P D vwCl (x :: L) H) (hD : va_D A (x :: L)) (hS : va_S A s.heap H locs) {k : Int32} {N : Nat} (hk : ¬ k < 0) (hN : k.toNatClampNeg = N) (hB : N * componentBytes .int ≤ 536870912) (hc : cells + 1 ≤ R.cells) (hs : slots + N ≤ R.slots) (hdg : decode cc pc = .ok (.newarray .int, 2))
    (kk : ∀ (q : Nat) (H1 : Heap), va_P D vwCl (x :: (q, .inl (cA, N, .inl (fun _ => 0))) :: L) H1 → va_D A (x :: (q, .inl (cA, N, .inl (fun _ => 0))) :: L) → va_S A s.heap H1 locs → W p l e R s m args below meth c H1 locs (cells + 1) (slots + N) Q (F0 m (pc + 2) ls (.ref q :: rest))) :
    W p l e R s m args below meth c H locs cells slots Q (F0 m pc ls (.int k :: rest)) :=
  newI X hP hD hS hk hN hB hc hs hdg (fun q H1 h1 h2 h3 => kk q H1 (va_P.ins h1) (va_D.ins h2) h3)
theorem putF_X4 (X : Fx p s m meth c D cA A RX4 cc nL rt) (hin : meth.name = "<init>") (hP : va_P D vwCl ((o, .inr (4, fs)) :: L) H) (hD : va_D A ((o, .inr (4, fs)) :: L)) (hS : va_S A s.heap H locs) (hlen : fs.length = 7) (k : Nat) (hk : k < 7) (hlk : Cond.fieldLink RX4 index "NeededTrees$Signature" (TX4 k).2.1 (TX4 k).2.2.1 ∈ lw_tbl) (hfin : (TX4 k).2.2.2 = true) (hdecl : (TX4 k).1 = RX4) {v : Value} {ty : FieldType} (hd : parseFieldDescriptor (TX4 k).2.2.1 = some ty) (hn : narrow ty v = v) (hfit : fits ty v = true) (hdg : decode cc pc = .ok (.putfield index, 3))
    (kk : ∀ (H1 : Heap) (locs1 : List Loc), va_P D vwCl ((o, .inr (4, fs.set k v)) :: L) H1 → va_D A ((o, .inr (4, fs.set k v)) :: L) → va_S A s.heap H1 locs1 → (fs.set k v).length = 7 → W p l e R s m args below meth c H1 locs1 cells slots Q (F0 m (pc + 3) ls rest)) : W p l e R s m args below meth c H locs cells slots Q (F0 m pc ls (v :: .ref o :: rest)) := by
  obtain ⟨hx, hb, hr, hml, hown, hlk2, hE, hK, hA⟩ := X
  exact va_putF hx hb (hE.use args) inG4 tyX4 tyX4_ok nmX4 hown hK hP hD hS 0 rfl rfl k hk (hE.at args hlk) (fun _ h => by rw [hdecl] at h; exact h) hfin hin hdecl hd hn hfit (by rw [hlen]; exact hk) hdg (fun H1 locs1 h1 h2 h3 => kk H1 locs1 h1 h2 h3 (by rw [List.length_set]; exact hlen))
theorem put_X4 (X : Fx p s m meth c D cA A RX4 cc nL rt) (hP : va_P D vwCl ((o, .inr (4, fs)) :: L) H) (hD : va_D A ((o, .inr (4, fs)) :: L)) (hS : va_S A s.heap H locs) (hlen : fs.length = 7) (k : Nat) (hk : k < 7) (hlk : Cond.fieldLink RX4 index "NeededTrees$Signature" (TX4 k).2.1 (TX4 k).2.2.1 ∈ lw_tbl) (hfin : (TX4 k).2.2.2 = false) (hdecl : (TX4 k).1 = RX4) {v : Value} {ty : FieldType} (hd : parseFieldDescriptor (TX4 k).2.2.1 = some ty) (hn : narrow ty v = v) (hfit : fits ty v = true) (hdg : decode cc pc = .ok (.putfield index, 3))
    (kk : ∀ (H1 : Heap) (locs1 : List Loc), va_P D vwCl ((o, .inr (4, fs.set k v)) :: L) H1 → va_D A ((o, .inr (4, fs.set k v)) :: L) → va_S A s.heap H1 locs1 → (fs.set k v).length = 7 → W p l e R s m args below meth c H1 locs1 cells slots Q (F0 m (pc + 3) ls rest)) : W p l e R s m args below meth c H locs cells slots Q (F0 m pc ls (v :: .ref o :: rest)) := by
  obtain ⟨hx, hb, hr, hml, hown, hlk2, hE, hK, hA⟩ := X
  exact va_put hx hb (hE.use args) inG4 tyX4 tyX4_ok nmX4 hown hK hP hD hS 0 rfl rfl k hk (hE.at args hlk) (fun _ h => by rw [hdecl] at h; exact h) hfin hd hn hfit (by rw [hlen]; exact hk) hdg (fun H1 locs1 h1 h2 h3 => kk H1 locs1 h1 h2 h3 (by rw [List.length_set]; exact hlen))
theorem putF_X2 (X : Fx p s m meth c D cA A RX2 cc nL rt) (hin : meth.name = "<init>") (hP : va_P D vwCl ((o, .inr (2, fs)) :: L) H) (hD : va_D A ((o, .inr (2, fs)) :: L)) (hS : va_S A s.heap H locs) (hlen : fs.length = 8) (k : Nat) (hk : k < 8) (hlk : Cond.fieldLink RX2 index "NeededTrees$Row" (TX2 k).2.1 (TX2 k).2.2.1 ∈ lw_tbl) (hfin : (TX2 k).2.2.2 = true) (hdecl : (TX2 k).1 = RX2) {v : Value} {ty : FieldType} (hd : parseFieldDescriptor (TX2 k).2.2.1 = some ty) (hn : narrow ty v = v) (hfit : fits ty v = true) (hdg : decode cc pc = .ok (.putfield index, 3))
    (kk : ∀ (H1 : Heap) (locs1 : List Loc), va_P D vwCl ((o, .inr (2, fs.set k v)) :: L) H1 → va_D A ((o, .inr (2, fs.set k v)) :: L) → va_S A s.heap H1 locs1 → (fs.set k v).length = 8 → W p l e R s m args below meth c H1 locs1 cells slots Q (F0 m (pc + 3) ls rest)) : W p l e R s m args below meth c H locs cells slots Q (F0 m pc ls (v :: .ref o :: rest)) := by
  obtain ⟨hx, hb, hr, hml, hown, hlk2, hE, hK, hA⟩ := X
  exact va_putF hx hb (hE.use args) inG2 tyX2 tyX2_ok nmX2 hown hK hP hD hS 0 rfl rfl k hk (hE.at args hlk) (fun _ h => by rw [hdecl] at h; exact h) hfin hin hdecl hd hn hfit (by rw [hlen]; exact hk) hdg (fun H1 locs1 h1 h2 h3 => kk H1 locs1 h1 h2 h3 (by rw [List.length_set]; exact hlen))
theorem put_X2 (X : Fx p s m meth c D cA A RX2 cc nL rt) (hP : va_P D vwCl ((o, .inr (2, fs)) :: L) H) (hD : va_D A ((o, .inr (2, fs)) :: L)) (hS : va_S A s.heap H locs) (hlen : fs.length = 8) (k : Nat) (hk : k < 8) (hlk : Cond.fieldLink RX2 index "NeededTrees$Row" (TX2 k).2.1 (TX2 k).2.2.1 ∈ lw_tbl) (hfin : (TX2 k).2.2.2 = false) (hdecl : (TX2 k).1 = RX2) {v : Value} {ty : FieldType} (hd : parseFieldDescriptor (TX2 k).2.2.1 = some ty) (hn : narrow ty v = v) (hfit : fits ty v = true) (hdg : decode cc pc = .ok (.putfield index, 3))
    (kk : ∀ (H1 : Heap) (locs1 : List Loc), va_P D vwCl ((o, .inr (2, fs.set k v)) :: L) H1 → va_D A ((o, .inr (2, fs.set k v)) :: L) → va_S A s.heap H1 locs1 → (fs.set k v).length = 8 → W p l e R s m args below meth c H1 locs1 cells slots Q (F0 m (pc + 3) ls rest)) : W p l e R s m args below meth c H locs cells slots Q (F0 m pc ls (v :: .ref o :: rest)) := by
  obtain ⟨hx, hb, hr, hml, hown, hlk2, hE, hK, hA⟩ := X
  exact va_put hx hb (hE.use args) inG2 tyX2 tyX2_ok nmX2 hown hK hP hD hS 0 rfl rfl k hk (hE.at args hlk) (fun _ h => by rw [hdecl] at h; exact h) hfin hd hn hfit (by rw [hlen]; exact hk) hdg (fun H1 locs1 h1 h2 h3 => kk H1 locs1 h1 h2 h3 (by rw [List.length_set]; exact hlen))
theorem putF_X3 (X : Fx p s m meth c D cA A RX3 cc nL rt) (hin : meth.name = "<init>") (hP : va_P D vwCl ((o, .inr (3, fs)) :: L) H) (hD : va_D A ((o, .inr (3, fs)) :: L)) (hS : va_S A s.heap H locs) (hlen : fs.length = 7) (k : Nat) (hk : k < 7) (hlk : Cond.fieldLink RX3 index "NeededTrees$Rules" (TX3 k).2.1 (TX3 k).2.2.1 ∈ lw_tbl) (hfin : (TX3 k).2.2.2 = true) (hdecl : (TX3 k).1 = RX3) {v : Value} {ty : FieldType} (hd : parseFieldDescriptor (TX3 k).2.2.1 = some ty) (hn : narrow ty v = v) (hfit : fits ty v = true) (hdg : decode cc pc = .ok (.putfield index, 3))
    (kk : ∀ (H1 : Heap) (locs1 : List Loc), va_P D vwCl ((o, .inr (3, fs.set k v)) :: L) H1 → va_D A ((o, .inr (3, fs.set k v)) :: L) → va_S A s.heap H1 locs1 → (fs.set k v).length = 7 → W p l e R s m args below meth c H1 locs1 cells slots Q (F0 m (pc + 3) ls rest)) : W p l e R s m args below meth c H locs cells slots Q (F0 m pc ls (v :: .ref o :: rest)) := by
  obtain ⟨hx, hb, hr, hml, hown, hlk2, hE, hK, hA⟩ := X
  exact va_putF hx hb (hE.use args) inG3 tyX3 tyX3_ok nmX3 hown hK hP hD hS 0 rfl rfl k hk (hE.at args hlk) (fun _ h => by rw [hdecl] at h; exact h) hfin hin hdecl hd hn hfit (by rw [hlen]; exact hk) hdg (fun H1 locs1 h1 h2 h3 => kk H1 locs1 h1 h2 h3 (by rw [List.length_set]; exact hlen))
theorem put_X3 (X : Fx p s m meth c D cA A RX3 cc nL rt) (hP : va_P D vwCl ((o, .inr (3, fs)) :: L) H) (hD : va_D A ((o, .inr (3, fs)) :: L)) (hS : va_S A s.heap H locs) (hlen : fs.length = 7) (k : Nat) (hk : k < 7) (hlk : Cond.fieldLink RX3 index "NeededTrees$Rules" (TX3 k).2.1 (TX3 k).2.2.1 ∈ lw_tbl) (hfin : (TX3 k).2.2.2 = false) (hdecl : (TX3 k).1 = RX3) {v : Value} {ty : FieldType} (hd : parseFieldDescriptor (TX3 k).2.2.1 = some ty) (hn : narrow ty v = v) (hfit : fits ty v = true) (hdg : decode cc pc = .ok (.putfield index, 3))
    (kk : ∀ (H1 : Heap) (locs1 : List Loc), va_P D vwCl ((o, .inr (3, fs.set k v)) :: L) H1 → va_D A ((o, .inr (3, fs.set k v)) :: L) → va_S A s.heap H1 locs1 → (fs.set k v).length = 7 → W p l e R s m args below meth c H1 locs1 cells slots Q (F0 m (pc + 3) ls rest)) : W p l e R s m args below meth c H locs cells slots Q (F0 m pc ls (v :: .ref o :: rest)) := by
  obtain ⟨hx, hb, hr, hml, hown, hlk2, hE, hK, hA⟩ := X
  exact va_put hx hb (hE.use args) inG3 tyX3 tyX3_ok nmX3 hown hK hP hD hS 0 rfl rfl k hk (hE.at args hlk) (fun _ h => by rw [hdecl] at h; exact h) hfin hd hn hfit (by rw [hlen]; exact hk) hdg (fun H1 locs1 h1 h2 h3 => kk H1 locs1 h1 h2 h3 (by rw [List.length_set]; exact hlen))
theorem putF_X6 (X : Fx p s m meth c D cA A RX6 cc nL rt) (hin : meth.name = "<init>") (hP : va_P D vwCl ((o, .inr (6, fs)) :: L) H) (hD : va_D A ((o, .inr (6, fs)) :: L)) (hS : va_S A s.heap H locs) (hlen : fs.length = 7) (k : Nat) (hk : k < 7) (hlk : Cond.fieldLink RX6 index "NeededTrees$Tree" (TX6 k).2.1 (TX6 k).2.2.1 ∈ lw_tbl) (hfin : (TX6 k).2.2.2 = true) (hdecl : (TX6 k).1 = RX6) {v : Value} {ty : FieldType} (hd : parseFieldDescriptor (TX6 k).2.2.1 = some ty) (hn : narrow ty v = v) (hfit : fits ty v = true) (hdg : decode cc pc = .ok (.putfield index, 3))
    (kk : ∀ (H1 : Heap) (locs1 : List Loc), va_P D vwCl ((o, .inr (6, fs.set k v)) :: L) H1 → va_D A ((o, .inr (6, fs.set k v)) :: L) → va_S A s.heap H1 locs1 → (fs.set k v).length = 7 → W p l e R s m args below meth c H1 locs1 cells slots Q (F0 m (pc + 3) ls rest)) : W p l e R s m args below meth c H locs cells slots Q (F0 m pc ls (v :: .ref o :: rest)) := by
  obtain ⟨hx, hb, hr, hml, hown, hlk2, hE, hK, hA⟩ := X
  exact va_putF hx hb (hE.use args) inG6 tyX6 tyX6_ok nmX6 hown hK hP hD hS 0 rfl rfl k hk (hE.at args hlk) (fun _ h => by rw [hdecl] at h; exact h) hfin hin hdecl hd hn hfit (by rw [hlen]; exact hk) hdg (fun H1 locs1 h1 h2 h3 => kk H1 locs1 h1 h2 h3 (by rw [List.length_set]; exact hlen))
theorem put_X6 (X : Fx p s m meth c D cA A RX6 cc nL rt) (hP : va_P D vwCl ((o, .inr (6, fs)) :: L) H) (hD : va_D A ((o, .inr (6, fs)) :: L)) (hS : va_S A s.heap H locs) (hlen : fs.length = 7) (k : Nat) (hk : k < 7) (hlk : Cond.fieldLink RX6 index "NeededTrees$Tree" (TX6 k).2.1 (TX6 k).2.2.1 ∈ lw_tbl) (hfin : (TX6 k).2.2.2 = false) (hdecl : (TX6 k).1 = RX6) {v : Value} {ty : FieldType} (hd : parseFieldDescriptor (TX6 k).2.2.1 = some ty) (hn : narrow ty v = v) (hfit : fits ty v = true) (hdg : decode cc pc = .ok (.putfield index, 3))
    (kk : ∀ (H1 : Heap) (locs1 : List Loc), va_P D vwCl ((o, .inr (6, fs.set k v)) :: L) H1 → va_D A ((o, .inr (6, fs.set k v)) :: L) → va_S A s.heap H1 locs1 → (fs.set k v).length = 7 → W p l e R s m args below meth c H1 locs1 cells slots Q (F0 m (pc + 3) ls rest)) : W p l e R s m args below meth c H locs cells slots Q (F0 m pc ls (v :: .ref o :: rest)) := by
  obtain ⟨hx, hb, hr, hml, hown, hlk2, hE, hK, hA⟩ := X
  exact va_put hx hb (hE.use args) inG6 tyX6 tyX6_ok nmX6 hown hK hP hD hS 0 rfl rfl k hk (hE.at args hlk) (fun _ h => by rw [hdecl] at h; exact h) hfin hd hn hfit (by rw [hlen]; exact hk) hdg (fun H1 locs1 h1 h2 h3 => kk H1 locs1 h1 h2 h3 (by rw [List.length_set]; exact hlen))
theorem putF_X1 (X : Fx p s m meth c D cA A RX1 cc nL rt) (hin : meth.name = "<init>") (hP : va_P D vwCl ((o, .inr (1, fs)) :: L) H) (hD : va_D A ((o, .inr (1, fs)) :: L)) (hS : va_S A s.heap H locs) (hlen : fs.length = 7) (k : Nat) (hk : k < 7) (hlk : Cond.fieldLink RX1 index "NeededTrees$Planter" (TX1 k).2.1 (TX1 k).2.2.1 ∈ lw_tbl) (hfin : (TX1 k).2.2.2 = true) (hdecl : (TX1 k).1 = RX1) {v : Value} {ty : FieldType} (hd : parseFieldDescriptor (TX1 k).2.2.1 = some ty) (hn : narrow ty v = v) (hfit : fits ty v = true) (hdg : decode cc pc = .ok (.putfield index, 3))
    (kk : ∀ (H1 : Heap) (locs1 : List Loc), va_P D vwCl ((o, .inr (1, fs.set k v)) :: L) H1 → va_D A ((o, .inr (1, fs.set k v)) :: L) → va_S A s.heap H1 locs1 → (fs.set k v).length = 7 → W p l e R s m args below meth c H1 locs1 cells slots Q (F0 m (pc + 3) ls rest)) : W p l e R s m args below meth c H locs cells slots Q (F0 m pc ls (v :: .ref o :: rest)) := by
  obtain ⟨hx, hb, hr, hml, hown, hlk2, hE, hK, hA⟩ := X
  exact va_putF hx hb (hE.use args) inG1 tyX1 tyX1_ok nmX1 hown hK hP hD hS 0 rfl rfl k hk (hE.at args hlk) (fun _ h => by rw [hdecl] at h; exact h) hfin hin hdecl hd hn hfit (by rw [hlen]; exact hk) hdg (fun H1 locs1 h1 h2 h3 => kk H1 locs1 h1 h2 h3 (by rw [List.length_set]; exact hlen))
theorem put_X1 (X : Fx p s m meth c D cA A RX1 cc nL rt) (hP : va_P D vwCl ((o, .inr (1, fs)) :: L) H) (hD : va_D A ((o, .inr (1, fs)) :: L)) (hS : va_S A s.heap H locs) (hlen : fs.length = 7) (k : Nat) (hk : k < 7) (hlk : Cond.fieldLink RX1 index "NeededTrees$Planter" (TX1 k).2.1 (TX1 k).2.2.1 ∈ lw_tbl) (hfin : (TX1 k).2.2.2 = false) (hdecl : (TX1 k).1 = RX1) {v : Value} {ty : FieldType} (hd : parseFieldDescriptor (TX1 k).2.2.1 = some ty) (hn : narrow ty v = v) (hfit : fits ty v = true) (hdg : decode cc pc = .ok (.putfield index, 3))
    (kk : ∀ (H1 : Heap) (locs1 : List Loc), va_P D vwCl ((o, .inr (1, fs.set k v)) :: L) H1 → va_D A ((o, .inr (1, fs.set k v)) :: L) → va_S A s.heap H1 locs1 → (fs.set k v).length = 7 → W p l e R s m args below meth c H1 locs1 cells slots Q (F0 m (pc + 3) ls rest)) : W p l e R s m args below meth c H locs cells slots Q (F0 m pc ls (v :: .ref o :: rest)) := by
  obtain ⟨hx, hb, hr, hml, hown, hlk2, hE, hK, hA⟩ := X
  exact va_put hx hb (hE.use args) inG1 tyX1 tyX1_ok nmX1 hown hK hP hD hS 0 rfl rfl k hk (hE.at args hlk) (fun _ h => by rw [hdecl] at h; exact h) hfin hd hn hfit (by rw [hlen]; exact hk) hdg (fun H1 locs1 h1 h2 h3 => kk H1 locs1 h1 h2 h3 (by rw [List.length_set]; exact hlen))
theorem putF_X5 (X : Fx p s m meth c D cA A RX5 cc nL rt) (hin : meth.name = "<init>") (hP : va_P D vwCl ((o, .inr (5, fs)) :: L) H) (hD : va_D A ((o, .inr (5, fs)) :: L)) (hS : va_S A s.heap H locs) (hlen : fs.length = 12) (k : Nat) (hk : k < 12) (hlk : Cond.fieldLink RX5 index "NeededTrees$Terms" (TX5 k).2.1 (TX5 k).2.2.1 ∈ lw_tbl) (hfin : (TX5 k).2.2.2 = true) (hdecl : (TX5 k).1 = RX5) {v : Value} {ty : FieldType} (hd : parseFieldDescriptor (TX5 k).2.2.1 = some ty) (hn : narrow ty v = v) (hfit : fits ty v = true) (hdg : decode cc pc = .ok (.putfield index, 3))
    (kk : ∀ (H1 : Heap) (locs1 : List Loc), va_P D vwCl ((o, .inr (5, fs.set k v)) :: L) H1 → va_D A ((o, .inr (5, fs.set k v)) :: L) → va_S A s.heap H1 locs1 → (fs.set k v).length = 12 → W p l e R s m args below meth c H1 locs1 cells slots Q (F0 m (pc + 3) ls rest)) : W p l e R s m args below meth c H locs cells slots Q (F0 m pc ls (v :: .ref o :: rest)) := by
  obtain ⟨hx, hb, hr, hml, hown, hlk2, hE, hK, hA⟩ := X
  exact va_putF hx hb (hE.use args) inG5 tyX5 tyX5_ok nmX5 hown hK hP hD hS 0 rfl rfl k hk (hE.at args hlk) (fun _ h => by rw [hdecl] at h; exact h) hfin hin hdecl hd hn hfit (by rw [hlen]; exact hk) hdg (fun H1 locs1 h1 h2 h3 => kk H1 locs1 h1 h2 h3 (by rw [List.length_set]; exact hlen))
theorem put_X5 (X : Fx p s m meth c D cA A RX5 cc nL rt) (hP : va_P D vwCl ((o, .inr (5, fs)) :: L) H) (hD : va_D A ((o, .inr (5, fs)) :: L)) (hS : va_S A s.heap H locs) (hlen : fs.length = 12) (k : Nat) (hk : k < 12) (hlk : Cond.fieldLink RX5 index "NeededTrees$Terms" (TX5 k).2.1 (TX5 k).2.2.1 ∈ lw_tbl) (hfin : (TX5 k).2.2.2 = false) (hdecl : (TX5 k).1 = RX5) {v : Value} {ty : FieldType} (hd : parseFieldDescriptor (TX5 k).2.2.1 = some ty) (hn : narrow ty v = v) (hfit : fits ty v = true) (hdg : decode cc pc = .ok (.putfield index, 3))
    (kk : ∀ (H1 : Heap) (locs1 : List Loc), va_P D vwCl ((o, .inr (5, fs.set k v)) :: L) H1 → va_D A ((o, .inr (5, fs.set k v)) :: L) → va_S A s.heap H1 locs1 → (fs.set k v).length = 12 → W p l e R s m args below meth c H1 locs1 cells slots Q (F0 m (pc + 3) ls rest)) : W p l e R s m args below meth c H locs cells slots Q (F0 m pc ls (v :: .ref o :: rest)) := by
  obtain ⟨hx, hb, hr, hml, hown, hlk2, hE, hK, hA⟩ := X
  exact va_put hx hb (hE.use args) inG5 tyX5 tyX5_ok nmX5 hown hK hP hD hS 0 rfl rfl k hk (hE.at args hlk) (fun _ h => by rw [hdecl] at h; exact h) hfin hd hn hfit (by rw [hlen]; exact hk) hdg (fun H1 locs1 h1 h2 h3 => kk H1 locs1 h1 h2 h3 (by rw [List.length_set]; exact hlen))
theorem putF_X0 (X : Fx p s m meth c D cA A RX0 cc nL rt) (hin : meth.name = "<init>") (hP : va_P D vwCl ((o, .inr (0, fs)) :: L) H) (hD : va_D A ((o, .inr (0, fs)) :: L)) (hS : va_S A s.heap H locs) (hlen : fs.length = 6) (k : Nat) (hk : k < 6) (hlk : Cond.fieldLink RX0 index "NeededTrees$Outcomes" (TX0 k).2.1 (TX0 k).2.2.1 ∈ lw_tbl) (hfin : (TX0 k).2.2.2 = true) (hdecl : (TX0 k).1 = RX0) {v : Value} {ty : FieldType} (hd : parseFieldDescriptor (TX0 k).2.2.1 = some ty) (hn : narrow ty v = v) (hfit : fits ty v = true) (hdg : decode cc pc = .ok (.putfield index, 3))
    (kk : ∀ (H1 : Heap) (locs1 : List Loc), va_P D vwCl ((o, .inr (0, fs.set k v)) :: L) H1 → va_D A ((o, .inr (0, fs.set k v)) :: L) → va_S A s.heap H1 locs1 → (fs.set k v).length = 6 → W p l e R s m args below meth c H1 locs1 cells slots Q (F0 m (pc + 3) ls rest)) : W p l e R s m args below meth c H locs cells slots Q (F0 m pc ls (v :: .ref o :: rest)) := by
  obtain ⟨hx, hb, hr, hml, hown, hlk2, hE, hK, hA⟩ := X
  exact va_putF hx hb (hE.use args) inG0 tyX0 tyX0_ok nmX0 hown hK hP hD hS 0 rfl rfl k hk (hE.at args hlk) (fun _ h => by rw [hdecl] at h; exact h) hfin hin hdecl hd hn hfit (by rw [hlen]; exact hk) hdg (fun H1 locs1 h1 h2 h3 => kk H1 locs1 h1 h2 h3 (by rw [List.length_set]; exact hlen))
theorem put_X0 (X : Fx p s m meth c D cA A RX0 cc nL rt) (hP : va_P D vwCl ((o, .inr (0, fs)) :: L) H) (hD : va_D A ((o, .inr (0, fs)) :: L)) (hS : va_S A s.heap H locs) (hlen : fs.length = 6) (k : Nat) (hk : k < 6) (hlk : Cond.fieldLink RX0 index "NeededTrees$Outcomes" (TX0 k).2.1 (TX0 k).2.2.1 ∈ lw_tbl) (hfin : (TX0 k).2.2.2 = false) (hdecl : (TX0 k).1 = RX0) {v : Value} {ty : FieldType} (hd : parseFieldDescriptor (TX0 k).2.2.1 = some ty) (hn : narrow ty v = v) (hfit : fits ty v = true) (hdg : decode cc pc = .ok (.putfield index, 3))
    (kk : ∀ (H1 : Heap) (locs1 : List Loc), va_P D vwCl ((o, .inr (0, fs.set k v)) :: L) H1 → va_D A ((o, .inr (0, fs.set k v)) :: L) → va_S A s.heap H1 locs1 → (fs.set k v).length = 6 → W p l e R s m args below meth c H1 locs1 cells slots Q (F0 m (pc + 3) ls rest)) : W p l e R s m args below meth c H locs cells slots Q (F0 m pc ls (v :: .ref o :: rest)) := by
  obtain ⟨hx, hb, hr, hml, hown, hlk2, hE, hK, hA⟩ := X
  exact va_put hx hb (hE.use args) inG0 tyX0 tyX0_ok nmX0 hown hK hP hD hS 0 rfl rfl k hk (hE.at args hlk) (fun _ h => by rw [hdecl] at h; exact h) hfin hd hn hfit (by rw [hlen]; exact hk) hdg (fun H1 locs1 h1 h2 h3 => kk H1 locs1 h1 h2 h3 (by rw [List.length_set]; exact hlen))
theorem putF_X7 (X : Fx p s m meth c D cA A RX7 cc nL rt) (hin : meth.name = "<init>") (hP : va_P D vwCl ((o, .inr (7, fs)) :: L) H) (hD : va_D A ((o, .inr (7, fs)) :: L)) (hS : va_S A s.heap H locs) (hlen : fs.length = 8) (k : Nat) (hk : k < 8) (hlk : Cond.fieldLink RX7 index "NeededTrees$Walk" (TX7 k).2.1 (TX7 k).2.2.1 ∈ lw_tbl) (hfin : (TX7 k).2.2.2 = true) (hdecl : (TX7 k).1 = RX7) {v : Value} {ty : FieldType} (hd : parseFieldDescriptor (TX7 k).2.2.1 = some ty) (hn : narrow ty v = v) (hfit : fits ty v = true) (hdg : decode cc pc = .ok (.putfield index, 3))
    (kk : ∀ (H1 : Heap) (locs1 : List Loc), va_P D vwCl ((o, .inr (7, fs.set k v)) :: L) H1 → va_D A ((o, .inr (7, fs.set k v)) :: L) → va_S A s.heap H1 locs1 → (fs.set k v).length = 8 → W p l e R s m args below meth c H1 locs1 cells slots Q (F0 m (pc + 3) ls rest)) : W p l e R s m args below meth c H locs cells slots Q (F0 m pc ls (v :: .ref o :: rest)) := by
  obtain ⟨hx, hb, hr, hml, hown, hlk2, hE, hK, hA⟩ := X
  exact va_putF hx hb (hE.use args) inG7 tyX7 tyX7_ok nmX7 hown hK hP hD hS 0 rfl rfl k hk (hE.at args hlk) (fun _ h => by rw [hdecl] at h; exact h) hfin hin hdecl hd hn hfit (by rw [hlen]; exact hk) hdg (fun H1 locs1 h1 h2 h3 => kk H1 locs1 h1 h2 h3 (by rw [List.length_set]; exact hlen))
theorem put_X7 (X : Fx p s m meth c D cA A RX7 cc nL rt) (hP : va_P D vwCl ((o, .inr (7, fs)) :: L) H) (hD : va_D A ((o, .inr (7, fs)) :: L)) (hS : va_S A s.heap H locs) (hlen : fs.length = 8) (k : Nat) (hk : k < 8) (hlk : Cond.fieldLink RX7 index "NeededTrees$Walk" (TX7 k).2.1 (TX7 k).2.2.1 ∈ lw_tbl) (hfin : (TX7 k).2.2.2 = false) (hdecl : (TX7 k).1 = RX7) {v : Value} {ty : FieldType} (hd : parseFieldDescriptor (TX7 k).2.2.1 = some ty) (hn : narrow ty v = v) (hfit : fits ty v = true) (hdg : decode cc pc = .ok (.putfield index, 3))
    (kk : ∀ (H1 : Heap) (locs1 : List Loc), va_P D vwCl ((o, .inr (7, fs.set k v)) :: L) H1 → va_D A ((o, .inr (7, fs.set k v)) :: L) → va_S A s.heap H1 locs1 → (fs.set k v).length = 8 → W p l e R s m args below meth c H1 locs1 cells slots Q (F0 m (pc + 3) ls rest)) : W p l e R s m args below meth c H locs cells slots Q (F0 m pc ls (v :: .ref o :: rest)) := by
  obtain ⟨hx, hb, hr, hml, hown, hlk2, hE, hK, hA⟩ := X
  exact va_put hx hb (hE.use args) inG7 tyX7 tyX7_ok nmX7 hown hK hP hD hS 0 rfl rfl k hk (hE.at args hlk) (fun _ h => by rw [hdecl] at h; exact h) hfin hd hn hfit (by rw [hlen]; exact hk) hdg (fun H1 locs1 h1 h2 h3 => kk H1 locs1 h1 h2 h3 (by rw [List.length_set]; exact hlen))
theorem putF_X9 (X : Fx p s m meth c D cA A RX9 cc nL rt) (hin : meth.name = "<init>") (hP : va_P D vwCl ((o, .inr (9, fs)) :: L) H) (hD : va_D A ((o, .inr (9, fs)) :: L)) (hS : va_S A s.heap H locs) (hlen : fs.length = 59) (k : Nat) (hk : k < 59) (hlk : Cond.fieldLink RX9 index "NeededTreesModel" (TX9 k).2.1 (TX9 k).2.2.1 ∈ lw_tbl) (hfin : (TX9 k).2.2.2 = true) (hdecl : (TX9 k).1 = RX9) {v : Value} {ty : FieldType} (hd : parseFieldDescriptor (TX9 k).2.2.1 = some ty) (hn : narrow ty v = v) (hfit : fits ty v = true) (hdg : decode cc pc = .ok (.putfield index, 3))
    (kk : ∀ (H1 : Heap) (locs1 : List Loc), va_P D vwCl ((o, .inr (9, fs.set k v)) :: L) H1 → va_D A ((o, .inr (9, fs.set k v)) :: L) → va_S A s.heap H1 locs1 → (fs.set k v).length = 59 → W p l e R s m args below meth c H1 locs1 cells slots Q (F0 m (pc + 3) ls rest)) : W p l e R s m args below meth c H locs cells slots Q (F0 m pc ls (v :: .ref o :: rest)) := by
  obtain ⟨hx, hb, hr, hml, hown, hlk2, hE, hK, hA⟩ := X
  exact va_putF hx hb (hE.use args) inG9 tyX9 tyX9_ok nmX9 hown hK hP hD hS 0 rfl rfl k hk (hE.at args hlk) (fun _ h => by rw [hdecl] at h; exact h) hfin hin hdecl hd hn hfit (by rw [hlen]; exact hk) hdg (fun H1 locs1 h1 h2 h3 => kk H1 locs1 h1 h2 h3 (by rw [List.length_set]; exact hlen))
theorem put_X9 (X : Fx p s m meth c D cA A RX9 cc nL rt) (hP : va_P D vwCl ((o, .inr (9, fs)) :: L) H) (hD : va_D A ((o, .inr (9, fs)) :: L)) (hS : va_S A s.heap H locs) (hlen : fs.length = 59) (k : Nat) (hk : k < 59) (hlk : Cond.fieldLink RX9 index "NeededTreesModel" (TX9 k).2.1 (TX9 k).2.2.1 ∈ lw_tbl) (hfin : (TX9 k).2.2.2 = false) (hdecl : (TX9 k).1 = RX9) {v : Value} {ty : FieldType} (hd : parseFieldDescriptor (TX9 k).2.2.1 = some ty) (hn : narrow ty v = v) (hfit : fits ty v = true) (hdg : decode cc pc = .ok (.putfield index, 3))
    (kk : ∀ (H1 : Heap) (locs1 : List Loc), va_P D vwCl ((o, .inr (9, fs.set k v)) :: L) H1 → va_D A ((o, .inr (9, fs.set k v)) :: L) → va_S A s.heap H1 locs1 → (fs.set k v).length = 59 → W p l e R s m args below meth c H1 locs1 cells slots Q (F0 m (pc + 3) ls rest)) : W p l e R s m args below meth c H locs cells slots Q (F0 m pc ls (v :: .ref o :: rest)) := by
  obtain ⟨hx, hb, hr, hml, hown, hlk2, hE, hK, hA⟩ := X
  exact va_put hx hb (hE.use args) inG9 tyX9 tyX9_ok nmX9 hown hK hP hD hS 0 rfl rfl k hk (hE.at args hlk) (fun _ h => by rw [hdecl] at h; exact h) hfin hd hn hfit (by rw [hlen]; exact hk) hdg (fun H1 locs1 h1 h2 h3 => kk H1 locs1 h1 h2 h3 (by rw [List.length_set]; exact hlen))
end CM
abbrev rm_X4_init : Room := { frames := 1, cells := 3, slots := 180, locals := 12 }
set_option maxHeartbeats 16000000 in
set_option maxRecDepth 100000 in
theorem c_X4_init (l : Launch) (D : va_G) (cA : ClassId) (A : Nat → Prop) (o : Nat) (W0 : va_W) : Met l yX4_init [.code yX4_init cX4_init 1 none] rm_X4_init (va_Pc [.ref o] (Wd D cA A ((o, .inr (4, [.null, .null, .null, .int 0, .int 0, .int 0, .int 0])) :: W0))) (QC D cA A (fun u => (o, .inr (4, [.ref (u 0), .ref (u 1), .ref (u 2), .int 0, .int 0, .int (-1), .int 0])) :: (u 2, .inl (cA, 60, .inl (fun _ => 0))) :: (u 1, .inl (cA, 60, .inl (fun _ => 0))) :: (u 0, .inl (cA, 60, .inl (fun _ => 0))) :: W0)) 3 180 A := by
  refine enter (by decide) (Nat.le_of_ble_eq_true rfl) ?_
  intro p e s m below meth c ls X hin hP hD hS hl
  obtain ⟨hx, hb, hr, hml, hown, hlk, hE, hK, hA⟩ := id X
  have hl : lv_has ls 1 [(0, .ref o)] := hl
  have hn : ([.null, .null, .null, .int 0, .int 0, .int 0, .int 0] : List Value).length = 7 := rfl
  refine lv_aload_n hx hb dX4_init_0 rfl (lv_at hl 0 rfl) ?_
  refine obj_i X kw27 hl dX4_init_1 (by decide) (by decide) ?_
  refine lv_aload_n hx hb dX4_init_4 rfl (lv_at hl 0 rfl) ?_
  refine lv_bipush (v := 60) hx hb dX4_init_5 (by decide) ?_
  refine newI0 (N := 60) X hP hD hS (by decide) (by decide) (by decide) (by decide) (by decide) dX4_init_7 (fun q0 H hP hD hS => ?_)
  refine putF_X4 X hin hP hD hS hn 0 (by decide) kw28 rfl rfl rfl rfl rfl dX4_init_9 (fun H locs hP hD hS hn => ?_)
  have hP : va_P D vwCl ((o, .inr (4, [.ref q0, .null, .null, .int 0, .int 0, .int 0, .int 0])) :: _) H := hP
  have hD : va_D A ((o, .inr (4, [.ref q0, .null, .null, .int 0, .int 0, .int 0, .int 0])) :: _) := hD
  have hn : ([.ref q0, .null, .null, .int 0, .int 0, .int 0, .int 0] : List Value).length = 7 := rfl
  refine lv_aload_n hx hb dX4_init_12 rfl (lv_at hl 0 rfl) ?_
  refine lv_bipush (v := 60) hx hb dX4_init_13 (by decide) ?_
  refine newI0 (N := 60) X hP hD hS (by decide) (by decide) (by decide) (by decide) (by decide) dX4_init_15 (fun q1 H hP hD hS => ?_)
  refine putF_X4 X hin hP hD hS hn 1 (by decide) kw29 rfl rfl rfl rfl rfl dX4_init_17 (fun H locs hP hD hS hn => ?_)
  have hP : va_P D vwCl ((o, .inr (4, [.ref q0, .ref q1, .null, .int 0, .int 0, .int 0, .int 0])) :: _) H := hP
  have hD : va_D A ((o, .inr (4, [.ref q0, .ref q1, .null, .int 0, .int 0, .int 0, .int 0])) :: _) := hD
  have hn : ([.ref q0, .ref q1, .null, .int 0, .int 0, .int 0, .int 0] : List Value).length = 7 := rfl
  refine lv_aload_n hx hb dX4_init_20 rfl (lv_at hl 0 rfl) ?_
  refine lv_bipush (v := 60) hx hb dX4_init_21 (by decide) ?_
  refine newI0 (N := 60) X hP hD hS (by decide) (by decide) (by decide) (by decide) (by decide) dX4_init_23 (fun q2 H hP hD hS => ?_)
  refine putF_X4 X hin hP hD hS hn 2 (by decide) kw30 rfl rfl rfl rfl rfl dX4_init_25 (fun H locs hP hD hS hn => ?_)
  have hP : va_P D vwCl ((o, .inr (4, [.ref q0, .ref q1, .ref q2, .int 0, .int 0, .int 0, .int 0])) :: _) H := hP
  have hD : va_D A ((o, .inr (4, [.ref q0, .ref q1, .ref q2, .int 0, .int 0, .int 0, .int 0])) :: _) := hD
  have hn : ([.ref q0, .ref q1, .ref q2, .int 0, .int 0, .int 0, .int 0] : List Value).length = 7 := rfl
  refine lv_aload_n hx hb dX4_init_28 rfl (lv_at hl 0 rfl) ?_
  refine lv_iconst (v := -1) hx hb dX4_init_29 (by decide) ?_
  refine put_X4 X hP hD hS hn 5 (by decide) kw35 rfl rfl rfl rfl rfl dX4_init_30 (fun H locs hP hD hS hn => ?_)
  have hP : va_P D vwCl ((o, .inr (4, [.ref q0, .ref q1, .ref q2, .int 0, .int 0, .int (-1), .int 0])) :: _) H := hP
  have hD : va_D A ((o, .inr (4, [.ref q0, .ref q1, .ref q2, .int 0, .int 0, .int (-1), .int 0])) :: _) := hD
  have hn : ([.ref q0, .ref q1, .ref q2, .int 0, .int 0, .int (-1), .int 0] : List Value).length = 7 := rfl
  obtain ⟨u, h0, h1, h2⟩ : ∃ u : Nat → Nat, u 0 = q0 ∧ u 1 = q1 ∧ u 2 = q2 := ⟨fun k => [q0, q1, q2].getD k 0, rfl, rfl, rfl⟩
  rw [← h0, ← h1, ← h2] at hP hD
  exact ret_c X u hP hD hS dX4_init_33
abbrev rm_X2_init : Room := { frames := 1, cells := 5, slots := 648, locals := 12 }
set_option maxHeartbeats 16000000 in
set_option maxRecDepth 100000 in
theorem c_X2_init (l : Launch) (D : va_G) (cA : ClassId) (A : Nat → Prop) (o : Nat) (W0 : va_W) : Met l yX2_init [.code yX2_init cX2_init 1 none] rm_X2_init (va_Pc [.ref o] (Wd D cA A ((o, .inr (2, [.null, .null, .null, .null, .null, .int 0, .int 0, .int 0])) :: W0))) (QC D cA A (fun u => (o, .inr (2, [.ref (u 0), .ref (u 1), .ref (u 2), .ref (u 3), .ref (u 4), .int 0, .int 0, .int 0])) :: (u 4, .inl (cA, 8, .inl (fun _ => 0))) :: (u 3, .inl (cA, 160, .inl (fun _ => 0))) :: (u 2, .inl (cA, 160, .inl (fun _ => 0))) :: (u 1, .inl (cA, 160, .inl (fun _ => 0))) :: (u 0, .inl (cA, 160, .inl (fun _ => 0))) :: W0)) 5 648 A := by
  refine enter (by decide) (Nat.le_of_ble_eq_true rfl) ?_
  intro p e s m below meth c ls X hin hP hD hS hl
  obtain ⟨hx, hb, hr, hml, hown, hlk, hE, hK, hA⟩ := id X
  have hl : lv_has ls 1 [(0, .ref o)] := hl
  have hn : ([.null, .null, .null, .null, .null, .int 0, .int 0, .int 0] : List Value).length = 8 := rfl
  refine lv_aload_n hx hb dX2_init_0 rfl (lv_at hl 0 rfl) ?_
  refine obj_i X kw59 hl dX2_init_1 (by decide) (by decide) ?_
  refine lv_aload_n hx hb dX2_init_4 rfl (lv_at hl 0 rfl) ?_
  refine lv_sipush (v := 160) hx hb dX2_init_5 (by decide) ?_
  refine newI0 (N := 160) X hP hD hS (by decide) (by decide) (by decide) (by decide) (by decide) dX2_init_8 (fun q0 H hP hD hS => ?_)
  refine putF_X2 X hin hP hD hS hn 0 (by decide) kw60 rfl rfl rfl rfl rfl dX2_init_10 (fun H locs hP hD hS hn => ?_)
  have hP : va_P D vwCl ((o, .inr (2, [.ref q0, .null, .null, .null, .null, .int 0, .int 0, .int 0])) :: _) H := hP
  have hD : va_D A ((o, .inr (2, [.ref q0, .null, .null, .null, .null, .int 0, .int 0, .int 0])) :: _) := hD
  have hn : ([.ref q0, .null, .null, .null, .null, .int 0, .int 0, .int 0] : List Value).length = 8 := rfl
  refine lv_aload_n hx hb dX2_init_13 rfl (lv_at hl 0 rfl) ?_
  refine lv_sipush (v := 160) hx hb dX2_init_14 (by decide) ?_
  refine newI0 (N := 160) X hP hD hS (by decide) (by decide) (by decide) (by decide) (by decide) dX2_init_17 (fun q1 H hP hD hS => ?_)
  refine putF_X2 X hin hP hD hS hn 1 (by decide) kw63 rfl rfl rfl rfl rfl dX2_init_19 (fun H locs hP hD hS hn => ?_)
  have hP : va_P D vwCl ((o, .inr (2, [.ref q0, .ref q1, .null, .null, .null, .int 0, .int 0, .int 0])) :: _) H := hP
  have hD : va_D A ((o, .inr (2, [.ref q0, .ref q1, .null, .null, .null, .int 0, .int 0, .int 0])) :: _) := hD
  have hn : ([.ref q0, .ref q1, .null, .null, .null, .int 0, .int 0, .int 0] : List Value).length = 8 := rfl
  refine lv_aload_n hx hb dX2_init_22 rfl (lv_at hl 0 rfl) ?_
  refine lv_sipush (v := 160) hx hb dX2_init_23 (by decide) ?_
  refine newI0 (N := 160) X hP hD hS (by decide) (by decide) (by decide) (by decide) (by decide) dX2_init_26 (fun q2 H hP hD hS => ?_)
  refine putF_X2 X hin hP hD hS hn 2 (by decide) kw65 rfl rfl rfl rfl rfl dX2_init_28 (fun H locs hP hD hS hn => ?_)
  have hP : va_P D vwCl ((o, .inr (2, [.ref q0, .ref q1, .ref q2, .null, .null, .int 0, .int 0, .int 0])) :: _) H := hP
  have hD : va_D A ((o, .inr (2, [.ref q0, .ref q1, .ref q2, .null, .null, .int 0, .int 0, .int 0])) :: _) := hD
  have hn : ([.ref q0, .ref q1, .ref q2, .null, .null, .int 0, .int 0, .int 0] : List Value).length = 8 := rfl
  refine lv_aload_n hx hb dX2_init_31 rfl (lv_at hl 0 rfl) ?_
  refine lv_sipush (v := 160) hx hb dX2_init_32 (by decide) ?_
  refine newI0 (N := 160) X hP hD hS (by decide) (by decide) (by decide) (by decide) (by decide) dX2_init_35 (fun q3 H hP hD hS => ?_)
  refine putF_X2 X hin hP hD hS hn 3 (by decide) kw67 rfl rfl rfl rfl rfl dX2_init_37 (fun H locs hP hD hS hn => ?_)
  have hP : va_P D vwCl ((o, .inr (2, [.ref q0, .ref q1, .ref q2, .ref q3, .null, .int 0, .int 0, .int 0])) :: _) H := hP
  have hD : va_D A ((o, .inr (2, [.ref q0, .ref q1, .ref q2, .ref q3, .null, .int 0, .int 0, .int 0])) :: _) := hD
  have hn : ([.ref q0, .ref q1, .ref q2, .ref q3, .null, .int 0, .int 0, .int 0] : List Value).length = 8 := rfl
  refine lv_aload_n hx hb dX2_init_40 rfl (lv_at hl 0 rfl) ?_
  refine lv_bipush (v := 8) hx hb dX2_init_41 (by decide) ?_
  refine newI0 (N := 8) X hP hD hS (by decide) (by decide) (by decide) (by decide) (by decide) dX2_init_43 (fun q4 H hP hD hS => ?_)
  refine putF_X2 X hin hP hD hS hn 4 (by decide) kw70 rfl rfl rfl rfl rfl dX2_init_45 (fun H locs hP hD hS hn => ?_)
  have hP : va_P D vwCl ((o, .inr (2, [.ref q0, .ref q1, .ref q2, .ref q3, .ref q4, .int 0, .int 0, .int 0])) :: _) H := hP
  have hD : va_D A ((o, .inr (2, [.ref q0, .ref q1, .ref q2, .ref q3, .ref q4, .int 0, .int 0, .int 0])) :: _) := hD
  have hn : ([.ref q0, .ref q1, .ref q2, .ref q3, .ref q4, .int 0, .int 0, .int 0] : List Value).length = 8 := rfl
  obtain ⟨u, h0, h1, h2, h3, h4⟩ : ∃ u : Nat → Nat, u 0 = q0 ∧ u 1 = q1 ∧ u 2 = q2 ∧ u 3 = q3 ∧ u 4 = q4 := ⟨fun k => [q0, q1, q2, q3, q4].getD k 0, rfl, rfl, rfl, rfl, rfl⟩
  rw [← h0, ← h1, ← h2, ← h3, ← h4] at hP hD
  exact ret_c X u hP hD hS dX2_init_48
abbrev rm_X3_init : Room := { frames := 1, cells := 6, slots := 2585, locals := 12 }
set_option maxHeartbeats 16000000 in
set_option maxRecDepth 100000 in
theorem c_X3_init (l : Launch) (D : va_G) (cA : ClassId) (A : Nat → Prop) (o : Nat) (W0 : va_W) : Met l yX3_init [.code yX3_init cX3_init 1 none] rm_X3_init (va_Pc [.ref o] (Wd D cA A ((o, .inr (3, [.null, .null, .null, .null, .null, .null, .int 0])) :: W0))) (QC D cA A (fun u => (o, .inr (3, [.ref (u 0), .ref (u 1), .ref (u 2), .ref (u 3), .ref (u 4), .ref (u 5), .int 0])) :: (u 5, .inl (cA, 512, .inl (fun _ => 0))) :: (u 4, .inl (cA, 512, .inl (fun _ => 0))) :: (u 3, .inl (cA, 512, .inl (fun _ => 0))) :: (u 2, .inl (cA, 512, .inl (fun _ => 0))) :: (u 1, .inl (cA, 512, .inl (fun _ => 0))) :: (u 0, .inl (cA, 25, .inl (fun _ => 0))) :: W0)) 6 2585 A := by
  refine enter (by decide) (Nat.le_of_ble_eq_true rfl) ?_
  intro p e s m below meth c ls X hin hP hD hS hl
  obtain ⟨hx, hb, hr, hml, hown, hlk, hE, hK, hA⟩ := id X
  have hl : lv_has ls 1 [(0, .ref o)] := hl
  have hn : ([.null, .null, .null, .null, .null, .null, .int 0] : List Value).length = 7 := rfl
  refine lv_aload_n hx hb dX3_init_0 rfl (lv_at hl 0 rfl) ?_
  refine obj_i X kw97 hl dX3_init_1 (by decide) (by decide) ?_
  refine lv_aload_n hx hb dX3_init_4 rfl (lv_at hl 0 rfl) ?_
  refine lv_bipush (v := 25) hx hb dX3_init_5 (by decide) ?_
  refine newI0 (N := 25) X hP hD hS (by decide) (by decide) (by decide) (by decide) (by decide) dX3_init_7 (fun q0 H hP hD hS => ?_)
  refine putF_X3 X hin hP hD hS hn 0 (by decide) kw98 rfl rfl rfl rfl rfl dX3_init_9 (fun H locs hP hD hS hn => ?_)
  have hP : va_P D vwCl ((o, .inr (3, [.ref q0, .null, .null, .null, .null, .null, .int 0])) :: _) H := hP
  have hD : va_D A ((o, .inr (3, [.ref q0, .null, .null, .null, .null, .null, .int 0])) :: _) := hD
  have hn : ([.ref q0, .null, .null, .null, .null, .null, .int 0] : List Value).length = 7 := rfl
  refine lv_aload_n hx hb dX3_init_12 rfl (lv_at hl 0 rfl) ?_
  refine lv_sipush (v := 512) hx hb dX3_init_13 (by decide) ?_
  refine newI0 (N := 512) X hP hD hS (by decide) (by decide) (by decide) (by decide) (by decide) dX3_init_16 (fun q1 H hP hD hS => ?_)
  refine putF_X3 X hin hP hD hS hn 1 (by decide) kw99 rfl rfl rfl rfl rfl dX3_init_18 (fun H locs hP hD hS hn => ?_)
  have hP : va_P D vwCl ((o, .inr (3, [.ref q0, .ref q1, .null, .null, .null, .null, .int 0])) :: _) H := hP
  have hD : va_D A ((o, .inr (3, [.ref q0, .ref q1, .null, .null, .null, .null, .int 0])) :: _) := hD
  have hn : ([.ref q0, .ref q1, .null, .null, .null, .null, .int 0] : List Value).length = 7 := rfl
  refine lv_aload_n hx hb dX3_init_21 rfl (lv_at hl 0 rfl) ?_
  refine lv_sipush (v := 512) hx hb dX3_init_22 (by decide) ?_
  refine newI0 (N := 512) X hP hD hS (by decide) (by decide) (by decide) (by decide) (by decide) dX3_init_25 (fun q2 H hP hD hS => ?_)
  refine putF_X3 X hin hP hD hS hn 2 (by decide) kw102 rfl rfl rfl rfl rfl dX3_init_27 (fun H locs hP hD hS hn => ?_)
  have hP : va_P D vwCl ((o, .inr (3, [.ref q0, .ref q1, .ref q2, .null, .null, .null, .int 0])) :: _) H := hP
  have hD : va_D A ((o, .inr (3, [.ref q0, .ref q1, .ref q2, .null, .null, .null, .int 0])) :: _) := hD
  have hn : ([.ref q0, .ref q1, .ref q2, .null, .null, .null, .int 0] : List Value).length = 7 := rfl
  refine lv_aload_n hx hb dX3_init_30 rfl (lv_at hl 0 rfl) ?_
  refine lv_sipush (v := 512) hx hb dX3_init_31 (by decide) ?_
  refine newI0 (N := 512) X hP hD hS (by decide) (by decide) (by decide) (by decide) (by decide) dX3_init_34 (fun q3 H hP hD hS => ?_)
  refine putF_X3 X hin hP hD hS hn 3 (by decide) kw104 rfl rfl rfl rfl rfl dX3_init_36 (fun H locs hP hD hS hn => ?_)
  have hP : va_P D vwCl ((o, .inr (3, [.ref q0, .ref q1, .ref q2, .ref q3, .null, .null, .int 0])) :: _) H := hP
  have hD : va_D A ((o, .inr (3, [.ref q0, .ref q1, .ref q2, .ref q3, .null, .null, .int 0])) :: _) := hD
  have hn : ([.ref q0, .ref q1, .ref q2, .ref q3, .null, .null, .int 0] : List Value).length = 7 := rfl
  refine lv_aload_n hx hb dX3_init_39 rfl (lv_at hl 0 rfl) ?_
  refine lv_sipush (v := 512) hx hb dX3_init_40 (by decide) ?_
  refine newI0 (N := 512) X hP hD hS (by decide) (by decide) (by decide) (by decide) (by decide) dX3_init_43 (fun q4 H hP hD hS => ?_)
  refine putF_X3 X hin hP hD hS hn 4 (by decide) kw106 rfl rfl rfl rfl rfl dX3_init_45 (fun H locs hP hD hS hn => ?_)
  have hP : va_P D vwCl ((o, .inr (3, [.ref q0, .ref q1, .ref q2, .ref q3, .ref q4, .null, .int 0])) :: _) H := hP
  have hD : va_D A ((o, .inr (3, [.ref q0, .ref q1, .ref q2, .ref q3, .ref q4, .null, .int 0])) :: _) := hD
  have hn : ([.ref q0, .ref q1, .ref q2, .ref q3, .ref q4, .null, .int 0] : List Value).length = 7 := rfl
  refine lv_aload_n hx hb dX3_init_48 rfl (lv_at hl 0 rfl) ?_
  refine lv_sipush (v := 512) hx hb dX3_init_49 (by decide) ?_
  refine newI0 (N := 512) X hP hD hS (by decide) (by decide) (by decide) (by decide) (by decide) dX3_init_52 (fun q5 H hP hD hS => ?_)
  refine putF_X3 X hin hP hD hS hn 5 (by decide) kw108 rfl rfl rfl rfl rfl dX3_init_54 (fun H locs hP hD hS hn => ?_)
  have hP : va_P D vwCl ((o, .inr (3, [.ref q0, .ref q1, .ref q2, .ref q3, .ref q4, .ref q5, .int 0])) :: _) H := hP
  have hD : va_D A ((o, .inr (3, [.ref q0, .ref q1, .ref q2, .ref q3, .ref q4, .ref q5, .int 0])) :: _) := hD
  have hn : ([.ref q0, .ref q1, .ref q2, .ref q3, .ref q4, .ref q5, .int 0] : List Value).length = 7 := rfl
  obtain ⟨u, h0, h1, h2, h3, h4, h5⟩ : ∃ u : Nat → Nat, u 0 = q0 ∧ u 1 = q1 ∧ u 2 = q2 ∧ u 3 = q3 ∧ u 4 = q4 ∧ u 5 = q5 := ⟨fun k => [q0, q1, q2, q3, q4, q5].getD k 0, rfl, rfl, rfl, rfl, rfl, rfl⟩
  rw [← h0, ← h1, ← h2, ← h3, ← h4, ← h5] at hP hD
  exact ret_c X u hP hD hS dX3_init_57
abbrev rm_X6_init : Room := { frames := 1, cells := 6, slots := 2986, locals := 12 }
set_option maxHeartbeats 16000000 in
set_option maxRecDepth 100000 in
theorem c_X6_init (l : Launch) (D : va_G) (cA : ClassId) (A : Nat → Prop) (o : Nat) (W0 : va_W) : Met l yX6_init [.code yX6_init cX6_init 1 none] rm_X6_init (va_Pc [.ref o] (Wd D cA A ((o, .inr (6, [.null, .null, .null, .null, .null, .null, .int 0])) :: W0))) (QC D cA A (fun u => (o, .inr (6, [.ref (u 0), .ref (u 1), .ref (u 2), .ref (u 3), .ref (u 4), .ref (u 5), .int 0])) :: (u 5, .inl (cA, 186, .inl (fun _ => 0))) :: (u 4, .inl (cA, 560, .inl (fun _ => 0))) :: (u 3, .inl (cA, 560, .inl (fun _ => 0))) :: (u 2, .inl (cA, 560, .inl (fun _ => 0))) :: (u 1, .inl (cA, 560, .inl (fun _ => 0))) :: (u 0, .inl (cA, 560, .inl (fun _ => 0))) :: W0)) 6 2986 A := by
  refine enter (by decide) (Nat.le_of_ble_eq_true rfl) ?_
  intro p e s m below meth c ls X hin hP hD hS hl
  obtain ⟨hx, hb, hr, hml, hown, hlk, hE, hK, hA⟩ := id X
  have hl : lv_has ls 1 [(0, .ref o)] := hl
  have hn : ([.null, .null, .null, .null, .null, .null, .int 0] : List Value).length = 7 := rfl
  refine lv_aload_n hx hb dX6_init_0 rfl (lv_at hl 0 rfl) ?_
  refine obj_i X kw134 hl dX6_init_1 (by decide) (by decide) ?_
  refine lv_aload_n hx hb dX6_init_4 rfl (lv_at hl 0 rfl) ?_
  refine lv_sipush (v := 560) hx hb dX6_init_5 (by decide) ?_
  refine newI0 (N := 560) X hP hD hS (by decide) (by decide) (by decide) (by decide) (by decide) dX6_init_8 (fun q0 H hP hD hS => ?_)
  refine putF_X6 X hin hP hD hS hn 0 (by decide) kw135 rfl rfl rfl rfl rfl dX6_init_10 (fun H locs hP hD hS hn => ?_)
  have hP : va_P D vwCl ((o, .inr (6, [.ref q0, .null, .null, .null, .null, .null, .int 0])) :: _) H := hP
  have hD : va_D A ((o, .inr (6, [.ref q0, .null, .null, .null, .null, .null, .int 0])) :: _) := hD
  have hn : ([.ref q0, .null, .null, .null, .null, .null, .int 0] : List Value).length = 7 := rfl
  refine lv_aload_n hx hb dX6_init_13 rfl (lv_at hl 0 rfl) ?_
  refine lv_sipush (v := 560) hx hb dX6_init_14 (by decide) ?_
  refine newI0 (N := 560) X hP hD hS (by decide) (by decide) (by decide) (by decide) (by decide) dX6_init_17 (fun q1 H hP hD hS => ?_)
  refine putF_X6 X hin hP hD hS hn 1 (by decide) kw137 rfl rfl rfl rfl rfl dX6_init_19 (fun H locs hP hD hS hn => ?_)
  have hP : va_P D vwCl ((o, .inr (6, [.ref q0, .ref q1, .null, .null, .null, .null, .int 0])) :: _) H := hP
  have hD : va_D A ((o, .inr (6, [.ref q0, .ref q1, .null, .null, .null, .null, .int 0])) :: _) := hD
  have hn : ([.ref q0, .ref q1, .null, .null, .null, .null, .int 0] : List Value).length = 7 := rfl
  refine lv_aload_n hx hb dX6_init_22 rfl (lv_at hl 0 rfl) ?_
  refine lv_sipush (v := 560) hx hb dX6_init_23 (by decide) ?_
  refine newI0 (N := 560) X hP hD hS (by decide) (by decide) (by decide) (by decide) (by decide) dX6_init_26 (fun q2 H hP hD hS => ?_)
  refine putF_X6 X hin hP hD hS hn 2 (by decide) kw139 rfl rfl rfl rfl rfl dX6_init_28 (fun H locs hP hD hS hn => ?_)
  have hP : va_P D vwCl ((o, .inr (6, [.ref q0, .ref q1, .ref q2, .null, .null, .null, .int 0])) :: _) H := hP
  have hD : va_D A ((o, .inr (6, [.ref q0, .ref q1, .ref q2, .null, .null, .null, .int 0])) :: _) := hD
  have hn : ([.ref q0, .ref q1, .ref q2, .null, .null, .null, .int 0] : List Value).length = 7 := rfl
  refine lv_aload_n hx hb dX6_init_31 rfl (lv_at hl 0 rfl) ?_
  refine lv_sipush (v := 560) hx hb dX6_init_32 (by decide) ?_
  refine newI0 (N := 560) X hP hD hS (by decide) (by decide) (by decide) (by decide) (by decide) dX6_init_35 (fun q3 H hP hD hS => ?_)
  refine putF_X6 X hin hP hD hS hn 3 (by decide) kw140 rfl rfl rfl rfl rfl dX6_init_37 (fun H locs hP hD hS hn => ?_)
  have hP : va_P D vwCl ((o, .inr (6, [.ref q0, .ref q1, .ref q2, .ref q3, .null, .null, .int 0])) :: _) H := hP
  have hD : va_D A ((o, .inr (6, [.ref q0, .ref q1, .ref q2, .ref q3, .null, .null, .int 0])) :: _) := hD
  have hn : ([.ref q0, .ref q1, .ref q2, .ref q3, .null, .null, .int 0] : List Value).length = 7 := rfl
  refine lv_aload_n hx hb dX6_init_40 rfl (lv_at hl 0 rfl) ?_
  refine lv_sipush (v := 560) hx hb dX6_init_41 (by decide) ?_
  refine newI0 (N := 560) X hP hD hS (by decide) (by decide) (by decide) (by decide) (by decide) dX6_init_44 (fun q4 H hP hD hS => ?_)
  refine putF_X6 X hin hP hD hS hn 4 (by decide) kw142 rfl rfl rfl rfl rfl dX6_init_46 (fun H locs hP hD hS hn => ?_)
  have hP : va_P D vwCl ((o, .inr (6, [.ref q0, .ref q1, .ref q2, .ref q3, .ref q4, .null, .int 0])) :: _) H := hP
  have hD : va_D A ((o, .inr (6, [.ref q0, .ref q1, .ref q2, .ref q3, .ref q4, .null, .int 0])) :: _) := hD
  have hn : ([.ref q0, .ref q1, .ref q2, .ref q3, .ref q4, .null, .int 0] : List Value).length = 7 := rfl
  refine lv_aload_n hx hb dX6_init_49 rfl (lv_at hl 0 rfl) ?_
  refine lv_sipush (v := 186) hx hb dX6_init_50 (by decide) ?_
  refine newI0 (N := 186) X hP hD hS (by decide) (by decide) (by decide) (by decide) (by decide) dX6_init_53 (fun q5 H hP hD hS => ?_)
  refine putF_X6 X hin hP hD hS hn 5 (by decide) kw144 rfl rfl rfl rfl rfl dX6_init_55 (fun H locs hP hD hS hn => ?_)
  have hP : va_P D vwCl ((o, .inr (6, [.ref q0, .ref q1, .ref q2, .ref q3, .ref q4, .ref q5, .int 0])) :: _) H := hP
  have hD : va_D A ((o, .inr (6, [.ref q0, .ref q1, .ref q2, .ref q3, .ref q4, .ref q5, .int 0])) :: _) := hD
  have hn : ([.ref q0, .ref q1, .ref q2, .ref q3, .ref q4, .ref q5, .int 0] : List Value).length = 7 := rfl
  obtain ⟨u, h0, h1, h2, h3, h4, h5⟩ : ∃ u : Nat → Nat, u 0 = q0 ∧ u 1 = q1 ∧ u 2 = q2 ∧ u 3 = q3 ∧ u 4 = q4 ∧ u 5 = q5 := ⟨fun k => [q0, q1, q2, q3, q4, q5].getD k 0, rfl, rfl, rfl, rfl, rfl, rfl⟩
  rw [← h0, ← h1, ← h2, ← h3, ← h4, ← h5] at hP hD
  exact ret_c X u hP hD hS dX6_init_58
abbrev rm_X1_init : Room := { frames := 1, cells := 4, slots := 96, locals := 12 }
set_option maxHeartbeats 16000000 in
set_option maxRecDepth 100000 in
theorem c_X1_init (l : Launch) (D : va_G) (cA : ClassId) (A : Nat → Prop) (o r1 r2 : Nat) (W0 : va_W) : Met l yX1_init [.code yX1_init cX1_init 3 none] rm_X1_init (va_Pc [.ref o, .ref r1, .ref r2] (Wd D cA A ((o, .inr (1, [.null, .null, .null, .null, .null, .null, .int 0])) :: W0))) (QC D cA A (fun u => (o, .inr (1, [.ref r1, .ref r2, .ref (u 0), .ref (u 1), .ref (u 2), .ref (u 3), .int 0])) :: (u 3, .inl (cA, 24, .inl (fun _ => 0))) :: (u 2, .inl (cA, 24, .inl (fun _ => 0))) :: (u 1, .inl (cA, 24, .inl (fun _ => 0))) :: (u 0, .inl (cA, 24, .inl (fun _ => 0))) :: W0)) 4 96 A := by
  refine enter (by decide) (Nat.le_of_ble_eq_true rfl) ?_
  intro p e s m below meth c ls X hin hP hD hS hl
  obtain ⟨hx, hb, hr, hml, hown, hlk, hE, hK, hA⟩ := id X
  have hl : lv_has ls 3 [(0, .ref o), (1, .ref r1), (2, .ref r2)] := hl
  have hn : ([.null, .null, .null, .null, .null, .null, .int 0] : List Value).length = 7 := rfl
  refine lv_aload_n hx hb dX1_init_0 rfl (lv_at hl 0 rfl) ?_
  refine obj_i X kw168 hl dX1_init_1 (by decide) (by decide) ?_
  refine lv_aload_n hx hb dX1_init_4 rfl (lv_at hl 0 rfl) ?_
  refine lv_bipush (v := 24) hx hb dX1_init_5 (by decide) ?_
  refine newI0 (N := 24) X hP hD hS (by decide) (by decide) (by decide) (by decide) (by decide) dX1_init_7 (fun q0 H hP hD hS => ?_)
  refine putF_X1 X hin hP hD hS hn 2 (by decide) kw171 rfl rfl rfl rfl rfl dX1_init_9 (fun H locs hP hD hS hn => ?_)
  have hP : va_P D vwCl ((o, .inr (1, [.null, .null, .ref q0, .null, .null, .null, .int 0])) :: _) H := hP
  have hD : va_D A ((o, .inr (1, [.null, .null, .ref q0, .null, .null, .null, .int 0])) :: _) := hD
  have hn : ([.null, .null, .ref q0, .null, .null, .null, .int 0] : List Value).length = 7 := rfl
  refine lv_aload_n hx hb dX1_init_12 rfl (lv_at hl 0 rfl) ?_
  refine lv_bipush (v := 24) hx hb dX1_init_13 (by decide) ?_
  refine newI0 (N := 24) X hP hD hS (by decide) (by decide) (by decide) (by decide) (by decide) dX1_init_15 (fun q1 H hP hD hS => ?_)
  refine putF_X1 X hin hP hD hS hn 3 (by decide) kw172 rfl rfl rfl rfl rfl dX1_init_17 (fun H locs hP hD hS hn => ?_)
  have hP : va_P D vwCl ((o, .inr (1, [.null, .null, .ref q0, .ref q1, .null, .null, .int 0])) :: _) H := hP
  have hD : va_D A ((o, .inr (1, [.null, .null, .ref q0, .ref q1, .null, .null, .int 0])) :: _) := hD
  have hn : ([.null, .null, .ref q0, .ref q1, .null, .null, .int 0] : List Value).length = 7 := rfl
  refine lv_aload_n hx hb dX1_init_20 rfl (lv_at hl 0 rfl) ?_
  refine lv_bipush (v := 24) hx hb dX1_init_21 (by decide) ?_
  refine newI0 (N := 24) X hP hD hS (by decide) (by decide) (by decide) (by decide) (by decide) dX1_init_23 (fun q2 H hP hD hS => ?_)
  refine putF_X1 X hin hP hD hS hn 4 (by decide) kw173 rfl rfl rfl rfl rfl dX1_init_25 (fun H locs hP hD hS hn => ?_)
  have hP : va_P D vwCl ((o, .inr (1, [.null, .null, .ref q0, .ref q1, .ref q2, .null, .int 0])) :: _) H := hP
  have hD : va_D A ((o, .inr (1, [.null, .null, .ref q0, .ref q1, .ref q2, .null, .int 0])) :: _) := hD
  have hn : ([.null, .null, .ref q0, .ref q1, .ref q2, .null, .int 0] : List Value).length = 7 := rfl
  refine lv_aload_n hx hb dX1_init_28 rfl (lv_at hl 0 rfl) ?_
  refine lv_bipush (v := 24) hx hb dX1_init_29 (by decide) ?_
  refine newI0 (N := 24) X hP hD hS (by decide) (by decide) (by decide) (by decide) (by decide) dX1_init_31 (fun q3 H hP hD hS => ?_)
  refine putF_X1 X hin hP hD hS hn 5 (by decide) kw174 rfl rfl rfl rfl rfl dX1_init_33 (fun H locs hP hD hS hn => ?_)
  have hP : va_P D vwCl ((o, .inr (1, [.null, .null, .ref q0, .ref q1, .ref q2, .ref q3, .int 0])) :: _) H := hP
  have hD : va_D A ((o, .inr (1, [.null, .null, .ref q0, .ref q1, .ref q2, .ref q3, .int 0])) :: _) := hD
  have hn : ([.null, .null, .ref q0, .ref q1, .ref q2, .ref q3, .int 0] : List Value).length = 7 := rfl
  refine lv_aload_n hx hb dX1_init_36 rfl (lv_at hl 0 rfl) ?_
  refine lv_aload_n hx hb dX1_init_37 rfl (lv_at hl 1 rfl) ?_
  refine putF_X1 X hin hP hD hS hn 0 (by decide) kw169 rfl rfl rfl rfl rfl dX1_init_38 (fun H locs hP hD hS hn => ?_)
  have hP : va_P D vwCl ((o, .inr (1, [.ref r1, .null, .ref q0, .ref q1, .ref q2, .ref q3, .int 0])) :: _) H := hP
  have hD : va_D A ((o, .inr (1, [.ref r1, .null, .ref q0, .ref q1, .ref q2, .ref q3, .int 0])) :: _) := hD
  have hn : ([.ref r1, .null, .ref q0, .ref q1, .ref q2, .ref q3, .int 0] : List Value).length = 7 := rfl
  refine lv_aload_n hx hb dX1_init_41 rfl (lv_at hl 0 rfl) ?_
  refine lv_aload_n hx hb dX1_init_42 rfl (lv_at hl 2 rfl) ?_
  refine putF_X1 X hin hP hD hS hn 1 (by decide) kw170 rfl rfl rfl rfl rfl dX1_init_43 (fun H locs hP hD hS hn => ?_)
  have hP : va_P D vwCl ((o, .inr (1, [.ref r1, .ref r2, .ref q0, .ref q1, .ref q2, .ref q3, .int 0])) :: _) H := hP
  have hD : va_D A ((o, .inr (1, [.ref r1, .ref r2, .ref q0, .ref q1, .ref q2, .ref q3, .int 0])) :: _) := hD
  have hn : ([.ref r1, .ref r2, .ref q0, .ref q1, .ref q2, .ref q3, .int 0] : List Value).length = 7 := rfl
  obtain ⟨u, h0, h1, h2, h3⟩ : ∃ u : Nat → Nat, u 0 = q0 ∧ u 1 = q1 ∧ u 2 = q2 ∧ u 3 = q3 := ⟨fun k => [q0, q1, q2, q3].getD k 0, rfl, rfl, rfl, rfl⟩
  rw [← h0, ← h1, ← h2, ← h3] at hP hD
  exact ret_c X u hP hD hS dX1_init_46
abbrev rm_X5_init : Room := { frames := 1, cells := 7, slots := 4600, locals := 12 }
set_option maxHeartbeats 16000000 in
set_option maxRecDepth 100000 in
theorem c_X5_init (l : Launch) (D : va_G) (cA : ClassId) (A : Nat → Prop) (o r1 : Nat) (W0 : va_W) : Met l yX5_init [.code yX5_init cX5_init 2 none] rm_X5_init (va_Pc [.ref o, .ref r1] (Wd D cA A ((o, .inr (5, [.null, .null, .null, .null, .null, .null, .null, .null, .int 0, .int 0, .int 0, .int 0])) :: W0))) (QC D cA A (fun u => (o, .inr (5, [.ref r1, .ref (u 0), .ref (u 1), .ref (u 2), .ref (u 3), .ref (u 4), .ref (u 5), .ref (u 6), .int 0, .int 0, .int 0, .int 0])) :: (u 6, .inl (cA, 400, .inl (fun _ => 0))) :: (u 5, .inl (cA, 160, .inl (fun _ => 0))) :: (u 4, .inl (cA, 808, .inl (fun _ => 0))) :: (u 3, .inl (cA, 808, .inl (fun _ => 0))) :: (u 2, .inl (cA, 808, .inl (fun _ => 0))) :: (u 1, .inl (cA, 808, .inl (fun _ => 0))) :: (u 0, .inl (cA, 808, .inl (fun _ => 0))) :: W0)) 7 4600 A := by
  refine enter (by decide) (Nat.le_of_ble_eq_true rfl) ?_
  intro p e s m below meth c ls X hin hP hD hS hl
  obtain ⟨hx, hb, hr, hml, hown, hlk, hE, hK, hA⟩ := id X
  have hl : lv_has ls 2 [(0, .ref o), (1, .ref r1)] := hl
  have hn : ([.null, .null, .null, .null, .null, .null, .null, .null, .int 0, .int 0, .int 0, .int 0] : List Value).length = 12 := rfl
  refine lv_aload_n hx hb dX5_init_0 rfl (lv_at hl 0 rfl) ?_
  refine obj_i X kw196 hl dX5_init_1 (by decide) (by decide) ?_
  refine lv_aload_n hx hb dX5_init_4 rfl (lv_at hl 0 rfl) ?_
  refine lv_sipush (v := 808) hx hb dX5_init_5 (by decide) ?_
  refine newI0 (N := 808) X hP hD hS (by decide) (by decide) (by decide) (by decide) (by decide) dX5_init_8 (fun q0 H hP hD hS => ?_)
  refine putF_X5 X hin hP hD hS hn 1 (by decide) kw198 rfl rfl rfl rfl rfl dX5_init_10 (fun H locs hP hD hS hn => ?_)
  have hP : va_P D vwCl ((o, .inr (5, [.null, .ref q0, .null, .null, .null, .null, .null, .null, .int 0, .int 0, .int 0, .int 0])) :: _) H := hP
  have hD : va_D A ((o, .inr (5, [.null, .ref q0, .null, .null, .null, .null, .null, .null, .int 0, .int 0, .int 0, .int 0])) :: _) := hD
  have hn : ([.null, .ref q0, .null, .null, .null, .null, .null, .null, .int 0, .int 0, .int 0, .int 0] : List Value).length = 12 := rfl
  refine lv_aload_n hx hb dX5_init_13 rfl (lv_at hl 0 rfl) ?_
  refine lv_sipush (v := 808) hx hb dX5_init_14 (by decide) ?_
  refine newI0 (N := 808) X hP hD hS (by decide) (by decide) (by decide) (by decide) (by decide) dX5_init_17 (fun q1 H hP hD hS => ?_)
  refine putF_X5 X hin hP hD hS hn 2 (by decide) kw200 rfl rfl rfl rfl rfl dX5_init_19 (fun H locs hP hD hS hn => ?_)
  have hP : va_P D vwCl ((o, .inr (5, [.null, .ref q0, .ref q1, .null, .null, .null, .null, .null, .int 0, .int 0, .int 0, .int 0])) :: _) H := hP
  have hD : va_D A ((o, .inr (5, [.null, .ref q0, .ref q1, .null, .null, .null, .null, .null, .int 0, .int 0, .int 0, .int 0])) :: _) := hD
  have hn : ([.null, .ref q0, .ref q1, .null, .null, .null, .null, .null, .int 0, .int 0, .int 0, .int 0] : List Value).length = 12 := rfl
  refine lv_aload_n hx hb dX5_init_22 rfl (lv_at hl 0 rfl) ?_
  refine lv_sipush (v := 808) hx hb dX5_init_23 (by decide) ?_
  refine newI0 (N := 808) X hP hD hS (by decide) (by decide) (by decide) (by decide) (by decide) dX5_init_26 (fun q2 H hP hD hS => ?_)
  refine putF_X5 X hin hP hD hS hn 3 (by decide) kw201 rfl rfl rfl rfl rfl dX5_init_28 (fun H locs hP hD hS hn => ?_)
  have hP : va_P D vwCl ((o, .inr (5, [.null, .ref q0, .ref q1, .ref q2, .null, .null, .null, .null, .int 0, .int 0, .int 0, .int 0])) :: _) H := hP
  have hD : va_D A ((o, .inr (5, [.null, .ref q0, .ref q1, .ref q2, .null, .null, .null, .null, .int 0, .int 0, .int 0, .int 0])) :: _) := hD
  have hn : ([.null, .ref q0, .ref q1, .ref q2, .null, .null, .null, .null, .int 0, .int 0, .int 0, .int 0] : List Value).length = 12 := rfl
  refine lv_aload_n hx hb dX5_init_31 rfl (lv_at hl 0 rfl) ?_
  refine lv_sipush (v := 808) hx hb dX5_init_32 (by decide) ?_
  refine newI0 (N := 808) X hP hD hS (by decide) (by decide) (by decide) (by decide) (by decide) dX5_init_35 (fun q3 H hP hD hS => ?_)
  refine putF_X5 X hin hP hD hS hn 4 (by decide) kw202 rfl rfl rfl rfl rfl dX5_init_37 (fun H locs hP hD hS hn => ?_)
  have hP : va_P D vwCl ((o, .inr (5, [.null, .ref q0, .ref q1, .ref q2, .ref q3, .null, .null, .null, .int 0, .int 0, .int 0, .int 0])) :: _) H := hP
  have hD : va_D A ((o, .inr (5, [.null, .ref q0, .ref q1, .ref q2, .ref q3, .null, .null, .null, .int 0, .int 0, .int 0, .int 0])) :: _) := hD
  have hn : ([.null, .ref q0, .ref q1, .ref q2, .ref q3, .null, .null, .null, .int 0, .int 0, .int 0, .int 0] : List Value).length = 12 := rfl
  refine lv_aload_n hx hb dX5_init_40 rfl (lv_at hl 0 rfl) ?_
  refine lv_sipush (v := 808) hx hb dX5_init_41 (by decide) ?_
  refine newI0 (N := 808) X hP hD hS (by decide) (by decide) (by decide) (by decide) (by decide) dX5_init_44 (fun q4 H hP hD hS => ?_)
  refine putF_X5 X hin hP hD hS hn 5 (by decide) kw203 rfl rfl rfl rfl rfl dX5_init_46 (fun H locs hP hD hS hn => ?_)
  have hP : va_P D vwCl ((o, .inr (5, [.null, .ref q0, .ref q1, .ref q2, .ref q3, .ref q4, .null, .null, .int 0, .int 0, .int 0, .int 0])) :: _) H := hP
  have hD : va_D A ((o, .inr (5, [.null, .ref q0, .ref q1, .ref q2, .ref q3, .ref q4, .null, .null, .int 0, .int 0, .int 0, .int 0])) :: _) := hD
  have hn : ([.null, .ref q0, .ref q1, .ref q2, .ref q3, .ref q4, .null, .null, .int 0, .int 0, .int 0, .int 0] : List Value).length = 12 := rfl
  refine lv_aload_n hx hb dX5_init_49 rfl (lv_at hl 0 rfl) ?_
  refine lv_sipush (v := 160) hx hb dX5_init_50 (by decide) ?_
  refine newI0 (N := 160) X hP hD hS (by decide) (by decide) (by decide) (by decide) (by decide) dX5_init_53 (fun q5 H hP hD hS => ?_)
  refine putF_X5 X hin hP hD hS hn 6 (by decide) kw204 rfl rfl rfl rfl rfl dX5_init_55 (fun H locs hP hD hS hn => ?_)
  have hP : va_P D vwCl ((o, .inr (5, [.null, .ref q0, .ref q1, .ref q2, .ref q3, .ref q4, .ref q5, .null, .int 0, .int 0, .int 0, .int 0])) :: _) H := hP
  have hD : va_D A ((o, .inr (5, [.null, .ref q0, .ref q1, .ref q2, .ref q3, .ref q4, .ref q5, .null, .int 0, .int 0, .int 0, .int 0])) :: _) := hD
  have hn : ([.null, .ref q0, .ref q1, .ref q2, .ref q3, .ref q4, .ref q5, .null, .int 0, .int 0, .int 0, .int 0] : List Value).length = 12 := rfl
  refine lv_aload_n hx hb dX5_init_58 rfl (lv_at hl 0 rfl) ?_
  refine lv_sipush (v := 400) hx hb dX5_init_59 (by decide) ?_
  refine newI0 (N := 400) X hP hD hS (by decide) (by decide) (by decide) (by decide) (by decide) dX5_init_62 (fun q6 H hP hD hS => ?_)
  refine putF_X5 X hin hP hD hS hn 7 (by decide) kw205 rfl rfl rfl rfl rfl dX5_init_64 (fun H locs hP hD hS hn => ?_)
  have hP : va_P D vwCl ((o, .inr (5, [.null, .ref q0, .ref q1, .ref q2, .ref q3, .ref q4, .ref q5, .ref q6, .int 0, .int 0, .int 0, .int 0])) :: _) H := hP
  have hD : va_D A ((o, .inr (5, [.null, .ref q0, .ref q1, .ref q2, .ref q3, .ref q4, .ref q5, .ref q6, .int 0, .int 0, .int 0, .int 0])) :: _) := hD
  have hn : ([.null, .ref q0, .ref q1, .ref q2, .ref q3, .ref q4, .ref q5, .ref q6, .int 0, .int 0, .int 0, .int 0] : List Value).length = 12 := rfl
  refine lv_aload_n hx hb dX5_init_67 rfl (lv_at hl 0 rfl) ?_
  refine lv_aload_n hx hb dX5_init_68 rfl (lv_at hl 1 rfl) ?_
  refine putF_X5 X hin hP hD hS hn 0 (by decide) kw197 rfl rfl rfl rfl rfl dX5_init_69 (fun H locs hP hD hS hn => ?_)
  have hP : va_P D vwCl ((o, .inr (5, [.ref r1, .ref q0, .ref q1, .ref q2, .ref q3, .ref q4, .ref q5, .ref q6, .int 0, .int 0, .int 0, .int 0])) :: _) H := hP
  have hD : va_D A ((o, .inr (5, [.ref r1, .ref q0, .ref q1, .ref q2, .ref q3, .ref q4, .ref q5, .ref q6, .int 0, .int 0, .int 0, .int 0])) :: _) := hD
  have hn : ([.ref r1, .ref q0, .ref q1, .ref q2, .ref q3, .ref q4, .ref q5, .ref q6, .int 0, .int 0, .int 0, .int 0] : List Value).length = 12 := rfl
  obtain ⟨u, h0, h1, h2, h3, h4, h5, h6⟩ : ∃ u : Nat → Nat, u 0 = q0 ∧ u 1 = q1 ∧ u 2 = q2 ∧ u 3 = q3 ∧ u 4 = q4 ∧ u 5 = q5 ∧ u 6 = q6 := ⟨fun k => [q0, q1, q2, q3, q4, q5, q6].getD k 0, rfl, rfl, rfl, rfl, rfl, rfl, rfl⟩
  rw [← h0, ← h1, ← h2, ← h3, ← h4, ← h5, ← h6] at hP hD
  exact ret_c X u hP hD hS dX5_init_72
abbrev rm_X0_init : Room := { frames := 1, cells := 5, slots := 96, locals := 12 }
set_option maxHeartbeats 16000000 in
set_option maxRecDepth 100000 in
theorem c_X0_init (l : Launch) (D : va_G) (cA : ClassId) (A : Nat → Prop) (o : Nat) (W0 : va_W) : Met l yX0_init [.code yX0_init cX0_init 1 none] rm_X0_init (va_Pc [.ref o] (Wd D cA A ((o, .inr (0, [.null, .null, .null, .null, .null, .int 0])) :: W0))) (QC D cA A (fun u => (o, .inr (0, [.ref (u 0), .ref (u 1), .ref (u 2), .ref (u 3), .ref (u 4), .int 0])) :: (u 4, .inl (cA, 0, .inl (fun _ => 0))) :: (u 3, .inl (cA, 24, .inl (fun _ => 0))) :: (u 2, .inl (cA, 24, .inl (fun _ => 0))) :: (u 1, .inl (cA, 24, .inl (fun _ => 0))) :: (u 0, .inl (cA, 24, .inl (fun _ => 0))) :: W0)) 5 96 A := by
  refine enter (by decide) (Nat.le_of_ble_eq_true rfl) ?_
  intro p e s m below meth c ls X hin hP hD hS hl
  obtain ⟨hx, hb, hr, hml, hown, hlk, hE, hK, hA⟩ := id X
  have hl : lv_has ls 1 [(0, .ref o)] := hl
  have hn : ([.null, .null, .null, .null, .null, .int 0] : List Value).length = 6 := rfl
  refine lv_aload_n hx hb dX0_init_0 rfl (lv_at hl 0 rfl) ?_
  refine obj_i X kw243 hl dX0_init_1 (by decide) (by decide) ?_
  refine lv_aload_n hx hb dX0_init_4 rfl (lv_at hl 0 rfl) ?_
  refine lv_bipush (v := 24) hx hb dX0_init_5 (by decide) ?_
  refine newI0 (N := 24) X hP hD hS (by decide) (by decide) (by decide) (by decide) (by decide) dX0_init_7 (fun q0 H hP hD hS => ?_)
  refine putF_X0 X hin hP hD hS hn 0 (by decide) kw244 rfl rfl rfl rfl rfl dX0_init_9 (fun H locs hP hD hS hn => ?_)
  have hP : va_P D vwCl ((o, .inr (0, [.ref q0, .null, .null, .null, .null, .int 0])) :: _) H := hP
  have hD : va_D A ((o, .inr (0, [.ref q0, .null, .null, .null, .null, .int 0])) :: _) := hD
  have hn : ([.ref q0, .null, .null, .null, .null, .int 0] : List Value).length = 6 := rfl
  refine lv_aload_n hx hb dX0_init_12 rfl (lv_at hl 0 rfl) ?_
  refine lv_bipush (v := 24) hx hb dX0_init_13 (by decide) ?_
  refine newI0 (N := 24) X hP hD hS (by decide) (by decide) (by decide) (by decide) (by decide) dX0_init_15 (fun q1 H hP hD hS => ?_)
  refine putF_X0 X hin hP hD hS hn 1 (by decide) kw245 rfl rfl rfl rfl rfl dX0_init_17 (fun H locs hP hD hS hn => ?_)
  have hP : va_P D vwCl ((o, .inr (0, [.ref q0, .ref q1, .null, .null, .null, .int 0])) :: _) H := hP
  have hD : va_D A ((o, .inr (0, [.ref q0, .ref q1, .null, .null, .null, .int 0])) :: _) := hD
  have hn : ([.ref q0, .ref q1, .null, .null, .null, .int 0] : List Value).length = 6 := rfl
  refine lv_aload_n hx hb dX0_init_20 rfl (lv_at hl 0 rfl) ?_
  refine lv_bipush (v := 24) hx hb dX0_init_21 (by decide) ?_
  refine newI0 (N := 24) X hP hD hS (by decide) (by decide) (by decide) (by decide) (by decide) dX0_init_23 (fun q2 H hP hD hS => ?_)
  refine putF_X0 X hin hP hD hS hn 2 (by decide) kw246 rfl rfl rfl rfl rfl dX0_init_25 (fun H locs hP hD hS hn => ?_)
  have hP : va_P D vwCl ((o, .inr (0, [.ref q0, .ref q1, .ref q2, .null, .null, .int 0])) :: _) H := hP
  have hD : va_D A ((o, .inr (0, [.ref q0, .ref q1, .ref q2, .null, .null, .int 0])) :: _) := hD
  have hn : ([.ref q0, .ref q1, .ref q2, .null, .null, .int 0] : List Value).length = 6 := rfl
  refine lv_aload_n hx hb dX0_init_28 rfl (lv_at hl 0 rfl) ?_
  refine lv_bipush (v := 24) hx hb dX0_init_29 (by decide) ?_
  refine newI0 (N := 24) X hP hD hS (by decide) (by decide) (by decide) (by decide) (by decide) dX0_init_31 (fun q3 H hP hD hS => ?_)
  refine putF_X0 X hin hP hD hS hn 3 (by decide) kw247 rfl rfl rfl rfl rfl dX0_init_33 (fun H locs hP hD hS hn => ?_)
  have hP : va_P D vwCl ((o, .inr (0, [.ref q0, .ref q1, .ref q2, .ref q3, .null, .int 0])) :: _) H := hP
  have hD : va_D A ((o, .inr (0, [.ref q0, .ref q1, .ref q2, .ref q3, .null, .int 0])) :: _) := hD
  have hn : ([.ref q0, .ref q1, .ref q2, .ref q3, .null, .int 0] : List Value).length = 6 := rfl
  refine lv_aload_n hx hb dX0_init_36 rfl (lv_at hl 0 rfl) ?_
  refine lv_iconst (v := 0) hx hb dX0_init_37 (by decide) ?_
  refine newI0 (N := 0) X hP hD hS (by decide) (by decide) (by decide) (by decide) (by decide) dX0_init_38 (fun q4 H hP hD hS => ?_)
  refine put_X0 X hP hD hS hn 4 (by decide) kw248 rfl rfl rfl rfl rfl dX0_init_40 (fun H locs hP hD hS hn => ?_)
  have hP : va_P D vwCl ((o, .inr (0, [.ref q0, .ref q1, .ref q2, .ref q3, .ref q4, .int 0])) :: _) H := hP
  have hD : va_D A ((o, .inr (0, [.ref q0, .ref q1, .ref q2, .ref q3, .ref q4, .int 0])) :: _) := hD
  have hn : ([.ref q0, .ref q1, .ref q2, .ref q3, .ref q4, .int 0] : List Value).length = 6 := rfl
  obtain ⟨u, h0, h1, h2, h3, h4⟩ : ∃ u : Nat → Nat, u 0 = q0 ∧ u 1 = q1 ∧ u 2 = q2 ∧ u 3 = q3 ∧ u 4 = q4 := ⟨fun k => [q0, q1, q2, q3, q4].getD k 0, rfl, rfl, rfl, rfl, rfl⟩
  rw [← h0, ← h1, ← h2, ← h3, ← h4] at hP hD
  exact ret_c X u hP hD hS dX0_init_43
abbrev rm_X7_init : Room := { frames := 1, cells := 4, slots := 748, locals := 12 }
set_option maxHeartbeats 16000000 in
set_option maxRecDepth 100000 in
theorem c_X7_init (l : Launch) (D : va_G) (cA : ClassId) (A : Nat → Prop) (o r1 r2 r3 r4 : Nat) (W0 : va_W) : Met l yX7_init [.code yX7_init cX7_init 5 none] rm_X7_init (va_Pc [.ref o, .ref r1, .ref r2, .ref r3, .ref r4] (Wd D cA A ((o, .inr (7, [.null, .null, .null, .null, .null, .null, .null, .null])) :: W0))) (QC D cA A (fun u => (o, .inr (7, [.ref r1, .ref r2, .ref r3, .ref r4, .ref (u 0), .ref (u 1), .ref (u 2), .ref (u 3)])) :: (u 3, .inl (cA, 187, .inl (fun _ => 0))) :: (u 2, .inl (cA, 187, .inl (fun _ => 0))) :: (u 1, .inl (cA, 187, .inl (fun _ => 0))) :: (u 0, .inl (cA, 187, .inl (fun _ => 0))) :: W0)) 4 748 A := by
  refine enter (by decide) (Nat.le_of_ble_eq_true rfl) ?_
  intro p e s m below meth c ls X hin hP hD hS hl
  obtain ⟨hx, hb, hr, hml, hown, hlk, hE, hK, hA⟩ := id X
  have hl : lv_has ls 5 [(0, .ref o), (1, .ref r1), (2, .ref r2), (3, .ref r3), (4, .ref r4)] := hl
  have hn : ([.null, .null, .null, .null, .null, .null, .null, .null] : List Value).length = 8 := rfl
  refine lv_aload_n hx hb dX7_init_0 rfl (lv_at hl 0 rfl) ?_
  refine obj_i X kw269 hl dX7_init_1 (by decide) (by decide) ?_
  refine lv_aload_n hx hb dX7_init_4 rfl (lv_at hl 0 rfl) ?_
  refine lv_sipush (v := 187) hx hb dX7_init_5 (by decide) ?_
  refine newI0 (N := 187) X hP hD hS (by decide) (by decide) (by decide) (by decide) (by decide) dX7_init_8 (fun q0 H hP hD hS => ?_)
  refine putF_X7 X hin hP hD hS hn 4 (by decide) kw274 rfl rfl rfl rfl rfl dX7_init_10 (fun H locs hP hD hS hn => ?_)
  have hP : va_P D vwCl ((o, .inr (7, [.null, .null, .null, .null, .ref q0, .null, .null, .null])) :: _) H := hP
  have hD : va_D A ((o, .inr (7, [.null, .null, .null, .null, .ref q0, .null, .null, .null])) :: _) := hD
  have hn : ([.null, .null, .null, .null, .ref q0, .null, .null, .null] : List Value).length = 8 := rfl
  refine lv_aload_n hx hb dX7_init_13 rfl (lv_at hl 0 rfl) ?_
  refine lv_sipush (v := 187) hx hb dX7_init_14 (by decide) ?_
  refine newI0 (N := 187) X hP hD hS (by decide) (by decide) (by decide) (by decide) (by decide) dX7_init_17 (fun q1 H hP hD hS => ?_)
  refine putF_X7 X hin hP hD hS hn 5 (by decide) kw275 rfl rfl rfl rfl rfl dX7_init_19 (fun H locs hP hD hS hn => ?_)
  have hP : va_P D vwCl ((o, .inr (7, [.null, .null, .null, .null, .ref q0, .ref q1, .null, .null])) :: _) H := hP
  have hD : va_D A ((o, .inr (7, [.null, .null, .null, .null, .ref q0, .ref q1, .null, .null])) :: _) := hD
  have hn : ([.null, .null, .null, .null, .ref q0, .ref q1, .null, .null] : List Value).length = 8 := rfl
  refine lv_aload_n hx hb dX7_init_22 rfl (lv_at hl 0 rfl) ?_
  refine lv_sipush (v := 187) hx hb dX7_init_23 (by decide) ?_
  refine newI0 (N := 187) X hP hD hS (by decide) (by decide) (by decide) (by decide) (by decide) dX7_init_26 (fun q2 H hP hD hS => ?_)
  refine putF_X7 X hin hP hD hS hn 6 (by decide) kw276 rfl rfl rfl rfl rfl dX7_init_28 (fun H locs hP hD hS hn => ?_)
  have hP : va_P D vwCl ((o, .inr (7, [.null, .null, .null, .null, .ref q0, .ref q1, .ref q2, .null])) :: _) H := hP
  have hD : va_D A ((o, .inr (7, [.null, .null, .null, .null, .ref q0, .ref q1, .ref q2, .null])) :: _) := hD
  have hn : ([.null, .null, .null, .null, .ref q0, .ref q1, .ref q2, .null] : List Value).length = 8 := rfl
  refine lv_aload_n hx hb dX7_init_31 rfl (lv_at hl 0 rfl) ?_
  refine lv_sipush (v := 187) hx hb dX7_init_32 (by decide) ?_
  refine newI0 (N := 187) X hP hD hS (by decide) (by decide) (by decide) (by decide) (by decide) dX7_init_35 (fun q3 H hP hD hS => ?_)
  refine putF_X7 X hin hP hD hS hn 7 (by decide) kw277 rfl rfl rfl rfl rfl dX7_init_37 (fun H locs hP hD hS hn => ?_)
  have hP : va_P D vwCl ((o, .inr (7, [.null, .null, .null, .null, .ref q0, .ref q1, .ref q2, .ref q3])) :: _) H := hP
  have hD : va_D A ((o, .inr (7, [.null, .null, .null, .null, .ref q0, .ref q1, .ref q2, .ref q3])) :: _) := hD
  have hn : ([.null, .null, .null, .null, .ref q0, .ref q1, .ref q2, .ref q3] : List Value).length = 8 := rfl
  refine lv_aload_n hx hb dX7_init_40 rfl (lv_at hl 0 rfl) ?_
  refine lv_aload_n hx hb dX7_init_41 rfl (lv_at hl 1 rfl) ?_
  refine putF_X7 X hin hP hD hS hn 0 (by decide) kw270 rfl rfl rfl rfl rfl dX7_init_42 (fun H locs hP hD hS hn => ?_)
  have hP : va_P D vwCl ((o, .inr (7, [.ref r1, .null, .null, .null, .ref q0, .ref q1, .ref q2, .ref q3])) :: _) H := hP
  have hD : va_D A ((o, .inr (7, [.ref r1, .null, .null, .null, .ref q0, .ref q1, .ref q2, .ref q3])) :: _) := hD
  have hn : ([.ref r1, .null, .null, .null, .ref q0, .ref q1, .ref q2, .ref q3] : List Value).length = 8 := rfl
  refine lv_aload_n hx hb dX7_init_45 rfl (lv_at hl 0 rfl) ?_
  refine lv_aload_n hx hb dX7_init_46 rfl (lv_at hl 2 rfl) ?_
  refine putF_X7 X hin hP hD hS hn 1 (by decide) kw271 rfl rfl rfl rfl rfl dX7_init_47 (fun H locs hP hD hS hn => ?_)
  have hP : va_P D vwCl ((o, .inr (7, [.ref r1, .ref r2, .null, .null, .ref q0, .ref q1, .ref q2, .ref q3])) :: _) H := hP
  have hD : va_D A ((o, .inr (7, [.ref r1, .ref r2, .null, .null, .ref q0, .ref q1, .ref q2, .ref q3])) :: _) := hD
  have hn : ([.ref r1, .ref r2, .null, .null, .ref q0, .ref q1, .ref q2, .ref q3] : List Value).length = 8 := rfl
  refine lv_aload_n hx hb dX7_init_50 rfl (lv_at hl 0 rfl) ?_
  refine lv_aload_n hx hb dX7_init_51 rfl (lv_at hl 3 rfl) ?_
  refine putF_X7 X hin hP hD hS hn 2 (by decide) kw272 rfl rfl rfl rfl rfl dX7_init_52 (fun H locs hP hD hS hn => ?_)
  have hP : va_P D vwCl ((o, .inr (7, [.ref r1, .ref r2, .ref r3, .null, .ref q0, .ref q1, .ref q2, .ref q3])) :: _) H := hP
  have hD : va_D A ((o, .inr (7, [.ref r1, .ref r2, .ref r3, .null, .ref q0, .ref q1, .ref q2, .ref q3])) :: _) := hD
  have hn : ([.ref r1, .ref r2, .ref r3, .null, .ref q0, .ref q1, .ref q2, .ref q3] : List Value).length = 8 := rfl
  refine lv_aload_n hx hb dX7_init_55 rfl (lv_at hl 0 rfl) ?_
  refine lv_aload hx hb dX7_init_56 (lv_at hl 4 rfl) ?_
  refine putF_X7 X hin hP hD hS hn 3 (by decide) kw273 rfl rfl rfl rfl rfl dX7_init_58 (fun H locs hP hD hS hn => ?_)
  have hP : va_P D vwCl ((o, .inr (7, [.ref r1, .ref r2, .ref r3, .ref r4, .ref q0, .ref q1, .ref q2, .ref q3])) :: _) H := hP
  have hD : va_D A ((o, .inr (7, [.ref r1, .ref r2, .ref r3, .ref r4, .ref q0, .ref q1, .ref q2, .ref q3])) :: _) := hD
  have hn : ([.ref r1, .ref r2, .ref r3, .ref r4, .ref q0, .ref q1, .ref q2, .ref q3] : List Value).length = 8 := rfl
  obtain ⟨u, h0, h1, h2, h3⟩ : ∃ u : Nat → Nat, u 0 = q0 ∧ u 1 = q1 ∧ u 2 = q2 ∧ u 3 = q3 := ⟨fun k => [q0, q1, q2, q3].getD k 0, rfl, rfl, rfl, rfl⟩
  rw [← h0, ← h1, ← h2, ← h3] at hP hD
  exact ret_c X u hP hD hS dX7_init_61
