/-! contracts of methods that may make the row of what was told -/
abbrev QIa (D : va_G) (cA : ClassId) (A : Nat → Prop) (w : Wf) (r : Int32) (σ : St) : Array Value → State → Outcome → State → Prop :=
  va_Qi (fun r' (u : St × Nat) => r' = r ∧ u.1 = σ) (fun u t => Wd D cA A (w u.2 u.1) t) A
abbrev QVa (D : va_G) (cA : ClassId) (A : Nat → Prop) (w : Wf) (σ : St) : Array Value → State → Outcome → State → Prop :=
  va_Qv (fun (u : St × Nat) => u.1 = σ) (fun u t => Wd D cA A (w u.2 u.1) t) A
abbrev MIa (l : Launch) (D : va_G) (cA : ClassId) (A : Nat → Prop) (w : Wf) (y : MethodName) (b : ByteArray) (nL : Nat) (rt : Option FieldType) (rm : Room) (av : List Value) (ta : Nat) (σ : St) (r : Int32) (σ' : St) (mc ms : Nat) : Prop :=
  Met l y [.code y b nL rt] rm (va_Pc av (Wd D cA A (w ta σ))) (QIa D cA A w r σ') mc ms A
abbrev MVa (l : Launch) (D : va_G) (cA : ClassId) (A : Nat → Prop) (w : Wf) (y : MethodName) (b : ByteArray) (nL : Nat) (rt : Option FieldType) (rm : Room) (av : List Value) (ta : Nat) (σ : St) (σ' : St) (mc ms : Nat) : Prop :=
  Met l y [.code y b nL rt] rm (va_Pc av (Wd D cA A (w ta σ))) (QVa D cA A w σ') mc ms A
section AL
variable {p : Program} {l : Launch} {e : Env} {R : Room} {s : State} {m : MethodId} {args : Array Value} {below : List Frame} {meth : Method} {c : Code} {H : Heap} {locs : List Loc} {cells slots : Nat} {Q : State → Prop}
variable {D : va_G} {cA : ClassId} {A : Nat → Prop} {w : Wf} {own : String} {cc : ByteArray} {nL pc index : Nat} {rt : Option FieldType} {ls : Array Slot}
variable {y : MethodName} {b : ByteArray} {nC n mc ms : Nat} {rc : Option FieldType} {rm : Room} {ta : Nat} {σ σ' : St} {r : Int32} {o : Nat} {As rest st0 : List Value} {C : String}
theorem run_ia {av : Array Value} (hr : va_Run p l e R s m args below meth c H locs cells slots mc ms (F0 m pc ls st0) rest (QIa D cA A w r σ' av) A) (hS : va_S A s.heap H locs)
    (kk : ∀ (ta : Nat) (H1 : Heap) (locs1 : List Loc), va_P D vwCl (w ta σ') H1 → va_D A (w ta σ') → va_S A s.heap H1 locs1 → W p l e R s m args below meth c H1 locs1 (cells + mc) (slots + ms) Q (F0 m (pc + 3) ls (.int r :: rest))) :
    W p l e R s m args below meth c H locs cells slots Q (F0 m pc ls st0) := by
  refine va_calli hr hS (fun q _ h => h) (fun q h => h) (fun r1 u t H1 locs1 ht hvm hp hB hz hk hS1 => ?_)
  obtain ⟨rfl, hu⟩ := hp
  obtain ⟨σ1, ta'⟩ := u
  cases hu
  obtain ⟨-, hP, -, hD, -⟩ := hB
  rw [ht] at hP
  exact kk ta' H1 locs1 hP hD hS1
theorem run_va {av : Array Value} (hr : va_Run p l e R s m args below meth c H locs cells slots mc ms (F0 m pc ls st0) rest (QVa D cA A w σ' av) A) (hS : va_S A s.heap H locs)
    (kk : ∀ (ta : Nat) (H1 : Heap) (locs1 : List Loc), va_P D vwCl (w ta σ') H1 → va_D A (w ta σ') → va_S A s.heap H1 locs1 → W p l e R s m args below meth c H1 locs1 (cells + mc) (slots + ms) Q (F0 m (pc + 3) ls rest)) :
    W p l e R s m args below meth c H locs cells slots Q (F0 m pc ls st0) := by
  refine va_callv hr hS (fun q _ h => h) (fun q h => h) (fun u t H1 locs1 ht hvm hp hB hz hk hS1 => ?_)
  obtain ⟨σ1, ta'⟩ := u
  cases hp
  obtain ⟨-, hP, -, hD, -⟩ := hB
  rw [ht] at hP
  exact kk ta' H1 locs1 hP hD hS1
theorem callVN_ia {host : String} (X : Fx p s m meth c D cA A own cc nL rt) (cv : Cv y C b nC rc n) (hl : Cond.methodLinkNest own index y host ∈ lw_tbl) (hM : MIa l D cA A w y b nC rc rm (.ref o :: As) ta σ r σ' mc ms)
    (hR : rm.frames + 1 ≤ R.frames ∧ 8 + (nC + 11) + rm.locals ≤ R.locals) (hm : rm.cells = mc ∧ rm.slots = ms) (hP : va_P D vwCl (w ta σ) H) (hD : va_D A (w ta σ)) (hS : va_S A s.heap H locs) {q0 ci : Nat} {fs : List Value} {qc : vw_C} (he : (w ta σ)[q0]? = some (o, .inr (ci, fs))) (hci : vwCl[ci]? = some qc) (hq : qc.1 = C)
    (hn : As.length = n) {lv : List (Nat × Value)} (hlv : lv_has ls nL lv) (hst : st0 = As.reverse ++ .ref o :: rest) (hW : (rest.map fun v => v.category).sum ≤ 8) (hdg : decode cc pc = .ok (.invokevirtual index, 3)) (hf : cells + mc ≤ R.cells ∧ slots + ms ≤ R.slots)
    (kk : ∀ (ta : Nat) (H1 : Heap) (locs1 : List Loc), va_P D vwCl (w ta σ') H1 → va_D A (w ta σ') → va_S A s.heap H1 locs1 → W p l e R s m args below meth c H1 locs1 (cells + mc) (slots + ms) Q (F0 m (pc + 3) ls (.int r :: rest))) :
    W p l e R s m args below meth c H locs cells slots Q (F0 m pc ls st0) := by
  have hpre := pre_of X (w ta σ) hP hD hS (.ref o :: As)
  obtain ⟨c1, c2, c3, c4, c5, c6⟩ := cv
  have cb := cn_of X c1 c2 c5 c6 hR hm hl (args := args)
  obtain ⟨hx, hb, -, hml, hown, -, hE, hK, -⟩ := X
  subst hq
  exact run_ia (va_runVN (g := F0 m pc ls st0) (rest := rest) ⟨hx, hb, hml, hown, hE.use args⟩ hM ⟨cb, hE.at args c3, hE.at args c4⟩ ⟨hpre.1, va_recv hK hP hci he, hpre.2⟩ rfl hn hlv.1 hst (lv_room hW) hdg hf) hS kk
theorem callVN_va {host : String} (X : Fx p s m meth c D cA A own cc nL rt) (cv : Cv y C b nC rc n) (hl : Cond.methodLinkNest own index y host ∈ lw_tbl) (hM : MVa l D cA A w y b nC rc rm (.ref o :: As) ta σ σ' mc ms)
    (hR : rm.frames + 1 ≤ R.frames ∧ 8 + (nC + 11) + rm.locals ≤ R.locals) (hm : rm.cells = mc ∧ rm.slots = ms) (hP : va_P D vwCl (w ta σ) H) (hD : va_D A (w ta σ)) (hS : va_S A s.heap H locs) {q0 ci : Nat} {fs : List Value} {qc : vw_C} (he : (w ta σ)[q0]? = some (o, .inr (ci, fs))) (hci : vwCl[ci]? = some qc) (hq : qc.1 = C)
    (hn : As.length = n) {lv : List (Nat × Value)} (hlv : lv_has ls nL lv) (hst : st0 = As.reverse ++ .ref o :: rest) (hW : (rest.map fun v => v.category).sum ≤ 8) (hdg : decode cc pc = .ok (.invokevirtual index, 3)) (hf : cells + mc ≤ R.cells ∧ slots + ms ≤ R.slots)
    (kk : ∀ (ta : Nat) (H1 : Heap) (locs1 : List Loc), va_P D vwCl (w ta σ') H1 → va_D A (w ta σ') → va_S A s.heap H1 locs1 → W p l e R s m args below meth c H1 locs1 (cells + mc) (slots + ms) Q (F0 m (pc + 3) ls rest)) :
    W p l e R s m args below meth c H locs cells slots Q (F0 m pc ls st0) := by
  have hpre := pre_of X (w ta σ) hP hD hS (.ref o :: As)
  obtain ⟨c1, c2, c3, c4, c5, c6⟩ := cv
  have cb := cn_of X c1 c2 c5 c6 hR hm hl (args := args)
  obtain ⟨hx, hb, -, hml, hown, -, hE, hK, -⟩ := X
  subst hq
  exact run_va (va_runVN (g := F0 m pc ls st0) (rest := rest) ⟨hx, hb, hml, hown, hE.use args⟩ hM ⟨cb, hE.at args c3, hE.at args c4⟩ ⟨hpre.1, va_recv hK hP hci he, hpre.2⟩ rfl hn hlv.1 hst (lv_room hW) hdg hf) hS kk
theorem ret_ia (X : Fx p s m meth c D cA A own cc nL (some .int)) (hP : va_P D vwCl (w ta σ) H) (hD : va_D A (w ta σ)) (hS : va_S A s.heap H locs) (hdg : decode cc pc = .ok (.ireturn, 1)) :
    W p l e R s m args below meth c H locs cells slots (MQ below (QIa D cA A w r σ) args s cells slots A) (F0 m pc ls [.int r]) := by
  obtain ⟨hx, hb, hr, hml, hown, hlk, hE, hK, hA⟩ := X
  exact W.iret hx hb hr (fun t ht hW => ⟨⟨r, (σ, ta), rfl, ⟨rfl, rfl⟩, hE.warm hW, by rw [ht]; exact hP, va_K.moved hW.alike hK, hD, fun q hq => hA q (Nat.le_trans hS.1 (by rw [ht] at hq; exact hq))⟩, hS.F ht⟩) hS.2.2 hdg hlk
theorem ret_za (X : Fx p s m meth c D cA A own cc nL (some .boolean)) (hz : isB r = true) (hP : va_P D vwCl (w ta σ) H) (hD : va_D A (w ta σ)) (hS : va_S A s.heap H locs) (hdg : decode cc pc = .ok (.ireturn, 1)) :
    W p l e R s m args below meth c H locs cells slots (MQ below (QIa D cA A w r σ) args s cells slots A) (F0 m pc ls [.int r]) := by
  obtain ⟨hx, hb, hr, hml, hown, hlk, hE, hK, hA⟩ := X
  exact W.zret hx hb hr (isB_n hz) (fun t ht hW => ⟨⟨r, (σ, ta), rfl, ⟨rfl, rfl⟩, hE.warm hW, by rw [ht]; exact hP, va_K.moved hW.alike hK, hD, fun q hq => hA q (Nat.le_trans hS.1 (by rw [ht] at hq; exact hq))⟩, hS.F ht⟩) hS.2.2 hdg hlk
theorem ret_va (X : Fx p s m meth c D cA A own cc nL none) (hP : va_P D vwCl (w ta σ) H) (hD : va_D A (w ta σ)) (hS : va_S A s.heap H locs) (hdg : decode cc pc = .ok (.return_, 1)) :
    W p l e R s m args below meth c H locs cells slots (MQ below (QVa D cA A w σ) args s cells slots A) (F0 m pc ls []) := by
  obtain ⟨hx, hb, hr, hml, hown, hlk, hE, hK, hA⟩ := X
  exact W.vret hx hb hr (fun t ht hW => ⟨⟨(σ, ta), rfl, rfl, hE.warm hW, by rw [ht]; exact hP, va_K.moved hW.alike hK, hD, fun q hq => hA q (Nat.le_trans hS.1 (by rw [ht] at hq; exact hq))⟩, hS.F ht⟩) hS.2.2 hdg hlk
/-- a new row of ints -/
theorem newI (X : Fx p s m meth c D cA A own cc nL rt) {ws : va_W} (hP : va_P D vwCl ws H) (hD : va_D A ws) (hS : va_S A s.heap H locs) {k : Int32} {N : Nat} (hk : ¬ k < 0) (hN : k.toNatClampNeg = N) (hB : N * componentBytes .int ≤ 536870912) (hc : cells + 1 ≤ R.cells) (hs : slots + N ≤ R.slots) (hdg : decode cc pc = .ok (.newarray .int, 2))
    (kk : ∀ (q : Nat) (H1 : Heap), va_P D vwCl (ws ++ [(q, .inl (cA, N, .inl (fun _ => 0)))]) H1 → va_D A (ws ++ [(q, .inl (cA, N, .inl (fun _ => 0)))]) → va_S A s.heap H1 locs → W p l e R s m args below meth c H1 locs (cells + 1) (slots + N) Q (F0 m (pc + 2) ls (.ref q :: rest))) :
    W p l e R s m args below meth c H locs cells slots Q (F0 m pc ls (.int k :: rest)) := by
  obtain ⟨hx, hb, -, hml, hown, -, hE, hK, hA⟩ := X
  refine va_newa (atype := .int) (a0 := (N, .inl (fun _ => 0))) (ty := .int) hx hb (hE.at args kw53) rfl hK hP hD hS hA (fun _ => rfl) hk hN hB hc hs hdg (fun q cA2 H1 hK2 hP hD hS => ?_)
  have h1 : s.vm.findClass ("[" ++ FieldType.int.toString) = some cA := (hK.2 0 _ rfl).2
  have h2 : s.vm.findClass ("[" ++ FieldType.int.toString) = some cA2 := (hK2.2 1 _ rfl).2
  cases Option.some.inj (h1.symm.trans h2)
  exact kk q H1 hP hD hS
end AL
