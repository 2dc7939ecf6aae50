/-! the words of the tables, at every state of a run -/
def okW (w : Cond) : Bool := match w with
  | .fieldLinkNest _ _ _ _ _ _ => true
  | .methodLinkNest _ _ _ _ => true
  | .arrayClass _ => true
  | w => w.onTables && w.keeps
def onW (w : Cond) : Bool := match w with
  | .arrayClass _ => true
  | w => w.onTables
/-- the words that stay -/
def lw_g : List Cond := lw_tbl.filter fun w => okW w && onW w
theorem toG {w : Cond} (h : w ∈ lw_tbl) (ho : (okW w && onW w) = true) : w ∈ lw_g := List.mem_filter.mpr ⟨h, ho⟩
theorem gW {w : Cond} (h : w ∈ lw_g) : okW w = true ∧ onW w = true := by
  have h1 := (List.mem_filter.mp h).2
  rwa [Bool.and_eq_true] at h1
def En (U : State) : Prop := ∀ w ∈ lw_g, va_Nw w U
theorem En.warm {s U : State} (h : En s) (hW : s.WarmedH U.vm) : En U := by
  intro w hw
  have h3 := (gW hw).1
  have h2 := h w hw
  cases w <;> first | exact va_Nw.warmF hW h2 | exact va_Nw.warmM hW h2 | exact word_at hW (Or.inr ⟨_, rfl⟩) h2 | exact word_at hW (Or.inl (by exact h3)) h2
theorem En.use {s : State} (h : En s) (args : Array Value) : ∀ w ∈ lw_g, w.before args s = true := by
  intro w hw
  have h3 := (gW hw).2
  have h2 := h w hw
  cases w <;> first | exact word_at (State.WarmedH.refl s) (Or.inr ⟨_, rfl⟩) h2 | exact va_Nw.use (by exact h3) h2
theorem En.at {s : State} (h : En s) (args : Array Value) {w : Cond} (hw : w ∈ lw_tbl) (ho : (okW w && onW w) = true := by rfl) : w.before args s = true := h.use args w (toG hw ho)
theorem En.of {s : State} {args : Array Value} (h : ∀ w ∈ lw_tbl, w.before args s = true) : En s := by
  intro w hw
  have h3 := (gW hw).2
  have h2 := h w (List.mem_filter.mp hw).1
  cases w <;> first | exact word_at (State.WarmedH.refl s) (Or.inr ⟨_, rfl⟩) h2 | exact va_Nw.of (by exact h3) h2
theorem En.vm {s U : State} (h : En s) (hv : s.vm = U.vm) : En U := h.warm (hv ▸ State.WarmedH.refl s)
theorem inG0 : ∀ w ∈ wsX00, w ∈ lw_g := fun w h => toG (inX0 w h) (List.all_eq_true.mp (show (wsX00.all fun w => okW w && onW w) = true by decide +kernel) w h)
theorem inG1 : ∀ w ∈ wsX10, w ∈ lw_g := fun w h => toG (inX1 w h) (List.all_eq_true.mp (show (wsX10.all fun w => okW w && onW w) = true by decide +kernel) w h)
theorem inG2 : ∀ w ∈ wsX20, w ∈ lw_g := fun w h => toG (inX2 w h) (List.all_eq_true.mp (show (wsX20.all fun w => okW w && onW w) = true by decide +kernel) w h)
theorem inG3 : ∀ w ∈ wsX30, w ∈ lw_g := fun w h => toG (inX3 w h) (List.all_eq_true.mp (show (wsX30.all fun w => okW w && onW w) = true by decide +kernel) w h)
theorem inG4 : ∀ w ∈ wsX40, w ∈ lw_g := fun w h => toG (inX4 w h) (List.all_eq_true.mp (show (wsX40.all fun w => okW w && onW w) = true by decide +kernel) w h)
theorem inG5 : ∀ w ∈ wsX50, w ∈ lw_g := fun w h => toG (inX5 w h) (List.all_eq_true.mp (show (wsX50.all fun w => okW w && onW w) = true by decide +kernel) w h)
theorem inG6 : ∀ w ∈ wsX60, w ∈ lw_g := fun w h => toG (inX6 w h) (List.all_eq_true.mp (show (wsX60.all fun w => okW w && onW w) = true by decide +kernel) w h)
theorem inG7 : ∀ w ∈ wsX70, w ∈ lw_g := fun w h => toG (inX7 w h) (List.all_eq_true.mp (show (wsX70.all fun w => okW w && onW w) = true by decide +kernel) w h)
theorem inG8 : ∀ w ∈ wsX80, w ∈ lw_g := fun w h => toG (inX8 w h) (List.all_eq_true.mp (show (wsX80.all fun w => okW w && onW w) = true by decide +kernel) w h)
theorem inG9 : ∀ w ∈ wsX90, w ∈ lw_g := fun w h => toG (inX9 w h) (List.all_eq_true.mp (show (wsX90.all fun w => okW w && onW w) = true by decide +kernel) w h)
/-! a state: the numbers and the rows -/
abbrev St : Type := (Nat → Int32) × (Nat → Nat → Int32)
def gF (σ : St) (k : Nat) : Int32 := σ.1 k
def gA (σ : St) (k : Nat) : Nat → Int32 := σ.2 k
def sF (σ : St) (k : Nat) (v : Int32) : St := (va_up σ.1 k v, σ.2)
def sA (σ : St) (k : Nat) (f : Nat → Int32) : St := (σ.1, va_up σ.2 k f)
abbrev Rs : Type := Option (Int32 × St)
def bd {α β : Type} (e : α) (k : α → β) : β := k e
theorem bd_e {α : Type} {e : α} {k : α → Rs} {y : Int32 × St} (h : bd e k = some y) : ∃ x, x = e ∧ k x = some y := ⟨e, rfl, h⟩
def bo (x : Rs) (k : Int32 → St → Rs) : Rs := match x with
  | some q => k q.1 q.2
  | none => none
theorem bo_e {x : Rs} {k : Int32 → St → Rs} {y : Int32 × St} (h : bo x k = some y) : ∃ r σ, x = some (r, σ) ∧ k r σ = some y := by
  cases x with
  | none => cases h
  | some q => exact ⟨q.1, q.2, rfl, h⟩
def ck (b : Bool) (r : Rs) : Rs := if b = true then r else none
theorem ck_e {b : Bool} {r : Rs} {y : Int32 × St} (h : ck b r = some y) : b = true ∧ r = some y := by
  unfold ck at h
  split at h
  · next hb => exact ⟨hb, h⟩
  · cases h
theorem it_t {c : Prop} {d : Decidable c} {a b : Rs} {y : Int32 × St} (hc : c) (h : @ite Rs c d a b = some y) : a = some y := by rwa [if_pos hc] at h
theorem it_f {c : Prop} {d : Decidable c} {a b : Rs} {y : Int32 × St} (hc : ¬ c) (h : @ite Rs c d a b = some y) : b = some y := by rwa [if_neg hc] at h
def inb (i : Int32) (n : Nat) : Bool := decide (0 ≤ i) && decide (i.toNatClampNeg < n)
theorem inb_in {i : Int32} {n : Nat} (h : inb i n = true) : vp_in i n := by
  simp only [inb, Bool.and_eq_true, decide_eq_true_eq] at h
  intro q
  rcases q with q | q
  · exact absurd h.1 (Int32.not_le.mpr q)
  · omega
def isB (v : Int32) : Bool := v == 0 || v == 1
theorem isB_n {v : Int32} (h : isB v = true) : narrow .boolean (.int v) = .int v := by
  simp only [isB, Bool.or_eq_true, beq_iff_eq] at h
  rcases h with rfl | rfl <;> rfl
theorem isB_f {v : Int32} (h : isB v = true) : fits .boolean (.int v) = true := by
  simp only [isB, Bool.or_eq_true, beq_iff_eq] at h
  rcases h with rfl | rfl <;> rfl
/-- what a row answers, and what it becomes, where every index is looked at first -/
def rd (n : Nat) (f : Nat → Int32) (i : Int32) : Int32 := if inb i n = true then f i.toNatClampNeg else -1
def wr (n : Nat) (f : Nat → Int32) (i v : Int32) : Nat → Int32 := if inb i n = true then upd f i.toNatClampNeg v else f
/-! a world, and the contracts over it -/
abbrev Wf : Type := Nat → St → va_W
def Wd (D : va_G) (cA : ClassId) (A : Nat → Prop) (w : va_W) (U : State) : Prop :=
  En U ∧ va_P D vwCl w U.heap ∧ va_K D vwCl [(cA, .int)] U ∧ va_D A w ∧ ∀ q : Nat, U.heap.size ≤ q → A q
theorem Wd.calling {D : va_G} {cA : ClassId} {A : Nat → Prop} {w : va_W} (av : List Value) : FrameBlind (va_Pc av (Wd D cA A w)) := by
  intro a U g mk h
  obtain ⟨h0, h1, h2, h3, h4, h5⟩ := h
  exact ⟨h0, h1.vm rfl, h2, va_K.moved (u := U) (U := U.calling g mk a) (Vm.Alike.refl U.vm) h3, h4, h5⟩
abbrev QI (D : va_G) (cA : ClassId) (A : Nat → Prop) (w : Wf) (r : Int32) (σ : St) (ta : Nat) : Array Value → State → Outcome → State → Prop :=
  va_Qi (fun r' (u : St × Nat) => r' = r ∧ u = (σ, ta)) (fun u t => Wd D cA A (w u.2 u.1) t) A
abbrev QV (D : va_G) (cA : ClassId) (A : Nat → Prop) (w : Wf) (σ : St) (ta : Nat) : Array Value → State → Outcome → State → Prop :=
  va_Qv (fun (u : St × Nat) => u = (σ, ta)) (fun u t => Wd D cA A (w u.2 u.1) t) A
abbrev MI (l : Launch) (D : va_G) (cA : ClassId) (A : Nat → Prop) (w : Wf) (y : MethodName) (b : ByteArray) (nL : Nat) (rt : Option FieldType) (rm : Room) (av : List Value) (ta : Nat) (σ : St) (r : Int32) (σ' : St) (mc ms : Nat) : Prop :=
  Met l y [.code y b nL rt] rm (va_Pc av (Wd D cA A (w ta σ))) (QI D cA A w r σ' ta) mc ms A
abbrev MV (l : Launch) (D : va_G) (cA : ClassId) (A : Nat → Prop) (w : Wf) (y : MethodName) (b : ByteArray) (nL : Nat) (rt : Option FieldType) (rm : Room) (av : List Value) (ta : Nat) (σ : St) (σ' : St) (mc ms : Nat) : Prop :=
  Met l y [.code y b nL rt] rm (va_Pc av (Wd D cA A (w ta σ))) (QV D cA A w σ' ta) mc ms A
/-- what is fixed in a method's body -/
def Fx (p : Program) (s : State) (m : MethodId) (meth : Method) (c : Code) (D : va_G) (cA : ClassId) (A : Nat → Prop) (own : String) (b : ByteArray) (nL : Nat) (rt : Option FieldType) : Prop :=
  p.tables.exec = Jvm.exec ∧ c.code = b ∧ meth.sig.returnType = rt ∧ c.maxLocals = nL ∧ s.vm.findClass own = some m.cls ∧ meth.locks = false ∧ En s ∧ va_K D vwCl [(cA, .int)] s ∧ (∀ q : Nat, s.heap.size ≤ q → A q)
section FR
variable {l : Launch} {D : va_G} {cA : ClassId} {A : Nat → Prop}
theorem enter {y : MethodName} {b : ByteArray} {nL : Nat} {rt : Option FieldType} {rm : Room} {av : List Value} {w : va_W} {Qc : Array Value → State → Outcome → State → Prop} {mc ms : Nat}
    (hy : plainName y.cls = true) (hn : (lg_sl av).length ≤ nL)
    (body : ∀ (p : Program) (e : Env) (s : State) (m : MethodId) (below : List Frame) (meth : Method) (c : Code) (ls : Array Slot), Fx p s m meth c D cA A y.cls b nL rt →
      meth.name = y.name → va_P D vwCl w s.heap → va_D A w → va_S A s.heap s.heap [] → lv_has ls nL (lv_args 0 av) → W p l e rm s m av.toArray below meth c s.heap [] 0 0 (MQ below Qc av.toArray s mc ms A) (F0 m 0 ls [])) :
    Met l y [.code y b nL rt] rm (va_Pc av (Wd D cA A w)) Qc mc ms A := by
  refine Met.ofW (cc := b) (maxL := nL) (ret := rt) hy rfl ?_
  intro p e s m args below meth c s₁ B hml hv
  obtain ⟨rfl, hE, hP, hK, hD, hA⟩ := hv
  have hl := lv_entry av (n := nL) hn
  rw [lg_entry_eq]
  exact body p e s m below meth c _ ⟨B.exec, B.bytes, B.returns, hml, findClass_of_methodNamed B.named, B.notSynchronized, hE, hK, hA⟩ (name_of_methodNamed B.named B.method).1 hP hD va_S.rf hl
end FR
/-! calls -/
def Cv (y : MethodName) (C : String) (b : ByteArray) (nL : Nat) (rt : Option FieldType) (n : Nat) : Prop :=
  Cond.code y b nL rt ∈ lw_tbl ∧ Cond.initialized y.cls ∈ lw_tbl ∧ Cond.instanceMethod y ∈ lw_tbl ∧ Cond.selects C y y ∈ lw_tbl ∧ (y.cls ≠ "java/lang/invoke/MethodHandle" ∧ y.cls ≠ "java/lang/invoke/VarHandle") ∧ (parseMethodDescriptor y.desc).map (fun d => d.parameters.length) = some n
def Cs (y : MethodName) (b : ByteArray) (nL : Nat) (rt : Option FieldType) (n : Nat) : Prop :=
  Cond.code y b nL rt ∈ lw_tbl ∧ Cond.initialized y.cls ∈ lw_tbl ∧ Cond.static y ∈ lw_tbl ∧ (y.cls ≠ "java/lang/invoke/MethodHandle" ∧ y.cls ≠ "java/lang/invoke/VarHandle") ∧ (parseMethodDescriptor y.desc).map (fun d => d.parameters.length) = some n
theorem len_of {y : MethodName} {n : Nat} (h : (parseMethodDescriptor y.desc).map (fun d => d.parameters.length) = some n) : ∀ sig, parseMethodDescriptor y.desc = some sig → n = sig.parameters.length := by
  intro sig hs
  rw [hs] at h
  exact (Option.some.inj h).symm
section CL
variable {p : Program} {l : Launch} {e : Env} {R : Room} {s : State} {m : MethodId} {args : Array Value} {below : List Frame} {meth : Method} {c : Code} {H : Heap} {locs : List Loc} {cells slots : Nat} {Q : State → Prop}
variable {D : va_G} {cA : ClassId} {A : Nat → Prop} {w : Wf} {own : String} {cc : ByteArray} {nL pc index : Nat} {rt : Option FieldType} {ls : Array Slot}
variable {y : MethodName} {b : ByteArray} {nC n mc ms : Nat} {rc : Option FieldType} {rm : Room} {ta : Nat} {σ σ' : St} {r : Int32} {o : Nat} {As rest st0 : List Value} {C : String}
theorem code_kept {hE : En s} (hc : Cond.code y b nC rc ∈ lw_tbl) : ∀ w ∈ [Cond.code y b nC rc], ∀ (a' : Array Value) (U : State), s.WarmedH U.vm → w.before a' U = true := by
  intro w hw a' U hU
  cases List.mem_singleton.mp hw
  exact (hE.warm hU).at a' hc
theorem cb_of (X : Fx p s m meth c D cA A own cc nL rt) (hc : Cond.code y b nC rc ∈ lw_tbl) (hi : Cond.initialized y.cls ∈ lw_tbl) (hy : y.cls ≠ "java/lang/invoke/MethodHandle" ∧ y.cls ≠ "java/lang/invoke/VarHandle") (hn : (parseMethodDescriptor y.desc).map (fun d => d.parameters.length) = some n)
    (hR : rm.frames + 1 ≤ R.frames ∧ 8 + (nC + 11) + rm.locals ≤ R.locals) (hm : rm.cells = mc ∧ rm.slots = ms) (hl : Cond.methodLink own index y ∈ lw_tbl) : CallB R s args own index y b nC rc [.code y b nC rc] rm mc ms n := by
  obtain ⟨-, -, -, -, -, -, hE, -, -⟩ := X
  exact ⟨hm.1, hm.2, hR.1, hR.2, code_kept (hE := hE) hc, List.mem_singleton.mpr rfl, hE.at args hc, hE.at args hi, hy, len_of hn, hE.at args hl⟩
theorem cn_of {host : String} (X : Fx p s m meth c D cA A own cc nL rt) (hc : Cond.code y b nC rc ∈ lw_tbl) (hi : Cond.initialized y.cls ∈ lw_tbl) (hy : y.cls ≠ "java/lang/invoke/MethodHandle" ∧ y.cls ≠ "java/lang/invoke/VarHandle") (hn : (parseMethodDescriptor y.desc).map (fun d => d.parameters.length) = some n)
    (hR : rm.frames + 1 ≤ R.frames ∧ 8 + (nC + 11) + rm.locals ≤ R.locals) (hm : rm.cells = mc ∧ rm.slots = ms) (hl : Cond.methodLinkNest own index y host ∈ lw_tbl) : va_CN R s args own index y host b nC rc [.code y b nC rc] rm mc ms n := by
  obtain ⟨-, -, -, -, -, -, hE, -, -⟩ := X
  exact ⟨⟨hm.1, hm.2, hR.1, hR.2, code_kept (hE := hE) hc, List.mem_singleton.mpr rfl⟩, hE.at args hc, hE.at args hi, hy, len_of hn, hE.at args hl⟩
/-- the world, at a callee's entry -/
theorem pre_of (X : Fx p s m meth c D cA A own cc nL rt) (w0 : va_W) (hP : va_P D vwCl w0 H) (hD : va_D A w0) (hS : va_S A s.heap H locs) (av : List Value) : PreS s H (va_Pc av (Wd D cA A w0)) av := by
  obtain ⟨-, -, -, -, -, -, hE, hK, hA⟩ := X
  exact ⟨Wd.calling av, fun U hU hW => ⟨rfl, hE.warm hW, by rw [hU]; exact hP, va_K.moved hW.alike hK, hD, fun q hq => hA q (Nat.le_trans hS.1 (by rw [hU] at hq; exact hq))⟩⟩
/-- what a contract's world gives back -/
theorem run_i {av : Array Value} (hr : va_Run p l e R s m args below meth c H locs cells slots mc ms (F0 m pc ls st0) rest (QI D cA A w r σ' ta av) A) (hS : va_S A s.heap H locs)
    (kk : ∀ (H1 : Heap) (locs1 : List Loc), va_P D vwCl (w ta σ') H1 → va_D A (w ta σ') → va_S A s.heap H1 locs1 → W p l e R s m args below meth c H1 locs1 (cells + mc) (slots + ms) Q (F0 m (pc + 3) ls (.int r :: rest))) :
    W p l e R s m args below meth c H locs cells slots Q (F0 m pc ls st0) := by
  refine va_calli hr hS (fun q _ h => h) (fun q h => h) (fun r1 u t H1 locs1 ht hvm hp hB hz hk hS1 => ?_)
  obtain ⟨rfl, rfl⟩ := hp
  obtain ⟨-, hP, -, hD, -⟩ := hB
  rw [ht] at hP
  exact kk H1 locs1 hP hD hS1
theorem run_v {av : Array Value} (hr : va_Run p l e R s m args below meth c H locs cells slots mc ms (F0 m pc ls st0) rest (QV D cA A w σ' ta av) A) (hS : va_S A s.heap H locs)
    (kk : ∀ (H1 : Heap) (locs1 : List Loc), va_P D vwCl (w ta σ') H1 → va_D A (w ta σ') → va_S A s.heap H1 locs1 → W p l e R s m args below meth c H1 locs1 (cells + mc) (slots + ms) Q (F0 m (pc + 3) ls rest)) :
    W p l e R s m args below meth c H locs cells slots Q (F0 m pc ls st0) := by
  refine va_callv hr hS (fun q _ h => h) (fun q h => h) (fun u t H1 locs1 ht hvm hp hB hz hk hS1 => ?_)
  cases hp
  obtain ⟨-, hP, -, hD, -⟩ := hB
  rw [ht] at hP
  exact kk H1 locs1 hP hD hS1
theorem callV_i (X : Fx p s m meth c D cA A own cc nL rt) (cv : Cv y C b nC rc n) (hl : Cond.methodLink own index y ∈ lw_tbl) (hM : MI l D cA A w y b nC rc rm (.ref o :: As) ta σ r σ' mc ms)
    (hR : rm.frames + 1 ≤ R.frames ∧ 8 + (nC + 11) + rm.locals ≤ R.locals) (hm : rm.cells = mc ∧ rm.slots = ms) (hP : va_P D vwCl (w ta σ) H) (hD : va_D A (w ta σ)) (hS : va_S A s.heap H locs) {q0 ci : Nat} {fs : List Value} {qc : vw_C} (he : (w ta σ)[q0]? = some (o, .inr (ci, fs))) (hci : vwCl[ci]? = some qc) (hq : qc.1 = C)
    (hn : As.length = n) {lv : List (Nat × Value)} (hlv : lv_has ls nL lv) (hst : st0 = As.reverse ++ .ref o :: rest) (hW : (rest.map fun v => v.category).sum ≤ 8) (hdg : decode cc pc = .ok (.invokevirtual index, 3)) (hf : cells + mc ≤ R.cells ∧ slots + ms ≤ R.slots)
    (kk : ∀ (H1 : Heap) (locs1 : List Loc), va_P D vwCl (w ta σ') H1 → va_D A (w ta σ') → va_S A s.heap H1 locs1 → W p l e R s m args below meth c H1 locs1 (cells + mc) (slots + ms) Q (F0 m (pc + 3) ls (.int r :: rest))) :
    W p l e R s m args below meth c H locs cells slots Q (F0 m pc ls st0) := by
  have hpre := pre_of X (w ta σ) hP hD hS (.ref o :: As)
  obtain ⟨c1, c2, c3, c4, c5, c6⟩ := cv
  have cb := cb_of X c1 c2 c5 c6 hR hm hl (args := args)
  obtain ⟨hx, hb, -, hml, hown, -, hE, hK, -⟩ := X
  subst hq
  exact run_i (va_runV (g := F0 m pc ls st0) (rest := rest) ⟨hx, hb, hml, hown, hE.use args⟩ hM ⟨cb, hE.at args c3, hE.at args c4⟩ ⟨hpre.1, va_recv hK hP hci he, hpre.2⟩ rfl hn hlv.1 hst (lv_room hW) hdg hf) hS kk
theorem callV_v (X : Fx p s m meth c D cA A own cc nL rt) (cv : Cv y C b nC rc n) (hl : Cond.methodLink own index y ∈ lw_tbl) (hM : MV l D cA A w y b nC rc rm (.ref o :: As) ta σ σ' mc ms)
    (hR : rm.frames + 1 ≤ R.frames ∧ 8 + (nC + 11) + rm.locals ≤ R.locals) (hm : rm.cells = mc ∧ rm.slots = ms) (hP : va_P D vwCl (w ta σ) H) (hD : va_D A (w ta σ)) (hS : va_S A s.heap H locs) {q0 ci : Nat} {fs : List Value} {qc : vw_C} (he : (w ta σ)[q0]? = some (o, .inr (ci, fs))) (hci : vwCl[ci]? = some qc) (hq : qc.1 = C)
    (hn : As.length = n) {lv : List (Nat × Value)} (hlv : lv_has ls nL lv) (hst : st0 = As.reverse ++ .ref o :: rest) (hW : (rest.map fun v => v.category).sum ≤ 8) (hdg : decode cc pc = .ok (.invokevirtual index, 3)) (hf : cells + mc ≤ R.cells ∧ slots + ms ≤ R.slots)
    (kk : ∀ (H1 : Heap) (locs1 : List Loc), va_P D vwCl (w ta σ') H1 → va_D A (w ta σ') → va_S A s.heap H1 locs1 → W p l e R s m args below meth c H1 locs1 (cells + mc) (slots + ms) Q (F0 m (pc + 3) ls rest)) :
    W p l e R s m args below meth c H locs cells slots Q (F0 m pc ls st0) := by
  have hpre := pre_of X (w ta σ) hP hD hS (.ref o :: As)
  obtain ⟨c1, c2, c3, c4, c5, c6⟩ := cv
  have cb := cb_of X c1 c2 c5 c6 hR hm hl (args := args)
  obtain ⟨hx, hb, -, hml, hown, -, hE, hK, -⟩ := X
  subst hq
  exact run_v (va_runV (g := F0 m pc ls st0) (rest := rest) ⟨hx, hb, hml, hown, hE.use args⟩ hM ⟨cb, hE.at args c3, hE.at args c4⟩ ⟨hpre.1, va_recv hK hP hci he, hpre.2⟩ rfl hn hlv.1 hst (lv_room hW) hdg hf) hS kk
theorem callVN_i {host : String} (X : Fx p s m meth c D cA A own cc nL rt) (cv : Cv y C b nC rc n) (hl : Cond.methodLinkNest own index y host ∈ lw_tbl) (hM : MI l D cA A w y b nC rc rm (.ref o :: As) ta σ r σ' mc ms)
    (hR : rm.frames + 1 ≤ R.frames ∧ 8 + (nC + 11) + rm.locals ≤ R.locals) (hm : rm.cells = mc ∧ rm.slots = ms) (hP : va_P D vwCl (w ta σ) H) (hD : va_D A (w ta σ)) (hS : va_S A s.heap H locs) {q0 ci : Nat} {fs : List Value} {qc : vw_C} (he : (w ta σ)[q0]? = some (o, .inr (ci, fs))) (hci : vwCl[ci]? = some qc) (hq : qc.1 = C)
    (hn : As.length = n) {lv : List (Nat × Value)} (hlv : lv_has ls nL lv) (hst : st0 = As.reverse ++ .ref o :: rest) (hW : (rest.map fun v => v.category).sum ≤ 8) (hdg : decode cc pc = .ok (.invokevirtual index, 3)) (hf : cells + mc ≤ R.cells ∧ slots + ms ≤ R.slots)
    (kk : ∀ (H1 : Heap) (locs1 : List Loc), va_P D vwCl (w ta σ') H1 → va_D A (w ta σ') → va_S A s.heap H1 locs1 → W p l e R s m args below meth c H1 locs1 (cells + mc) (slots + ms) Q (F0 m (pc + 3) ls (.int r :: rest))) :
    W p l e R s m args below meth c H locs cells slots Q (F0 m pc ls st0) := by
  have hpre := pre_of X (w ta σ) hP hD hS (.ref o :: As)
  obtain ⟨c1, c2, c3, c4, c5, c6⟩ := cv
  have cb := cn_of X c1 c2 c5 c6 hR hm hl (args := args)
  obtain ⟨hx, hb, -, hml, hown, -, hE, hK, -⟩ := X
  subst hq
  exact run_i (va_runVN (g := F0 m pc ls st0) (rest := rest) ⟨hx, hb, hml, hown, hE.use args⟩ hM ⟨cb, hE.at args c3, hE.at args c4⟩ ⟨hpre.1, va_recv hK hP hci he, hpre.2⟩ rfl hn hlv.1 hst (lv_room hW) hdg hf) hS kk
theorem callVN_v {host : String} (X : Fx p s m meth c D cA A own cc nL rt) (cv : Cv y C b nC rc n) (hl : Cond.methodLinkNest own index y host ∈ lw_tbl) (hM : MV l D cA A w y b nC rc rm (.ref o :: As) ta σ σ' mc ms)
    (hR : rm.frames + 1 ≤ R.frames ∧ 8 + (nC + 11) + rm.locals ≤ R.locals) (hm : rm.cells = mc ∧ rm.slots = ms) (hP : va_P D vwCl (w ta σ) H) (hD : va_D A (w ta σ)) (hS : va_S A s.heap H locs) {q0 ci : Nat} {fs : List Value} {qc : vw_C} (he : (w ta σ)[q0]? = some (o, .inr (ci, fs))) (hci : vwCl[ci]? = some qc) (hq : qc.1 = C)
    (hn : As.length = n) {lv : List (Nat × Value)} (hlv : lv_has ls nL lv) (hst : st0 = As.reverse ++ .ref o :: rest) (hW : (rest.map fun v => v.category).sum ≤ 8) (hdg : decode cc pc = .ok (.invokevirtual index, 3)) (hf : cells + mc ≤ R.cells ∧ slots + ms ≤ R.slots)
    (kk : ∀ (H1 : Heap) (locs1 : List Loc), va_P D vwCl (w ta σ') H1 → va_D A (w ta σ') → va_S A s.heap H1 locs1 → W p l e R s m args below meth c H1 locs1 (cells + mc) (slots + ms) Q (F0 m (pc + 3) ls rest)) :
    W p l e R s m args below meth c H locs cells slots Q (F0 m pc ls st0) := by
  have hpre := pre_of X (w ta σ) hP hD hS (.ref o :: As)
  obtain ⟨c1, c2, c3, c4, c5, c6⟩ := cv
  have cb := cn_of X c1 c2 c5 c6 hR hm hl (args := args)
  obtain ⟨hx, hb, -, hml, hown, -, hE, hK, -⟩ := X
  subst hq
  exact run_v (va_runVN (g := F0 m pc ls st0) (rest := rest) ⟨hx, hb, hml, hown, hE.use args⟩ hM ⟨cb, hE.at args c3, hE.at args c4⟩ ⟨hpre.1, va_recv hK hP hci he, hpre.2⟩ rfl hn hlv.1 hst (lv_room hW) hdg hf) hS kk
theorem callS_i (X : Fx p s m meth c D cA A own cc nL rt) (cv : Cs y b nC rc n) (hl : Cond.methodLink own index y ∈ lw_tbl) (hM : MI l D cA A w y b nC rc rm As ta σ r σ' mc ms)
    (hR : rm.frames + 1 ≤ R.frames ∧ 8 + (nC + 11) + rm.locals ≤ R.locals) (hm : rm.cells = mc ∧ rm.slots = ms) (hP : va_P D vwCl (w ta σ) H) (hD : va_D A (w ta σ)) (hS : va_S A s.heap H locs)
    (hn : As.length = n) {lv : List (Nat × Value)} (hlv : lv_has ls nL lv) (hst : st0 = As.reverse ++ rest) (hW : (rest.map fun v => v.category).sum ≤ 8) (hdg : decode cc pc = .ok (.invokestatic index, 3)) (hf : cells + mc ≤ R.cells ∧ slots + ms ≤ R.slots)
    (kk : ∀ (H1 : Heap) (locs1 : List Loc), va_P D vwCl (w ta σ') H1 → va_D A (w ta σ') → va_S A s.heap H1 locs1 → W p l e R s m args below meth c H1 locs1 (cells + mc) (slots + ms) Q (F0 m (pc + 3) ls (.int r :: rest))) :
    W p l e R s m args below meth c H locs cells slots Q (F0 m pc ls st0) := by
  have hpre := pre_of X (w ta σ) hP hD hS As
  obtain ⟨c1, c2, c3, c4, c5⟩ := cv
  have cb := cb_of X c1 c2 c4 c5 hR hm hl (args := args)
  obtain ⟨hx, hb, -, hml, hown, -, hE, hK, -⟩ := X
  exact run_i (va_runS (g := F0 m pc ls st0) (rest := rest) ⟨hx, hb, hml, hown, hE.use args⟩ hM ⟨cb, hE.at args c3⟩ hpre rfl hn hlv.1 hst (lv_room hW) hdg hf) hS kk
theorem callS_v (X : Fx p s m meth c D cA A own cc nL rt) (cv : Cs y b nC rc n) (hl : Cond.methodLink own index y ∈ lw_tbl) (hM : MV l D cA A w y b nC rc rm As ta σ σ' mc ms)
    (hR : rm.frames + 1 ≤ R.frames ∧ 8 + (nC + 11) + rm.locals ≤ R.locals) (hm : rm.cells = mc ∧ rm.slots = ms) (hP : va_P D vwCl (w ta σ) H) (hD : va_D A (w ta σ)) (hS : va_S A s.heap H locs)
    (hn : As.length = n) {lv : List (Nat × Value)} (hlv : lv_has ls nL lv) (hst : st0 = As.reverse ++ rest) (hW : (rest.map fun v => v.category).sum ≤ 8) (hdg : decode cc pc = .ok (.invokestatic index, 3)) (hf : cells + mc ≤ R.cells ∧ slots + ms ≤ R.slots)
    (kk : ∀ (H1 : Heap) (locs1 : List Loc), va_P D vwCl (w ta σ') H1 → va_D A (w ta σ') → va_S A s.heap H1 locs1 → W p l e R s m args below meth c H1 locs1 (cells + mc) (slots + ms) Q (F0 m (pc + 3) ls rest)) :
    W p l e R s m args below meth c H locs cells slots Q (F0 m pc ls st0) := by
  have hpre := pre_of X (w ta σ) hP hD hS As
  obtain ⟨c1, c2, c3, c4, c5⟩ := cv
  have cb := cb_of X c1 c2 c4 c5 hR hm hl (args := args)
  obtain ⟨hx, hb, -, hml, hown, -, hE, hK, -⟩ := X
  exact run_v (va_runS (g := F0 m pc ls st0) (rest := rest) ⟨hx, hb, hml, hown, hE.use args⟩ hM ⟨cb, hE.at args c3⟩ hpre rfl hn hlv.1 hst (lv_room hW) hdg hf) hS kk
theorem callSN_i {host : String} (X : Fx p s m meth c D cA A own cc nL rt) (cv : Cs y b nC rc n) (hl : Cond.methodLinkNest own index y host ∈ lw_tbl) (hM : MI l D cA A w y b nC rc rm As ta σ r σ' mc ms)
    (hR : rm.frames + 1 ≤ R.frames ∧ 8 + (nC + 11) + rm.locals ≤ R.locals) (hm : rm.cells = mc ∧ rm.slots = ms) (hP : va_P D vwCl (w ta σ) H) (hD : va_D A (w ta σ)) (hS : va_S A s.heap H locs)
    (hn : As.length = n) {lv : List (Nat × Value)} (hlv : lv_has ls nL lv) (hst : st0 = As.reverse ++ rest) (hW : (rest.map fun v => v.category).sum ≤ 8) (hdg : decode cc pc = .ok (.invokestatic index, 3)) (hf : cells + mc ≤ R.cells ∧ slots + ms ≤ R.slots)
    (kk : ∀ (H1 : Heap) (locs1 : List Loc), va_P D vwCl (w ta σ') H1 → va_D A (w ta σ') → va_S A s.heap H1 locs1 → W p l e R s m args below meth c H1 locs1 (cells + mc) (slots + ms) Q (F0 m (pc + 3) ls (.int r :: rest))) :
    W p l e R s m args below meth c H locs cells slots Q (F0 m pc ls st0) := by
  have hpre := pre_of X (w ta σ) hP hD hS As
  obtain ⟨c1, c2, c3, c4, c5⟩ := cv
  have cb := cn_of X c1 c2 c4 c5 hR hm hl (args := args)
  obtain ⟨hx, hb, -, hml, hown, -, hE, hK, -⟩ := X
  exact run_i (va_runSN (g := F0 m pc ls st0) (rest := rest) ⟨hx, hb, hml, hown, hE.use args⟩ hM ⟨cb, hE.at args c3, trivial⟩ hpre rfl hn hlv.1 hst (lv_room hW) hdg hf) hS kk
theorem callSN_v {host : String} (X : Fx p s m meth c D cA A own cc nL rt) (cv : Cs y b nC rc n) (hl : Cond.methodLinkNest own index y host ∈ lw_tbl) (hM : MV l D cA A w y b nC rc rm As ta σ σ' mc ms)
    (hR : rm.frames + 1 ≤ R.frames ∧ 8 + (nC + 11) + rm.locals ≤ R.locals) (hm : rm.cells = mc ∧ rm.slots = ms) (hP : va_P D vwCl (w ta σ) H) (hD : va_D A (w ta σ)) (hS : va_S A s.heap H locs)
    (hn : As.length = n) {lv : List (Nat × Value)} (hlv : lv_has ls nL lv) (hst : st0 = As.reverse ++ rest) (hW : (rest.map fun v => v.category).sum ≤ 8) (hdg : decode cc pc = .ok (.invokestatic index, 3)) (hf : cells + mc ≤ R.cells ∧ slots + ms ≤ R.slots)
    (kk : ∀ (H1 : Heap) (locs1 : List Loc), va_P D vwCl (w ta σ') H1 → va_D A (w ta σ') → va_S A s.heap H1 locs1 → W p l e R s m args below meth c H1 locs1 (cells + mc) (slots + ms) Q (F0 m (pc + 3) ls rest)) :
    W p l e R s m args below meth c H locs cells slots Q (F0 m pc ls st0) := by
  have hpre := pre_of X (w ta σ) hP hD hS As
  obtain ⟨c1, c2, c3, c4, c5⟩ := cv
  have cb := cn_of X c1 c2 c4 c5 hR hm hl (args := args)
  obtain ⟨hx, hb, -, hml, hown, -, hE, hK, -⟩ := X
  exact run_v (va_runSN (g := F0 m pc ls st0) (rest := rest) ⟨hx, hb, hml, hown, hE.use args⟩ hM ⟨cb, hE.at args c3, trivial⟩ hpre rfl hn hlv.1 hst (lv_room hW) hdg hf) hS kk
/-- ends -/
theorem ret_i (X : Fx p s m meth c D cA A own cc nL (some .int)) (hP : va_P D vwCl (w ta σ) H) (hD : va_D A (w ta σ)) (hS : va_S A s.heap H locs) (hdg : decode cc pc = .ok (.ireturn, 1)) :
    W p l e R s m args below meth c H locs cells slots (MQ below (QI D cA A w r σ ta) args s cells slots A) (F0 m pc ls [.int r]) := by
  obtain ⟨hx, hb, hr, hml, hown, hlk, hE, hK, hA⟩ := X
  exact W.iret hx hb hr (fun t ht hW => ⟨⟨r, (σ, ta), rfl, ⟨rfl, rfl⟩, hE.warm hW, by rw [ht]; exact hP, va_K.moved hW.alike hK, hD, fun q hq => hA q (Nat.le_trans hS.1 (by rw [ht] at hq; exact hq))⟩, hS.F ht⟩) hS.2.2 hdg hlk
theorem ret_z (X : Fx p s m meth c D cA A own cc nL (some .boolean)) (hz : isB r = true) (hP : va_P D vwCl (w ta σ) H) (hD : va_D A (w ta σ)) (hS : va_S A s.heap H locs) (hdg : decode cc pc = .ok (.ireturn, 1)) :
    W p l e R s m args below meth c H locs cells slots (MQ below (QI D cA A w r σ ta) args s cells slots A) (F0 m pc ls [.int r]) := by
  obtain ⟨hx, hb, hr, hml, hown, hlk, hE, hK, hA⟩ := X
  exact W.zret hx hb hr (isB_n hz) (fun t ht hW => ⟨⟨r, (σ, ta), rfl, ⟨rfl, rfl⟩, hE.warm hW, by rw [ht]; exact hP, va_K.moved hW.alike hK, hD, fun q hq => hA q (Nat.le_trans hS.1 (by rw [ht] at hq; exact hq))⟩, hS.F ht⟩) hS.2.2 hdg hlk
theorem ret_v (X : Fx p s m meth c D cA A own cc nL none) (hP : va_P D vwCl (w ta σ) H) (hD : va_D A (w ta σ)) (hS : va_S A s.heap H locs) (hdg : decode cc pc = .ok (.return_, 1)) :
    W p l e R s m args below meth c H locs cells slots (MQ below (QV D cA A w σ ta) args s cells slots A) (F0 m pc ls []) := by
  obtain ⟨hx, hb, hr, hml, hown, hlk, hE, hK, hA⟩ := X
  exact W.vret hx hb hr (fun t ht hW => ⟨⟨(σ, ta), rfl, rfl, hE.warm hW, by rw [ht]; exact hP, va_K.moved hW.alike hK, hD, fun q hq => hA q (Nat.le_trans hS.1 (by rw [ht] at hq; exact hq))⟩, hS.F ht⟩) hS.2.2 hdg hlk
end CL
