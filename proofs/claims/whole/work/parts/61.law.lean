def Apart (w1 w2 : va_W) : Prop := ∀ (i j : Nat) (x y : Nat × va_E), w1[i]? = some x → w2[j]? = some y → x.1 ≠ y.1
/-- a new object of the reference -/
def σM0 : St := (fun k => if k = 2 then -1 else if k = 21 then -1 else 0, fun _ _ => 0)
section ST
variable {p : Program} {l : Launch} {e : Env} {R : Room} {s : State} {m : MethodId} {args : Array Value} {below : List Frame} {meth : Method} {c : Code} {H : Heap} {locs : List Loc} {cells slots : Nat} {Q : State → Prop}
variable {D : va_G} {cA : ClassId} {A : Nat → Prop} {own : String} {cc : ByteArray} {nL pc : Nat} {rt : Option FieldType} {ls : Array Slot} {o : Nat} {rest st0 : List Value} {ws : va_W} {x : Nat × va_E}
theorem va_P.front (h : va_P D vwCl (ws ++ [x]) H) : va_P D vwCl (x :: ws) H := by
  intro k q hk
  rcases List.mem_cons.mp (List.mem_of_getElem? hk) with rfl | hm
  · obtain ⟨i, hi⟩ := List.getElem?_of_mem (List.mem_append_right ws (List.mem_singleton.mpr (rfl : q = q)))
    exact h i q hi
  · obtain ⟨i, hi⟩ := List.getElem?_of_mem (List.mem_append_left [x] hm)
    exact h i q hi
theorem va_D.front (h : va_D A (ws ++ [x])) : va_D A (x :: ws) := by
  have key : ∀ (k : Nat) (q : Nat × va_E), (x :: ws)[k]? = some q → (ws ++ [x])[if k = 0 then ws.length else k - 1]? = some q := by
    intro k q hk
    cases k with
    | zero =>
      rw [if_pos rfl, List.getElem?_append_right (Nat.le_refl _), Nat.sub_self]
      exact hk
    | succ k =>
      rw [if_neg (Nat.succ_ne_zero k)]
      have hk2 : ws[k]? = some q := hk
      show (ws ++ [x])[k]? = some q
      rw [List.getElem?_append_left (List.getElem?_eq_some_iff.mp hk2).1]
      exact hk2
  have lt : ∀ (k : Nat) (q : Nat × va_E), (x :: ws)[k]? = some q → k < ws.length + 1 := fun k q hk => (List.getElem?_eq_some_iff.mp hk).1
  refine ⟨fun i j a b hi hj hab => ?_, fun k q hk => h.2 _ q (key k q hk)⟩
  have h1 := h.1 _ _ a b (key i a hi) (key j b hj) hab
  have l1 := lt i a hi
  have l2 := lt j b hj
  split at h1 <;> split at h1 <;> omega
theorem va_D.apart {w1 w2 : va_W} (h : va_D A ws) (is js : List Nat) (h1 : is.map (fun i => ws[i]?) = w1.map some) (h2 : js.map (fun i => ws[i]?) = w2.map some) (hd : ∀ i ∈ is, i ∉ js) : Apart w1 w2 := by
  have at' : ∀ {is : List Nat} {w : va_W}, is.map (fun i => ws[i]?) = w.map some → ∀ (k : Nat) (q : Nat × va_E), w[k]? = some q → ∃ i, i ∈ is ∧ ws[i]? = some q := by
    intro is w hs k q hq
    have h1 : (is.map (fun i => ws[i]?))[k]? = some (some q) := by rw [hs, List.getElem?_map, hq]; rfl
    rw [List.getElem?_map] at h1
    cases hi : is[k]? with
    | none => rw [hi] at h1; cases h1
    | some i => rw [hi] at h1; exact ⟨i, List.mem_of_getElem? hi, Option.some.inj h1⟩
  intro i j a b ha hb hab
  obtain ⟨i1, m1, e1⟩ := at' h1 i a ha
  obtain ⟨j1, m2, e2⟩ := at' h2 j b hb
  have := h.1 i1 j1 a b e1 e2 hab
  subst this
  exact hd i1 m1 m2
theorem call8 (X : Fx p s m meth c D cA A RL cL_law 4 rt)
    (hP : va_P D vwCl [(o, .inr (8, [.null, .null, .null, .null, .null, .null, .null, .null, .int 0]))] H) (hD : va_D A [(o, .inr (8, [.null, .null, .null, .null, .null, .null, .null, .null, .int 0]))]) (hS : va_S A s.heap H locs)
    {lv : List (Nat × Value)} (hlv : lv_has ls 4 lv) (hst : st0 = .ref o :: rest) (hW : (rest.map fun v => v.category).sum ≤ 8) (hdg : decode cL_law pc = .ok (.invokespecial 9, 3)) (hf : cells + 48 ≤ room_1.cells ∧ slots + 12001 ≤ room_1.slots)
    (kk : ∀ (u : Nat → Nat) (H1 : Heap) (locs1 : List Loc), u 0 = o → va_P D vwCl (wC cA u (u 48) σC0) H1 → va_D A (wC cA u (u 48) σC0) → va_S A s.heap H1 locs1 → W p l e room_1 s m args below meth c H1 locs1 (cells + 48) (slots + 12001) Q (F0 m (pc + 3) ls rest)) :
    W p l e room_1 s m args below meth c H locs cells slots Q (F0 m pc ls st0) := by
  have hpre := pre_of X _ hP hD hS [.ref o]
  obtain ⟨c1, c2, c3, c4, c5, c6⟩ := ci_X8
  have cb := cb_of X c1 c2 c5 c6 (R := room_1) (rm := rm_X8_init) (mc := 48) (ms := 12001) ⟨by decide, by decide⟩ ⟨rfl, rfl⟩ kw16 (args := args)
  obtain ⟨hx, hb, -, hml, hown, -, hE, hK, -⟩ := X
  refine va_callv (va_runI (As := []) (g := F0 m pc ls st0) (rest := rest) ⟨hx, hb, hml, hown, hE.use args⟩ (c_X8_init l D cA A o) ⟨cb, c4, hE.at args c3⟩ hpre rfl rfl hlv.1 hst (lv_room hW) hdg hf) hS (fun q _ h => h) (fun q h => h) (fun u t H1 locs1 ht hvm hp hB hz hk hS1 => ?_)
  obtain ⟨-, hP, -, hD, -⟩ := hB
  rw [ht] at hP
  exact kk u H1 locs1 hp hP hD hS1
end ST
/-! two worlds side by side -/
theorem Apart.symm {w1 w2 : va_W} (h : Apart w1 w2) : Apart w2 w1 := fun i j x y hx hy => (h j i y x hy hx).symm
section LW
variable {p : Program} {l : Launch} {e : Env} {R : Room} {s : State} {m : MethodId} {args : Array Value} {below : List Frame} {meth : Method} {c : Code} {H : Heap} {locs : List Loc} {cells slots : Nat} {Q : State → Prop}
variable {D : va_G} {cA : ClassId} {A : Nat → Prop} {w : Wf} {own : String} {cc : ByteArray} {nL pc index : Nat} {rt : Option FieldType} {ls : Array Slot}
variable {y : MethodName} {b : ByteArray} {nC n mc ms : Nat} {rc : Option FieldType} {rm : Room} {ta : Nat} {σ σ' : St} {r : Int32} {o : Nat} {As rest st0 : List Value} {C : String} {wp : va_W}
theorem law_k (hP : va_P D vwCl (w ta σ) H) (hPp : va_P D vwCl wp H) (hD : va_D A (w ta σ)) (hap : Apart (w ta σ) wp) {ta1 : Nat} {σ1 : St} {H1 : Heap} (hA1 : ∀ q, va_A (w ta σ) H.size q → A q) (hk : ∀ q : Nat, q < H.size → ¬ va_A (w ta σ) H.size q → H1[q]? = H[q]?) (hD1 : va_D (va_A (w ta σ) H.size) (w ta1 σ1)) :
    va_P D vwCl wp H1 ∧ va_D A (w ta1 σ1) ∧ Apart (w ta1 σ1) wp := by
  have hlt : ∀ (k : Nat) (q : Nat × va_E), wp[k]? = some q → q.1 < H.size := fun k q h => (hPp k q h).lt
  have hout : ∀ (k : Nat) (q : Nat × va_E), wp[k]? = some q → ¬ va_A (w ta σ) H.size q.1 := by
    intro k q h hq
    rcases hq with ⟨i, z, hi⟩ | hq
    · exact hap i k (q.1, z) q hi h rfl
    · exact Nat.not_le.mpr (hlt k q h) hq
  refine ⟨hPp.kept (fun k q h => hk q.1 (hlt k q h) (hout k q h)), hD1.weaken (fun _ q _ h => hA1 q.1 h), ?_⟩
  intro i j x z hx hz hxz
  exact hout j z hz (hxz ▸ hD1.2 i x hx)
theorem law_A (X : Fx p s m meth c D cA A own cc nL rt) (hD : va_D A (w ta σ)) (hS : va_S A s.heap H locs) : ∀ q, va_A (w ta σ) H.size q → A q := by
  obtain ⟨-, -, -, -, -, -, -, -, hA⟩ := X
  intro q hq
  rcases hq with ⟨i, z, hi⟩ | hq
  · exact hD.2 i (q, z) hi
  · exact hA q (Nat.le_trans hS.1 hq)
theorem law_pre (X : Fx p s m meth c D cA A own cc nL rt) (hP : va_P D vwCl (w ta σ) H) (hD : va_D A (w ta σ)) (av : List Value) : PreS s H (va_Pc av (Wd D cA (va_A (w ta σ) H.size) (w ta σ))) av := by
  obtain ⟨-, -, -, -, -, -, hE, hK, hA⟩ := X
  exact ⟨Wd.calling av, fun U hU hW => ⟨rfl, hE.warm hW, by rw [hU]; exact hP, va_K.moved hW.alike hK, hD.self, fun q hq => Or.inr (by rw [hU] at hq; exact hq)⟩⟩
theorem law_ia (X : Fx p s m meth c D cA A own cc nL rt) (cv : Cv y C b nC rc n) (hl : Cond.methodLink own index y ∈ lw_tbl) (hM : ∀ A1, MIa l D cA A1 w y b nC rc rm (.ref o :: As) ta σ r σ' mc ms)
    (hR : rm.frames + 1 ≤ R.frames ∧ 8 + (nC + 11) + rm.locals ≤ R.locals) (hm : rm.cells = mc ∧ rm.slots = ms) (hP : va_P D vwCl (w ta σ) H) (hPp : va_P D vwCl wp H) (hD : va_D A (w ta σ)) (hap : Apart (w ta σ) wp) (hS : va_S A s.heap H locs) {q0 ci : Nat} {fs : List Value} {qc : vw_C} (he : (w ta σ)[q0]? = some (o, .inr (ci, fs))) (hci : vwCl[ci]? = some qc) (hq : qc.1 = C)
    (hn : As.length = n) {lv : List (Nat × Value)} (hlv : lv_has ls nL lv) (hst : st0 = As.reverse ++ .ref o :: rest) (hW : (rest.map fun v => v.category).sum ≤ 8) (hdg : decode cc pc = .ok (.invokevirtual index, 3)) (hf : cells + mc ≤ R.cells ∧ slots + ms ≤ R.slots)
    (kk : ∀ (ta : Nat) (H1 : Heap) (locs1 : List Loc), va_P D vwCl (w ta σ') H1 → va_P D vwCl wp H1 → va_D A (w ta σ') → Apart (w ta σ') wp → va_S A s.heap H1 locs1 → W p l e R s m args below meth c H1 locs1 (cells + mc) (slots + ms) Q (F0 m (pc + 3) ls (.int r :: rest))) :
    W p l e R s m args below meth c H locs cells slots Q (F0 m pc ls st0) := by
  have hpre := law_pre X hP hD (.ref o :: As)
  have hA1 := law_A X hD hS
  obtain ⟨c1, c2, c3, c4, c5, c6⟩ := cv
  have cb := cb_of X c1 c2 c5 c6 hR hm hl (args := args)
  obtain ⟨hx, hb, -, hml, hown, -, hE, hK, -⟩ := X
  subst hq
  refine va_calli (va_runV (g := F0 m pc ls st0) (rest := rest) ⟨hx, hb, hml, hown, hE.use args⟩ (hM _) ⟨cb, hE.at args c3, hE.at args c4⟩ ⟨hpre.1, va_recv hK hP hci he, hpre.2⟩ rfl hn hlv.1 hst (lv_room hW) hdg hf) hS (fun q _ h => hA1 q h) (fun q h => hA1 q h) (fun r1 u t H1 locs1 ht hvm hp hB hz hk hS1 => ?_)
  obtain ⟨rfl, hu⟩ := hp
  obtain ⟨σ1, ta1⟩ := u
  cases hu
  obtain ⟨-, hP1, -, hD1, -⟩ := hB
  rw [ht] at hP1
  obtain ⟨k1, k2, k3⟩ := law_k hP hPp hD hap hA1 hk hD1
  exact kk ta1 H1 locs1 hP1 k1 k2 k3 hS1
theorem MI.toA {A1 : Nat → Prop} (h : MI l D cA A1 w y b nC rc rm As ta σ r σ' mc ms) : MIa l D cA A1 w y b nC rc rm As ta σ r σ' mc ms := by
  intro p e ha hc hk s m args below hf happ hP hK
  obtain ⟨k, o, h1, h2, h3, ⟨⟨⟨r1, u, e1, ⟨e2, e3⟩, hB⟩, hF⟩, hQ⟩⟩ := h p e ha hc hk s m args below hf happ hP hK
  exact ⟨k, o, h1, h2, h3, ⟨⟨⟨r1, u, e1, ⟨e2, by rw [e3]⟩, hB⟩, hF⟩, hQ⟩⟩
end LW
theorem law_cond {L k : Nat} (hL : L ≤ 2048) (hk : k ≤ 600) : (Int32.ofNat L - 4 < nI (4 * k)) ↔ L < 4 * k + 4 := by
  have h1 : (Int32.ofNat L - 4).toInt = (L : Int) - (4 : Nat) := pk_sub_toInt (a := L) (b := 4) (by omega) (by omega)
  rw [Int32.lt_iff_toInt_lt, h1, nI_toInt (by omega)]
  omega
theorem law_in {L k : Nat} (j : Nat) (hj : j ≤ 3) (hL : L ≤ 2048) (hk : 4 * k + 4 ≤ L) : vp_in (nI (4 * k) + nI j) L := by
  rw [nI_add]
  exact vp_in_nI (by omega) (by omega)
/-- what must be shown of the two classes: call by call, the answers are the same -/
def Sim (Rel : Nat → St → St → Prop) : Prop :=
  Rel 0 σC0 σM0 ∧ (∀ n c m, n < 512 → Rel n c m → Rel (n + 1) c m)
  ∧ (∀ n c m, n < 512 → Rel n c m → ∃ r c' m', F_X8_type  c = some (r, c') ∧ F_X9_type  m = some (r, m') ∧ Rel (n + 1) c' m')
  ∧ (∀ n c m (a0 a1 a2 : Int32), n < 512 → Rel n c m → ∃ r c' m', F_X8_constructor a0 a1 a2 c = some (r, c') ∧ F_X9_constructor a0 a1 a2 m = some (r, m') ∧ Rel (n + 1) c' m')
  ∧ (∀ n c m (a0 a1 : Int32), n < 512 → Rel n c m → ∃ r c' m', F_X8_begin a0 a1 c = some (r, c') ∧ F_X9_begin a0 a1 m = some (r, m') ∧ Rel (n + 1) c' m')
  ∧ (∀ n c m (a0 : Int32), n < 512 → Rel n c m → ∃ r c' m', F_X8_put a0 c = some (r, c') ∧ F_X9_put a0 m = some (r, m') ∧ Rel (n + 1) c' m')
  ∧ (∀ n c m, n < 512 → Rel n c m → ∃ r c' m', F_X8_rule  c = some (r, c') ∧ F_X9_rule  m = some (r, m') ∧ Rel (n + 1) c' m')
  ∧ (∀ n c m, n < 512 → Rel n c m → ∃ r c' m', F_X8_lead  c = some (r, c') ∧ F_X9_lead  m = some (r, m') ∧ Rel (n + 1) c' m')
  ∧ (∀ n c m (a0 a1 : Int32), n < 512 → Rel n c m → ∃ r c' m', F_X8_outcome a0 a1 c = some (r, c') ∧ F_X9_outcome a0 a1 m = some (r, m') ∧ Rel (n + 1) c' m')
  ∧ (∀ n c m, n < 512 → Rel n c m → ∃ r c' m', F_X8_size  c = some (r, c') ∧ F_X9_size  m = some (r, m') ∧ Rel (n + 1) c' m')
  ∧ (∀ n c m (a0 a1 : Int32), n < 512 → Rel n c m → ∃ r c' m', F_X8_node a0 a1 c = some (r, c') ∧ F_X9_node_ a0 a1 m = some (r, m') ∧ Rel (n + 1) c' m')
  ∧ (∀ n c m, n < 512 → Rel n c m → ∃ r c' m', F_X8_covers  c = some (r, c') ∧ F_X9_covers  m = some (r, m') ∧ Rel (n + 1) c' m')
  ∧ (∀ n c m (a0 a1 : Int32), n < 512 → Rel n c m → ∃ r c' m', F_X8_clash a0 a1 c = some (r, c') ∧ F_X9_clash a0 a1 m = some (r, m') ∧ Rel (n + 1) c' m')
  ∧ (∀ n c m (a0 : Int32), n < 512 → Rel n c m → ∃ r c' m', F_X8_count a0 c = some (r, c') ∧ F_X9_count a0 m = some (r, m') ∧ Rel (n + 1) c' m')
-- the loop of the law, over any relation of the two states that keeps the answers the same
set_option maxHeartbeats 16000000 in
set_option maxRecDepth 100000 in
theorem law_loop {p : Program} {l : Launch} {e : Env} {s : State} {m : MethodId} {below : List Frame} {meth : Method} {c : Code} {b L : Nat} {xs : Nat → Int32} {D : va_G} {cA : ClassId} {ad am : Nat → Nat} {Rel : Nat → St → St → Prop} (hRel : Sim Rel) (hL : L ≤ 2048) (hX : va_X b L xs s s.heap) (hbl : b < s.heap.size) (X : Fx p s m meth c D cA (fun q : Nat => s.heap.size ≤ q) RL cL_law 4 (some .boolean)) :
    ∀ (d k : Nat) (cs ms : St) (ta tm : Nat) (H : Heap) (locs : List Loc) (ls : Array Slot), L < 4 * (k + d) + 4 → k ≤ 512 → Rel k cs ms → va_P D vwCl (wC cA ad ta cs) H → va_P D vwCl (wM cA am tm ms) H → va_D (fun q : Nat => s.heap.size ≤ q) (wC cA ad ta cs) → va_D (fun q : Nat => s.heap.size ≤ q) (wM cA am tm ms) → Apart (wC cA ad ta cs) (wM cA am tm ms) → va_S (fun q : Nat => s.heap.size ≤ q) s.heap H locs → lv_has ls 4 [(0, .ref b), (1, .ref (ad 0)), (2, .ref (am 0)), (3, .int (nI (4 * k)))] →
      W p l e room_1 s m #[Value.ref b] below meth c H locs (90 + k) (90000 + 9600 * k) (lw_Z below #[Value.ref b] s) (F0 m 18 ls []) := by
  obtain ⟨hx, hb, hr, hml, hown, hlk, hE, hK, hA⟩ := id X
  have hbA : ¬ (fun q : Nat => s.heap.size ≤ q) b := Nat.not_le.mpr hbl
  obtain ⟨-, hskip, h_type, h_constructor, h_begin, h_put, h_rule, h_lead, h_outcome, h_size, h_node, h_covers, h_clash, h_count⟩ := hRel
  intro d
  induction d with
  | zero =>
    intro k cs ms ta tm H locs ls hd hk hR hP hPm hD hDm hap hS hl
    refine lv_iload_n hx hb dL_law_18 rfl (lv_at hl 3 rfl) ?_
    refine lv_aload_n hx hb dL_law_19 rfl (lv_at hl 0 rfl) ?_
    refine va_slen hx hb hX hbl hbA hS dL_law_20 ?_
    refine lv_iconst (v := 4) hx hb dL_law_21 (by decide) ?_
    refine lv_isub hx hb dL_law_22 ?_
    refine lv_icmp_gt (tgt := 388) hx hb dL_law_23 (by decide) (fun c1 => ?_) (fun c1 => absurd ((law_cond hL (by omega)).mpr (by omega)) c1)
    refine lv_iconst (v := 1) hx hb dL_law_388 (by decide) ?_
    refine va_forget (fun q h => hS.2.2 q h) ?_
    refine W.widen (k := 157138) (n := 8630836) (by omega) (by omega) ?_
    exact lw_ret hx hb hr hlk dL_law_389
  | succ d ih =>
    intro k cs ms ta tm H locs ls hd hk hR hP hPm hD hDm hap hS hl
    refine lv_iload_n hx hb dL_law_18 rfl (lv_at hl 3 rfl) ?_
    refine lv_aload_n hx hb dL_law_19 rfl (lv_at hl 0 rfl) ?_
    refine va_slen hx hb hX hbl hbA hS dL_law_20 ?_
    refine lv_iconst (v := 4) hx hb dL_law_21 (by decide) ?_
    refine lv_isub hx hb dL_law_22 ?_
    refine lv_icmp_gt (tgt := 388) hx hb dL_law_23 (by decide) (fun c1 => ?_) (fun c1 => ?_)
    · refine lv_iconst (v := 1) hx hb dL_law_388 (by decide) ?_
      refine va_forget (fun q h => hS.2.2 q h) ?_
      refine W.widen (k := 157138) (n := 8630836) (by omega) (by omega) ?_
      exact lw_ret hx hb hr hlk dL_law_389
    have hkL : 4 * k + 4 ≤ L := by have := mt (law_cond hL (by omega)).mpr c1; omega
    have hk2 : k < 512 := by omega
    have hi0 : vp_in (nI (4 * k)) L := vp_in_nI (by omega) (by omega)
    have hi1 : vp_in (nI (4 * k) + 1) L := law_in 1 (by omega) hL hkL
    have hi2 : vp_in (nI (4 * k) + 2) L := law_in 2 (by omega) hL hkL
    have hi3 : vp_in (nI (4 * k) + 3) L := law_in 3 (by omega) hL hkL
    refine lv_aload_n hx hb dL_law_26 rfl (lv_at hl 0 rfl) ?_
    refine lv_iload_n hx hb dL_law_27 rfl (lv_at hl 3 rfl) ?_
    refine va_sld hx hb hX hbl hbA hS hi0 dL_law_28 ?_
    refine lv_bipush (v := 15) hx hb dL_law_29 (by decide) ?_
    refine lv_iand hx hb dL_law_31 ?_
    refine lv_topi (fun v ev => ?_)
    by_cases c0 : v = 0
    · refine lv_tableIn (off := 64) (tgt := 96) hx hb dL_law_32 (by rw [c0]; decide) (by rw [c0]; decide) (by rw [c0]; decide) (by decide) ?_
      obtain ⟨r, cs', ms', hc, hm, hR'⟩ := h_type k cs ms hk2 hR
      refine lv_aload_n hx hb dL_law_96 rfl (lv_at hl 1 rfl) ?_
      refine law_ia (As := []) (rest := []) X cv_X8_type kw323 (fun A1 => (c_X8_type l D cA A1 ad ta cs r cs' hc).toA) ⟨by decide, by decide⟩ ⟨rfl, rfl⟩ hP hPm hD hap hS (q0 := 0) (ci := 8) rfl rfl rfl rfl hl rfl (Nat.le_of_ble_eq_true rfl) dL_law_97 ⟨by show _ ≤ 157138; omega, by show _ ≤ 8630836; omega⟩ (fun ta H locs hP hPm hD hap hS => ?_)
      refine lv_aload_n hx hb dL_law_100 rfl (lv_at hl 2 rfl) ?_
      refine law_ia (As := []) (rest := [.int r]) X cv_X9_type kw857 (fun A1 => (c_X9_type l D cA A1 am tm ms r ms' hm).toA) ⟨by decide, by decide⟩ ⟨rfl, rfl⟩ hPm hP hDm hap.symm hS (q0 := 0) (ci := 9) rfl rfl rfl rfl hl rfl (Nat.le_of_ble_eq_true rfl) dL_law_101 ⟨by show _ ≤ 157138; omega, by show _ ≤ 8630836; omega⟩ (fun tm H locs hPm hP hDm hap hS => ?_)
      have hap := hap.symm
      refine lv_icmp_eq (tgt := 382) hx hb dL_law_104 (by decide) (fun _ => ?_) (fun q => absurd rfl q)
      refine lv_iinc (v := nI (4 * (k + 1))) (lv' := [(3, .int (nI (4 * (k + 1)))), (0, .ref b), (1, .ref (ad 0)), (2, .ref (am 0))]) hx hb dL_law_382 hl (k := 3) rfl (nI_add (4 * k) 4) (by decide) rfl (fun ls hl => ?_)
      refine lv_goto (tgt := 18) hx hb dL_law_385 (by decide) ?_
      refine W.widen (k := 90 + (k + 1)) (n := 90000 + 9600 * (k + 1)) (by omega) (by omega) ?_
      exact ih (k + 1) cs' ms' ta tm _ _ _ (by omega) (by omega) hR' hP hPm hD hDm hap hS (lv_sub hl [1, 2, 3, 0] rfl)
    by_cases c1 : v = 1
    · refine lv_tableIn (off := 77) (tgt := 109) hx hb dL_law_32 (by rw [c1]; decide) (by rw [c1]; decide) (by rw [c1]; decide) (by decide) ?_
      obtain ⟨r, cs', ms', hc, hm, hR'⟩ := h_constructor k cs ms (xs (nI (4 * k) + 1).toNatClampNeg) (xs (nI (4 * k) + 2).toNatClampNeg) (xs (nI (4 * k) + 3).toNatClampNeg) hk2 hR
      refine lv_aload_n hx hb dL_law_109 rfl (lv_at hl 1 rfl) ?_
      refine lv_aload_n hx hb dL_law_110 rfl (lv_at hl 0 rfl) ?_
      refine lv_iload_n hx hb dL_law_111 rfl (lv_at hl 3 rfl) ?_
      refine lv_iconst (v := 1) hx hb dL_law_112 (by decide) ?_
      refine lv_iadd hx hb dL_law_113 ?_
      refine va_sld hx hb hX hbl hbA hS hi1 dL_law_114 ?_
      refine lv_aload_n hx hb dL_law_115 rfl (lv_at hl 0 rfl) ?_
      refine lv_iload_n hx hb dL_law_116 rfl (lv_at hl 3 rfl) ?_
      refine lv_iconst (v := 2) hx hb dL_law_117 (by decide) ?_
      refine lv_iadd hx hb dL_law_118 ?_
      refine va_sld hx hb hX hbl hbA hS hi2 dL_law_119 ?_
      refine lv_aload_n hx hb dL_law_120 rfl (lv_at hl 0 rfl) ?_
      refine lv_iload_n hx hb dL_law_121 rfl (lv_at hl 3 rfl) ?_
      refine lv_iconst (v := 3) hx hb dL_law_122 (by decide) ?_
      refine lv_iadd hx hb dL_law_123 ?_
      refine va_sld hx hb hX hbl hbA hS hi3 dL_law_124 ?_
      refine law_ia (As := [.int (xs (nI (4 * k) + 1).toNatClampNeg), .int (xs (nI (4 * k) + 2).toNatClampNeg), .int (xs (nI (4 * k) + 3).toNatClampNeg)]) (rest := []) X cv_X8_constructor kw331 (fun A1 => (c_X8_constructor l D cA A1 ad ta cs (xs (nI (4 * k) + 1).toNatClampNeg) (xs (nI (4 * k) + 2).toNatClampNeg) (xs (nI (4 * k) + 3).toNatClampNeg) r cs' hc).toA) ⟨by decide, by decide⟩ ⟨rfl, rfl⟩ hP hPm hD hap hS (q0 := 0) (ci := 8) rfl rfl rfl rfl hl rfl (Nat.le_of_ble_eq_true rfl) dL_law_125 ⟨by show _ ≤ 157138; omega, by show _ ≤ 8630836; omega⟩ (fun ta H locs hP hPm hD hap hS => ?_)
      refine lv_aload_n hx hb dL_law_128 rfl (lv_at hl 2 rfl) ?_
      refine lv_aload_n hx hb dL_law_129 rfl (lv_at hl 0 rfl) ?_
      refine lv_iload_n hx hb dL_law_130 rfl (lv_at hl 3 rfl) ?_
      refine lv_iconst (v := 1) hx hb dL_law_131 (by decide) ?_
      refine lv_iadd hx hb dL_law_132 ?_
      refine va_sld hx hb hX hbl hbA hS hi1 dL_law_133 ?_
      refine lv_aload_n hx hb dL_law_134 rfl (lv_at hl 0 rfl) ?_
      refine lv_iload_n hx hb dL_law_135 rfl (lv_at hl 3 rfl) ?_
      refine lv_iconst (v := 2) hx hb dL_law_136 (by decide) ?_
      refine lv_iadd hx hb dL_law_137 ?_
      refine va_sld hx hb hX hbl hbA hS hi2 dL_law_138 ?_
      refine lv_aload_n hx hb dL_law_139 rfl (lv_at hl 0 rfl) ?_
      refine lv_iload_n hx hb dL_law_140 rfl (lv_at hl 3 rfl) ?_
      refine lv_iconst (v := 3) hx hb dL_law_141 (by decide) ?_
      refine lv_iadd hx hb dL_law_142 ?_
      refine va_sld hx hb hX hbl hbA hS hi3 dL_law_143 ?_
      refine law_ia (As := [.int (xs (nI (4 * k) + 1).toNatClampNeg), .int (xs (nI (4 * k) + 2).toNatClampNeg), .int (xs (nI (4 * k) + 3).toNatClampNeg)]) (rest := [.int r]) X cv_X9_constructor kw861 (fun A1 => (c_X9_constructor l D cA A1 am tm ms (xs (nI (4 * k) + 1).toNatClampNeg) (xs (nI (4 * k) + 2).toNatClampNeg) (xs (nI (4 * k) + 3).toNatClampNeg) r ms' hm).toA) ⟨by decide, by decide⟩ ⟨rfl, rfl⟩ hPm hP hDm hap.symm hS (q0 := 0) (ci := 9) rfl rfl rfl rfl hl rfl (Nat.le_of_ble_eq_true rfl) dL_law_144 ⟨by show _ ≤ 157138; omega, by show _ ≤ 8630836; omega⟩ (fun tm H locs hPm hP hDm hap hS => ?_)
      have hap := hap.symm
      refine lv_icmp_eq (tgt := 382) hx hb dL_law_147 (by decide) (fun _ => ?_) (fun q => absurd rfl q)
      refine lv_iinc (v := nI (4 * (k + 1))) (lv' := [(3, .int (nI (4 * (k + 1)))), (0, .ref b), (1, .ref (ad 0)), (2, .ref (am 0))]) hx hb dL_law_382 hl (k := 3) rfl (nI_add (4 * k) 4) (by decide) rfl (fun ls hl => ?_)
      refine lv_goto (tgt := 18) hx hb dL_law_385 (by decide) ?_
      refine W.widen (k := 90 + (k + 1)) (n := 90000 + 9600 * (k + 1)) (by omega) (by omega) ?_
      exact ih (k + 1) cs' ms' ta tm _ _ _ (by omega) (by omega) hR' hP hPm hD hDm hap hS (lv_sub hl [1, 2, 3, 0] rfl)
    by_cases c2 : v = 2
    · refine lv_tableIn (off := 120) (tgt := 152) hx hb dL_law_32 (by rw [c2]; decide) (by rw [c2]; decide) (by rw [c2]; decide) (by decide) ?_
      obtain ⟨r, cs', ms', hc, hm, hR'⟩ := h_begin k cs ms (xs (nI (4 * k) + 1).toNatClampNeg) (xs (nI (4 * k) + 2).toNatClampNeg) hk2 hR
      refine lv_aload_n hx hb dL_law_152 rfl (lv_at hl 1 rfl) ?_
      refine lv_aload_n hx hb dL_law_153 rfl (lv_at hl 0 rfl) ?_
      refine lv_iload_n hx hb dL_law_154 rfl (lv_at hl 3 rfl) ?_
      refine lv_iconst (v := 1) hx hb dL_law_155 (by decide) ?_
      refine lv_iadd hx hb dL_law_156 ?_
      refine va_sld hx hb hX hbl hbA hS hi1 dL_law_157 ?_
      refine lv_aload_n hx hb dL_law_158 rfl (lv_at hl 0 rfl) ?_
      refine lv_iload_n hx hb dL_law_159 rfl (lv_at hl 3 rfl) ?_
      refine lv_iconst (v := 2) hx hb dL_law_160 (by decide) ?_
      refine lv_iadd hx hb dL_law_161 ?_
      refine va_sld hx hb hX hbl hbA hS hi2 dL_law_162 ?_
      refine law_ia (As := [.int (xs (nI (4 * k) + 1).toNatClampNeg), .int (xs (nI (4 * k) + 2).toNatClampNeg)]) (rest := []) X cv_X8_begin kw353 (fun A1 => (c_X8_begin l D cA A1 ad ta cs (xs (nI (4 * k) + 1).toNatClampNeg) (xs (nI (4 * k) + 2).toNatClampNeg) r cs' hc).toA) ⟨by decide, by decide⟩ ⟨rfl, rfl⟩ hP hPm hD hap hS (q0 := 0) (ci := 8) rfl rfl rfl rfl hl rfl (Nat.le_of_ble_eq_true rfl) dL_law_163 ⟨by show _ ≤ 157138; omega, by show _ ≤ 8630836; omega⟩ (fun ta H locs hP hPm hD hap hS => ?_)
      refine lv_aload_n hx hb dL_law_166 rfl (lv_at hl 2 rfl) ?_
      refine lv_aload_n hx hb dL_law_167 rfl (lv_at hl 0 rfl) ?_
      refine lv_iload_n hx hb dL_law_168 rfl (lv_at hl 3 rfl) ?_
      refine lv_iconst (v := 1) hx hb dL_law_169 (by decide) ?_
      refine lv_iadd hx hb dL_law_170 ?_
      refine va_sld hx hb hX hbl hbA hS hi1 dL_law_171 ?_
      refine lv_aload_n hx hb dL_law_172 rfl (lv_at hl 0 rfl) ?_
      refine lv_iload_n hx hb dL_law_173 rfl (lv_at hl 3 rfl) ?_
      refine lv_iconst (v := 2) hx hb dL_law_174 (by decide) ?_
      refine lv_iadd hx hb dL_law_175 ?_
      refine va_sld hx hb hX hbl hbA hS hi2 dL_law_176 ?_
      refine law_ia (As := [.int (xs (nI (4 * k) + 1).toNatClampNeg), .int (xs (nI (4 * k) + 2).toNatClampNeg)]) (rest := [.int r]) X cv_X9_begin kw872 (fun A1 => (c_X9_begin l D cA A1 am tm ms (xs (nI (4 * k) + 1).toNatClampNeg) (xs (nI (4 * k) + 2).toNatClampNeg) r ms' hm).toA) ⟨by decide, by decide⟩ ⟨rfl, rfl⟩ hPm hP hDm hap.symm hS (q0 := 0) (ci := 9) rfl rfl rfl rfl hl rfl (Nat.le_of_ble_eq_true rfl) dL_law_177 ⟨by show _ ≤ 157138; omega, by show _ ≤ 8630836; omega⟩ (fun tm H locs hPm hP hDm hap hS => ?_)
      have hap := hap.symm
      refine lv_icmp_eq (tgt := 382) hx hb dL_law_180 (by decide) (fun _ => ?_) (fun q => absurd rfl q)
      refine lv_iinc (v := nI (4 * (k + 1))) (lv' := [(3, .int (nI (4 * (k + 1)))), (0, .ref b), (1, .ref (ad 0)), (2, .ref (am 0))]) hx hb dL_law_382 hl (k := 3) rfl (nI_add (4 * k) 4) (by decide) rfl (fun ls hl => ?_)
      refine lv_goto (tgt := 18) hx hb dL_law_385 (by decide) ?_
      refine W.widen (k := 90 + (k + 1)) (n := 90000 + 9600 * (k + 1)) (by omega) (by omega) ?_
      exact ih (k + 1) cs' ms' ta tm _ _ _ (by omega) (by omega) hR' hP hPm hD hDm hap hS (lv_sub hl [1, 2, 3, 0] rfl)
    by_cases c3 : v = 3
    · refine lv_tableIn (off := 153) (tgt := 185) hx hb dL_law_32 (by rw [c3]; decide) (by rw [c3]; decide) (by rw [c3]; decide) (by decide) ?_
      obtain ⟨r, cs', ms', hc, hm, hR'⟩ := h_put k cs ms (xs (nI (4 * k) + 1).toNatClampNeg) hk2 hR
      refine lv_aload_n hx hb dL_law_185 rfl (lv_at hl 1 rfl) ?_
      refine lv_aload_n hx hb dL_law_186 rfl (lv_at hl 0 rfl) ?_
      refine lv_iload_n hx hb dL_law_187 rfl (lv_at hl 3 rfl) ?_
      refine lv_iconst (v := 1) hx hb dL_law_188 (by decide) ?_
      refine lv_iadd hx hb dL_law_189 ?_
      refine va_sld hx hb hX hbl hbA hS hi1 dL_law_190 ?_
      refine law_ia (As := [.int (xs (nI (4 * k) + 1).toNatClampNeg)]) (rest := []) X cv_X8_put kw365 (fun A1 => (c_X8_put l D cA A1 ad ta cs (xs (nI (4 * k) + 1).toNatClampNeg) r cs' hc).toA) ⟨by decide, by decide⟩ ⟨rfl, rfl⟩ hP hPm hD hap hS (q0 := 0) (ci := 8) rfl rfl rfl rfl hl rfl (Nat.le_of_ble_eq_true rfl) dL_law_191 ⟨by show _ ≤ 157138; omega, by show _ ≤ 8630836; omega⟩ (fun ta H locs hP hPm hD hap hS => ?_)
      refine lv_aload_n hx hb dL_law_194 rfl (lv_at hl 2 rfl) ?_
      refine lv_aload_n hx hb dL_law_195 rfl (lv_at hl 0 rfl) ?_
      refine lv_iload_n hx hb dL_law_196 rfl (lv_at hl 3 rfl) ?_
      refine lv_iconst (v := 1) hx hb dL_law_197 (by decide) ?_
      refine lv_iadd hx hb dL_law_198 ?_
      refine va_sld hx hb hX hbl hbA hS hi1 dL_law_199 ?_
      refine law_ia (As := [.int (xs (nI (4 * k) + 1).toNatClampNeg)]) (rest := [.int r]) X cv_X9_put kw916 (fun A1 => (c_X9_put l D cA A1 am tm ms (xs (nI (4 * k) + 1).toNatClampNeg) r ms' hm).toA) ⟨by decide, by decide⟩ ⟨rfl, rfl⟩ hPm hP hDm hap.symm hS (q0 := 0) (ci := 9) rfl rfl rfl rfl hl rfl (Nat.le_of_ble_eq_true rfl) dL_law_200 ⟨by show _ ≤ 157138; omega, by show _ ≤ 8630836; omega⟩ (fun tm H locs hPm hP hDm hap hS => ?_)
      have hap := hap.symm
      refine lv_icmp_eq (tgt := 382) hx hb dL_law_203 (by decide) (fun _ => ?_) (fun q => absurd rfl q)
      refine lv_iinc (v := nI (4 * (k + 1))) (lv' := [(3, .int (nI (4 * (k + 1)))), (0, .ref b), (1, .ref (ad 0)), (2, .ref (am 0))]) hx hb dL_law_382 hl (k := 3) rfl (nI_add (4 * k) 4) (by decide) rfl (fun ls hl => ?_)
      refine lv_goto (tgt := 18) hx hb dL_law_385 (by decide) ?_
      refine W.widen (k := 90 + (k + 1)) (n := 90000 + 9600 * (k + 1)) (by omega) (by omega) ?_
      exact ih (k + 1) cs' ms' ta tm _ _ _ (by omega) (by omega) hR' hP hPm hD hDm hap hS (lv_sub hl [1, 2, 3, 0] rfl)
    by_cases c4 : v = 4
    · refine lv_tableIn (off := 176) (tgt := 208) hx hb dL_law_32 (by rw [c4]; decide) (by rw [c4]; decide) (by rw [c4]; decide) (by decide) ?_
      obtain ⟨r, cs', ms', hc, hm, hR'⟩ := h_rule k cs ms hk2 hR
      refine lv_aload_n hx hb dL_law_208 rfl (lv_at hl 1 rfl) ?_
      refine law_ia (As := []) (rest := []) X cv_X8_rule kw374 (fun A1 => (c_X8_rule l D cA A1 ad ta cs r cs' hc).toA) ⟨by decide, by decide⟩ ⟨rfl, rfl⟩ hP hPm hD hap hS (q0 := 0) (ci := 8) rfl rfl rfl rfl hl rfl (Nat.le_of_ble_eq_true rfl) dL_law_209 ⟨by show _ ≤ 157138; omega, by show _ ≤ 8630836; omega⟩ (fun ta H locs hP hPm hD hap hS => ?_)
      refine lv_aload_n hx hb dL_law_212 rfl (lv_at hl 2 rfl) ?_
      refine law_ia (As := []) (rest := [.int r]) X cv_X9_rule kw920 (fun A1 => (c_X9_rule l D cA A1 am tm ms r ms' hm).toA) ⟨by decide, by decide⟩ ⟨rfl, rfl⟩ hPm hP hDm hap.symm hS (q0 := 0) (ci := 9) rfl rfl rfl rfl hl rfl (Nat.le_of_ble_eq_true rfl) dL_law_213 ⟨by show _ ≤ 157138; omega, by show _ ≤ 8630836; omega⟩ (fun tm H locs hPm hP hDm hap hS => ?_)
      have hap := hap.symm
      refine lv_icmp_eq (tgt := 382) hx hb dL_law_216 (by decide) (fun _ => ?_) (fun q => absurd rfl q)
      refine lv_iinc (v := nI (4 * (k + 1))) (lv' := [(3, .int (nI (4 * (k + 1)))), (0, .ref b), (1, .ref (ad 0)), (2, .ref (am 0))]) hx hb dL_law_382 hl (k := 3) rfl (nI_add (4 * k) 4) (by decide) rfl (fun ls hl => ?_)
      refine lv_goto (tgt := 18) hx hb dL_law_385 (by decide) ?_
      refine W.widen (k := 90 + (k + 1)) (n := 90000 + 9600 * (k + 1)) (by omega) (by omega) ?_
      exact ih (k + 1) cs' ms' ta tm _ _ _ (by omega) (by omega) hR' hP hPm hD hDm hap hS (lv_sub hl [1, 2, 3, 0] rfl)
    by_cases c5 : v = 5
    · refine lv_tableIn (off := 189) (tgt := 221) hx hb dL_law_32 (by rw [c5]; decide) (by rw [c5]; decide) (by rw [c5]; decide) (by decide) ?_
      obtain ⟨r, cs', ms', hc, hm, hR'⟩ := h_lead k cs ms hk2 hR
      refine lv_aload_n hx hb dL_law_221 rfl (lv_at hl 1 rfl) ?_
      refine law_ia (As := []) (rest := []) X cv_X8_lead kw443 (fun A1 => c_X8_lead l D cA A1 ad ta cs r cs' hc) ⟨by decide, by decide⟩ ⟨rfl, rfl⟩ hP hPm hD hap hS (q0 := 0) (ci := 8) rfl rfl rfl rfl hl rfl (Nat.le_of_ble_eq_true rfl) dL_law_222 ⟨by show _ ≤ 157138; omega, by show _ ≤ 8630836; omega⟩ (fun ta H locs hP hPm hD hap hS => ?_)
      refine lv_aload_n hx hb dL_law_225 rfl (lv_at hl 2 rfl) ?_
      refine law_ia (As := []) (rest := [.int r]) X cv_X9_lead kw936 (fun A1 => (c_X9_lead l D cA A1 am tm ms r ms' hm).toA) ⟨by decide, by decide⟩ ⟨rfl, rfl⟩ hPm hP hDm hap.symm hS (q0 := 0) (ci := 9) rfl rfl rfl rfl hl rfl (Nat.le_of_ble_eq_true rfl) dL_law_226 ⟨by show _ ≤ 157138; omega, by show _ ≤ 8630836; omega⟩ (fun tm H locs hPm hP hDm hap hS => ?_)
      have hap := hap.symm
      refine lv_icmp_eq (tgt := 382) hx hb dL_law_229 (by decide) (fun _ => ?_) (fun q => absurd rfl q)
      refine lv_iinc (v := nI (4 * (k + 1))) (lv' := [(3, .int (nI (4 * (k + 1)))), (0, .ref b), (1, .ref (ad 0)), (2, .ref (am 0))]) hx hb dL_law_382 hl (k := 3) rfl (nI_add (4 * k) 4) (by decide) rfl (fun ls hl => ?_)
      refine lv_goto (tgt := 18) hx hb dL_law_385 (by decide) ?_
      refine W.widen (k := 90 + (k + 1)) (n := 90000 + 9600 * (k + 1)) (by omega) (by omega) ?_
      exact ih (k + 1) cs' ms' ta tm _ _ _ (by omega) (by omega) hR' hP hPm hD hDm hap hS (lv_sub hl [1, 2, 3, 0] rfl)
    by_cases c6 : v = 6
    · refine lv_tableIn (off := 202) (tgt := 234) hx hb dL_law_32 (by rw [c6]; decide) (by rw [c6]; decide) (by rw [c6]; decide) (by decide) ?_
      obtain ⟨r, cs', ms', hc, hm, hR'⟩ := h_outcome k cs ms (xs (nI (4 * k) + 1).toNatClampNeg) (xs (nI (4 * k) + 2).toNatClampNeg) hk2 hR
      refine lv_aload_n hx hb dL_law_234 rfl (lv_at hl 1 rfl) ?_
      refine lv_aload_n hx hb dL_law_235 rfl (lv_at hl 0 rfl) ?_
      refine lv_iload_n hx hb dL_law_236 rfl (lv_at hl 3 rfl) ?_
      refine lv_iconst (v := 1) hx hb dL_law_237 (by decide) ?_
      refine lv_iadd hx hb dL_law_238 ?_
      refine va_sld hx hb hX hbl hbA hS hi1 dL_law_239 ?_
      refine lv_aload_n hx hb dL_law_240 rfl (lv_at hl 0 rfl) ?_
      refine lv_iload_n hx hb dL_law_241 rfl (lv_at hl 3 rfl) ?_
      refine lv_iconst (v := 2) hx hb dL_law_242 (by decide) ?_
      refine lv_iadd hx hb dL_law_243 ?_
      refine va_sld hx hb hX hbl hbA hS hi2 dL_law_244 ?_
      refine law_ia (As := [.int (xs (nI (4 * k) + 1).toNatClampNeg), .int (xs (nI (4 * k) + 2).toNatClampNeg)]) (rest := []) X cv_X8_outcome kw598 (fun A1 => (c_X8_outcome l D cA A1 ad ta cs (xs (nI (4 * k) + 1).toNatClampNeg) (xs (nI (4 * k) + 2).toNatClampNeg) r cs' hc).toA) ⟨by decide, by decide⟩ ⟨rfl, rfl⟩ hP hPm hD hap hS (q0 := 0) (ci := 8) rfl rfl rfl rfl hl rfl (Nat.le_of_ble_eq_true rfl) dL_law_245 ⟨by show _ ≤ 157138; omega, by show _ ≤ 8630836; omega⟩ (fun ta H locs hP hPm hD hap hS => ?_)
      refine lv_aload_n hx hb dL_law_248 rfl (lv_at hl 2 rfl) ?_
      refine lv_aload_n hx hb dL_law_249 rfl (lv_at hl 0 rfl) ?_
      refine lv_iload_n hx hb dL_law_250 rfl (lv_at hl 3 rfl) ?_
      refine lv_iconst (v := 1) hx hb dL_law_251 (by decide) ?_
      refine lv_iadd hx hb dL_law_252 ?_
      refine va_sld hx hb hX hbl hbA hS hi1 dL_law_253 ?_
      refine lv_aload_n hx hb dL_law_254 rfl (lv_at hl 0 rfl) ?_
      refine lv_iload_n hx hb dL_law_255 rfl (lv_at hl 3 rfl) ?_
      refine lv_iconst (v := 2) hx hb dL_law_256 (by decide) ?_
      refine lv_iadd hx hb dL_law_257 ?_
      refine va_sld hx hb hX hbl hbA hS hi2 dL_law_258 ?_
      refine law_ia (As := [.int (xs (nI (4 * k) + 1).toNatClampNeg), .int (xs (nI (4 * k) + 2).toNatClampNeg)]) (rest := [.int r]) X cv_X9_outcome kw975 (fun A1 => (c_X9_outcome l D cA A1 am tm ms (xs (nI (4 * k) + 1).toNatClampNeg) (xs (nI (4 * k) + 2).toNatClampNeg) r ms' hm).toA) ⟨by decide, by decide⟩ ⟨rfl, rfl⟩ hPm hP hDm hap.symm hS (q0 := 0) (ci := 9) rfl rfl rfl rfl hl rfl (Nat.le_of_ble_eq_true rfl) dL_law_259 ⟨by show _ ≤ 157138; omega, by show _ ≤ 8630836; omega⟩ (fun tm H locs hPm hP hDm hap hS => ?_)
      have hap := hap.symm
      refine lv_icmp_eq (tgt := 382) hx hb dL_law_262 (by decide) (fun _ => ?_) (fun q => absurd rfl q)
      refine lv_iinc (v := nI (4 * (k + 1))) (lv' := [(3, .int (nI (4 * (k + 1)))), (0, .ref b), (1, .ref (ad 0)), (2, .ref (am 0))]) hx hb dL_law_382 hl (k := 3) rfl (nI_add (4 * k) 4) (by decide) rfl (fun ls hl => ?_)
      refine lv_goto (tgt := 18) hx hb dL_law_385 (by decide) ?_
      refine W.widen (k := 90 + (k + 1)) (n := 90000 + 9600 * (k + 1)) (by omega) (by omega) ?_
      exact ih (k + 1) cs' ms' ta tm _ _ _ (by omega) (by omega) hR' hP hPm hD hDm hap hS (lv_sub hl [1, 2, 3, 0] rfl)
    by_cases c7 : v = 7
    · refine lv_tableIn (off := 235) (tgt := 267) hx hb dL_law_32 (by rw [c7]; decide) (by rw [c7]; decide) (by rw [c7]; decide) (by decide) ?_
      obtain ⟨r, cs', ms', hc, hm, hR'⟩ := h_size k cs ms hk2 hR
      refine lv_aload_n hx hb dL_law_267 rfl (lv_at hl 1 rfl) ?_
      refine law_ia (As := []) (rest := []) X cv_X8_size kw607 (fun A1 => (c_X8_size l D cA A1 ad ta cs r cs' hc).toA) ⟨by decide, by decide⟩ ⟨rfl, rfl⟩ hP hPm hD hap hS (q0 := 0) (ci := 8) rfl rfl rfl rfl hl rfl (Nat.le_of_ble_eq_true rfl) dL_law_268 ⟨by show _ ≤ 157138; omega, by show _ ≤ 8630836; omega⟩ (fun ta H locs hP hPm hD hap hS => ?_)
      refine lv_aload_n hx hb dL_law_271 rfl (lv_at hl 2 rfl) ?_
      refine law_ia (As := []) (rest := [.int r]) X cv_X9_size kw979 (fun A1 => (c_X9_size l D cA A1 am tm ms r ms' hm).toA) ⟨by decide, by decide⟩ ⟨rfl, rfl⟩ hPm hP hDm hap.symm hS (q0 := 0) (ci := 9) rfl rfl rfl rfl hl rfl (Nat.le_of_ble_eq_true rfl) dL_law_272 ⟨by show _ ≤ 157138; omega, by show _ ≤ 8630836; omega⟩ (fun tm H locs hPm hP hDm hap hS => ?_)
      have hap := hap.symm
      refine lv_icmp_eq (tgt := 382) hx hb dL_law_275 (by decide) (fun _ => ?_) (fun q => absurd rfl q)
      refine lv_iinc (v := nI (4 * (k + 1))) (lv' := [(3, .int (nI (4 * (k + 1)))), (0, .ref b), (1, .ref (ad 0)), (2, .ref (am 0))]) hx hb dL_law_382 hl (k := 3) rfl (nI_add (4 * k) 4) (by decide) rfl (fun ls hl => ?_)
      refine lv_goto (tgt := 18) hx hb dL_law_385 (by decide) ?_
      refine W.widen (k := 90 + (k + 1)) (n := 90000 + 9600 * (k + 1)) (by omega) (by omega) ?_
      exact ih (k + 1) cs' ms' ta tm _ _ _ (by omega) (by omega) hR' hP hPm hD hDm hap hS (lv_sub hl [1, 2, 3, 0] rfl)
    by_cases c8 : v = 8
    · refine lv_tableIn (off := 248) (tgt := 280) hx hb dL_law_32 (by rw [c8]; decide) (by rw [c8]; decide) (by rw [c8]; decide) (by decide) ?_
      obtain ⟨r, cs', ms', hc, hm, hR'⟩ := h_node k cs ms (xs (nI (4 * k) + 1).toNatClampNeg) (xs (nI (4 * k) + 2).toNatClampNeg) hk2 hR
      refine lv_aload_n hx hb dL_law_280 rfl (lv_at hl 1 rfl) ?_
      refine lv_aload_n hx hb dL_law_281 rfl (lv_at hl 0 rfl) ?_
      refine lv_iload_n hx hb dL_law_282 rfl (lv_at hl 3 rfl) ?_
      refine lv_iconst (v := 1) hx hb dL_law_283 (by decide) ?_
      refine lv_iadd hx hb dL_law_284 ?_
      refine va_sld hx hb hX hbl hbA hS hi1 dL_law_285 ?_
      refine lv_aload_n hx hb dL_law_286 rfl (lv_at hl 0 rfl) ?_
      refine lv_iload_n hx hb dL_law_287 rfl (lv_at hl 3 rfl) ?_
      refine lv_iconst (v := 2) hx hb dL_law_288 (by decide) ?_
      refine lv_iadd hx hb dL_law_289 ?_
      refine va_sld hx hb hX hbl hbA hS hi2 dL_law_290 ?_
      refine law_ia (As := [.int (xs (nI (4 * k) + 1).toNatClampNeg), .int (xs (nI (4 * k) + 2).toNatClampNeg)]) (rest := []) X cv_X8_node kw611 (fun A1 => (c_X8_node l D cA A1 ad ta cs (xs (nI (4 * k) + 1).toNatClampNeg) (xs (nI (4 * k) + 2).toNatClampNeg) r cs' hc).toA) ⟨by decide, by decide⟩ ⟨rfl, rfl⟩ hP hPm hD hap hS (q0 := 0) (ci := 8) rfl rfl rfl rfl hl rfl (Nat.le_of_ble_eq_true rfl) dL_law_291 ⟨by show _ ≤ 157138; omega, by show _ ≤ 8630836; omega⟩ (fun ta H locs hP hPm hD hap hS => ?_)
      refine lv_aload_n hx hb dL_law_294 rfl (lv_at hl 2 rfl) ?_
      refine lv_aload_n hx hb dL_law_295 rfl (lv_at hl 0 rfl) ?_
      refine lv_iload_n hx hb dL_law_296 rfl (lv_at hl 3 rfl) ?_
      refine lv_iconst (v := 1) hx hb dL_law_297 (by decide) ?_
      refine lv_iadd hx hb dL_law_298 ?_
      refine va_sld hx hb hX hbl hbA hS hi1 dL_law_299 ?_
      refine lv_aload_n hx hb dL_law_300 rfl (lv_at hl 0 rfl) ?_
      refine lv_iload_n hx hb dL_law_301 rfl (lv_at hl 3 rfl) ?_
      refine lv_iconst (v := 2) hx hb dL_law_302 (by decide) ?_
      refine lv_iadd hx hb dL_law_303 ?_
      refine va_sld hx hb hX hbl hbA hS hi2 dL_law_304 ?_
      refine law_ia (As := [.int (xs (nI (4 * k) + 1).toNatClampNeg), .int (xs (nI (4 * k) + 2).toNatClampNeg)]) (rest := [.int r]) X cv_X9_node_ kw983 (fun A1 => (c_X9_node_ l D cA A1 am tm ms (xs (nI (4 * k) + 1).toNatClampNeg) (xs (nI (4 * k) + 2).toNatClampNeg) r ms' hm).toA) ⟨by decide, by decide⟩ ⟨rfl, rfl⟩ hPm hP hDm hap.symm hS (q0 := 0) (ci := 9) rfl rfl rfl rfl hl rfl (Nat.le_of_ble_eq_true rfl) dL_law_305 ⟨by show _ ≤ 157138; omega, by show _ ≤ 8630836; omega⟩ (fun tm H locs hPm hP hDm hap hS => ?_)
      have hap := hap.symm
      refine lv_icmp_eq (tgt := 382) hx hb dL_law_308 (by decide) (fun _ => ?_) (fun q => absurd rfl q)
      refine lv_iinc (v := nI (4 * (k + 1))) (lv' := [(3, .int (nI (4 * (k + 1)))), (0, .ref b), (1, .ref (ad 0)), (2, .ref (am 0))]) hx hb dL_law_382 hl (k := 3) rfl (nI_add (4 * k) 4) (by decide) rfl (fun ls hl => ?_)
      refine lv_goto (tgt := 18) hx hb dL_law_385 (by decide) ?_
      refine W.widen (k := 90 + (k + 1)) (n := 90000 + 9600 * (k + 1)) (by omega) (by omega) ?_
      exact ih (k + 1) cs' ms' ta tm _ _ _ (by omega) (by omega) hR' hP hPm hD hDm hap hS (lv_sub hl [1, 2, 3, 0] rfl)
    by_cases c9 : v = 9
    · refine lv_tableIn (off := 281) (tgt := 313) hx hb dL_law_32 (by rw [c9]; decide) (by rw [c9]; decide) (by rw [c9]; decide) (by decide) ?_
      obtain ⟨r, cs', ms', hc, hm, hR'⟩ := h_covers k cs ms hk2 hR
      refine lv_aload_n hx hb dL_law_313 rfl (lv_at hl 1 rfl) ?_
      refine law_ia (As := []) (rest := []) X cv_X8_covers kw633 (fun A1 => (c_X8_covers l D cA A1 ad ta cs r cs' hc).toA) ⟨by decide, by decide⟩ ⟨rfl, rfl⟩ hP hPm hD hap hS (q0 := 0) (ci := 8) rfl rfl rfl rfl hl rfl (Nat.le_of_ble_eq_true rfl) dL_law_314 ⟨by show _ ≤ 157138; omega, by show _ ≤ 8630836; omega⟩ (fun ta H locs hP hPm hD hap hS => ?_)
      refine lv_aload_n hx hb dL_law_317 rfl (lv_at hl 2 rfl) ?_
      refine law_ia (As := []) (rest := [.int r]) X cv_X9_covers kw991 (fun A1 => (c_X9_covers l D cA A1 am tm ms r ms' hm).toA) ⟨by decide, by decide⟩ ⟨rfl, rfl⟩ hPm hP hDm hap.symm hS (q0 := 0) (ci := 9) rfl rfl rfl rfl hl rfl (Nat.le_of_ble_eq_true rfl) dL_law_318 ⟨by show _ ≤ 157138; omega, by show _ ≤ 8630836; omega⟩ (fun tm H locs hPm hP hDm hap hS => ?_)
      have hap := hap.symm
      refine lv_icmp_eq (tgt := 382) hx hb dL_law_321 (by decide) (fun _ => ?_) (fun q => absurd rfl q)
      refine lv_iinc (v := nI (4 * (k + 1))) (lv' := [(3, .int (nI (4 * (k + 1)))), (0, .ref b), (1, .ref (ad 0)), (2, .ref (am 0))]) hx hb dL_law_382 hl (k := 3) rfl (nI_add (4 * k) 4) (by decide) rfl (fun ls hl => ?_)
      refine lv_goto (tgt := 18) hx hb dL_law_385 (by decide) ?_
      refine W.widen (k := 90 + (k + 1)) (n := 90000 + 9600 * (k + 1)) (by omega) (by omega) ?_
      exact ih (k + 1) cs' ms' ta tm _ _ _ (by omega) (by omega) hR' hP hPm hD hDm hap hS (lv_sub hl [1, 2, 3, 0] rfl)
    by_cases c10 : v = 10
    · refine lv_tableIn (off := 294) (tgt := 326) hx hb dL_law_32 (by rw [c10]; decide) (by rw [c10]; decide) (by rw [c10]; decide) (by decide) ?_
      obtain ⟨r, cs', ms', hc, hm, hR'⟩ := h_clash k cs ms (xs (nI (4 * k) + 1).toNatClampNeg) (xs (nI (4 * k) + 2).toNatClampNeg) hk2 hR
      refine lv_aload_n hx hb dL_law_326 rfl (lv_at hl 1 rfl) ?_
      refine lv_aload_n hx hb dL_law_327 rfl (lv_at hl 0 rfl) ?_
      refine lv_iload_n hx hb dL_law_328 rfl (lv_at hl 3 rfl) ?_
      refine lv_iconst (v := 1) hx hb dL_law_329 (by decide) ?_
      refine lv_iadd hx hb dL_law_330 ?_
      refine va_sld hx hb hX hbl hbA hS hi1 dL_law_331 ?_
      refine lv_aload_n hx hb dL_law_332 rfl (lv_at hl 0 rfl) ?_
      refine lv_iload_n hx hb dL_law_333 rfl (lv_at hl 3 rfl) ?_
      refine lv_iconst (v := 2) hx hb dL_law_334 (by decide) ?_
      refine lv_iadd hx hb dL_law_335 ?_
      refine va_sld hx hb hX hbl hbA hS hi2 dL_law_336 ?_
      refine law_ia (As := [.int (xs (nI (4 * k) + 1).toNatClampNeg), .int (xs (nI (4 * k) + 2).toNatClampNeg)]) (rest := []) X cv_X8_clash kw651 (fun A1 => (c_X8_clash l D cA A1 ad ta cs (xs (nI (4 * k) + 1).toNatClampNeg) (xs (nI (4 * k) + 2).toNatClampNeg) r cs' hc).toA) ⟨by decide, by decide⟩ ⟨rfl, rfl⟩ hP hPm hD hap hS (q0 := 0) (ci := 8) rfl rfl rfl rfl hl rfl (Nat.le_of_ble_eq_true rfl) dL_law_337 ⟨by show _ ≤ 157138; omega, by show _ ≤ 8630836; omega⟩ (fun ta H locs hP hPm hD hap hS => ?_)
      refine lv_aload_n hx hb dL_law_340 rfl (lv_at hl 2 rfl) ?_
      refine lv_aload_n hx hb dL_law_341 rfl (lv_at hl 0 rfl) ?_
      refine lv_iload_n hx hb dL_law_342 rfl (lv_at hl 3 rfl) ?_
      refine lv_iconst (v := 1) hx hb dL_law_343 (by decide) ?_
      refine lv_iadd hx hb dL_law_344 ?_
      refine va_sld hx hb hX hbl hbA hS hi1 dL_law_345 ?_
      refine lv_aload_n hx hb dL_law_346 rfl (lv_at hl 0 rfl) ?_
      refine lv_iload_n hx hb dL_law_347 rfl (lv_at hl 3 rfl) ?_
      refine lv_iconst (v := 2) hx hb dL_law_348 (by decide) ?_
      refine lv_iadd hx hb dL_law_349 ?_
      refine va_sld hx hb hX hbl hbA hS hi2 dL_law_350 ?_
      refine law_ia (As := [.int (xs (nI (4 * k) + 1).toNatClampNeg), .int (xs (nI (4 * k) + 2).toNatClampNeg)]) (rest := [.int r]) X cv_X9_clash kw995 (fun A1 => (c_X9_clash l D cA A1 am tm ms (xs (nI (4 * k) + 1).toNatClampNeg) (xs (nI (4 * k) + 2).toNatClampNeg) r ms' hm).toA) ⟨by decide, by decide⟩ ⟨rfl, rfl⟩ hPm hP hDm hap.symm hS (q0 := 0) (ci := 9) rfl rfl rfl rfl hl rfl (Nat.le_of_ble_eq_true rfl) dL_law_351 ⟨by show _ ≤ 157138; omega, by show _ ≤ 8630836; omega⟩ (fun tm H locs hPm hP hDm hap hS => ?_)
      have hap := hap.symm
      refine lv_icmp_eq (tgt := 382) hx hb dL_law_354 (by decide) (fun _ => ?_) (fun q => absurd rfl q)
      refine lv_iinc (v := nI (4 * (k + 1))) (lv' := [(3, .int (nI (4 * (k + 1)))), (0, .ref b), (1, .ref (ad 0)), (2, .ref (am 0))]) hx hb dL_law_382 hl (k := 3) rfl (nI_add (4 * k) 4) (by decide) rfl (fun ls hl => ?_)
      refine lv_goto (tgt := 18) hx hb dL_law_385 (by decide) ?_
      refine W.widen (k := 90 + (k + 1)) (n := 90000 + 9600 * (k + 1)) (by omega) (by omega) ?_
      exact ih (k + 1) cs' ms' ta tm _ _ _ (by omega) (by omega) hR' hP hPm hD hDm hap hS (lv_sub hl [1, 2, 3, 0] rfl)
    by_cases c11 : v = 11
    · refine lv_tableIn (off := 327) (tgt := 359) hx hb dL_law_32 (by rw [c11]; decide) (by rw [c11]; decide) (by rw [c11]; decide) (by decide) ?_
      obtain ⟨r, cs', ms', hc, hm, hR'⟩ := h_count k cs ms (xs (nI (4 * k) + 1).toNatClampNeg) hk2 hR
      refine lv_aload_n hx hb dL_law_359 rfl (lv_at hl 1 rfl) ?_
      refine lv_aload_n hx hb dL_law_360 rfl (lv_at hl 0 rfl) ?_
      refine lv_iload_n hx hb dL_law_361 rfl (lv_at hl 3 rfl) ?_
      refine lv_iconst (v := 1) hx hb dL_law_362 (by decide) ?_
      refine lv_iadd hx hb dL_law_363 ?_
      refine va_sld hx hb hX hbl hbA hS hi1 dL_law_364 ?_
      refine law_ia (As := [.int (xs (nI (4 * k) + 1).toNatClampNeg)]) (rest := []) X cv_X8_count kw660 (fun A1 => (c_X8_count l D cA A1 ad ta cs (xs (nI (4 * k) + 1).toNatClampNeg) r cs' hc).toA) ⟨by decide, by decide⟩ ⟨rfl, rfl⟩ hP hPm hD hap hS (q0 := 0) (ci := 8) rfl rfl rfl rfl hl rfl (Nat.le_of_ble_eq_true rfl) dL_law_365 ⟨by show _ ≤ 157138; omega, by show _ ≤ 8630836; omega⟩ (fun ta H locs hP hPm hD hap hS => ?_)
      refine lv_aload_n hx hb dL_law_368 rfl (lv_at hl 2 rfl) ?_
      refine lv_aload_n hx hb dL_law_369 rfl (lv_at hl 0 rfl) ?_
      refine lv_iload_n hx hb dL_law_370 rfl (lv_at hl 3 rfl) ?_
      refine lv_iconst (v := 1) hx hb dL_law_371 (by decide) ?_
      refine lv_iadd hx hb dL_law_372 ?_
      refine va_sld hx hb hX hbl hbA hS hi1 dL_law_373 ?_
      refine law_ia (As := [.int (xs (nI (4 * k) + 1).toNatClampNeg)]) (rest := [.int r]) X cv_X9_count kw999 (fun A1 => (c_X9_count l D cA A1 am tm ms (xs (nI (4 * k) + 1).toNatClampNeg) r ms' hm).toA) ⟨by decide, by decide⟩ ⟨rfl, rfl⟩ hPm hP hDm hap.symm hS (q0 := 0) (ci := 9) rfl rfl rfl rfl hl rfl (Nat.le_of_ble_eq_true rfl) dL_law_374 ⟨by show _ ≤ 157138; omega, by show _ ≤ 8630836; omega⟩ (fun tm H locs hPm hP hDm hap hS => ?_)
      have hap := hap.symm
      refine lv_icmp_eq (tgt := 382) hx hb dL_law_377 (by decide) (fun _ => ?_) (fun q => absurd rfl q)
      refine lv_iinc (v := nI (4 * (k + 1))) (lv' := [(3, .int (nI (4 * (k + 1)))), (0, .ref b), (1, .ref (ad 0)), (2, .ref (am 0))]) hx hb dL_law_382 hl (k := 3) rfl (nI_add (4 * k) 4) (by decide) rfl (fun ls hl => ?_)
      refine lv_goto (tgt := 18) hx hb dL_law_385 (by decide) ?_
      refine W.widen (k := 90 + (k + 1)) (n := 90000 + 9600 * (k + 1)) (by omega) (by omega) ?_
      exact ih (k + 1) cs' ms' ta tm _ _ _ (by omega) (by omega) hR' hP hPm hD hDm hap hS (lv_sub hl [1, 2, 3, 0] rfl)
    refine lv_tableOut (tgt := 382) hx hb dL_law_32 (by have q0 := lv_neT c0 (a := 0) rfl; have q1 := lv_neT c1 (a := 1) rfl; have q2 := lv_neT c2 (a := 2) rfl; have q3 := lv_neT c3 (a := 3) rfl; have q4 := lv_neT c4 (a := 4) rfl; have q5 := lv_neT c5 (a := 5) rfl; have q6 := lv_neT c6 (a := 6) rfl; have q7 := lv_neT c7 (a := 7) rfl; have q8 := lv_neT c8 (a := 8) rfl; have q9 := lv_neT c9 (a := 9) rfl; have q10 := lv_neT c10 (a := 10) rfl; have q11 := lv_neT c11 (a := 11) rfl; omega) (by decide) ?_
    refine lv_iinc (v := nI (4 * (k + 1))) (lv' := [(3, .int (nI (4 * (k + 1)))), (0, .ref b), (1, .ref (ad 0)), (2, .ref (am 0))]) hx hb dL_law_382 hl (k := 3) rfl (nI_add (4 * k) 4) (by decide) rfl (fun ls hl => ?_)
    refine lv_goto (tgt := 18) hx hb dL_law_385 (by decide) ?_
    refine W.widen (k := 90 + (k + 1)) (n := 90000 + 9600 * (k + 1)) (by omega) (by omega) ?_
    exact ih (k + 1) cs ms ta tm _ _ _ (by omega) (by omega) (hskip k cs ms hk2 hR) hP hPm hD hDm hap hS (lv_sub hl [1, 2, 3, 0] rfl)
