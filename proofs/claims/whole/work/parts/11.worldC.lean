def wC (cA : ClassId) (ad : Nat → Nat) (ta : Nat) (σ : St) : va_W := [
  (ad 0, .inr (8, [.ref (ad 1), .ref (ad 2), .ref (ad 3), .ref (ad 4), .ref (ad 5), .ref (ad 6), .ref (ad 7), .ref (ad 8), .int (gF σ 0)])),
  (ad 1, .inr (4, [.ref (ad 9), .ref (ad 10), .ref (ad 11), .int (gF σ 1), .int (gF σ 2), .int (gF σ 3), .int (gF σ 4)])),
  (ad 2, .inr (2, [.ref (ad 12), .ref (ad 13), .ref (ad 14), .ref (ad 15), .ref (ad 16), .int (gF σ 5), .int (gF σ 6), .int (gF σ 7)])),
  (ad 3, .inr (3, [.ref (ad 17), .ref (ad 18), .ref (ad 19), .ref (ad 20), .ref (ad 21), .ref (ad 22), .int (gF σ 8)])),
  (ad 4, .inr (6, [.ref (ad 23), .ref (ad 24), .ref (ad 25), .ref (ad 26), .ref (ad 27), .ref (ad 28), .int (gF σ 9)])),
  (ad 5, .inr (1, [.ref (ad 3), .ref (ad 4), .ref (ad 29), .ref (ad 30), .ref (ad 31), .ref (ad 32), .int (gF σ 10)])),
  (ad 6, .inr (5, [.ref (ad 1), .ref (ad 33), .ref (ad 34), .ref (ad 35), .ref (ad 36), .ref (ad 37), .ref (ad 38), .ref (ad 39), .int (gF σ 11), .int (gF σ 12), .int (gF σ 13), .int (gF σ 14)])),
  (ad 7, .inr (0, [.ref (ad 40), .ref (ad 41), .ref (ad 42), .ref (ad 43), .ref ta, .int (gF σ 15)])),
  (ad 8, .inr (7, [.ref (ad 3), .ref (ad 4), .ref (ad 6), .ref (ad 7), .ref (ad 44), .ref (ad 45), .ref (ad 46), .ref (ad 47)])),
  (ad 9, .inl (cA, 60, .inl (gA σ 9))),
  (ad 10, .inl (cA, 60, .inl (gA σ 10))),
  (ad 11, .inl (cA, 60, .inl (gA σ 11))),
  (ad 12, .inl (cA, 160, .inl (gA σ 12))),
  (ad 13, .inl (cA, 160, .inl (gA σ 13))),
  (ad 14, .inl (cA, 160, .inl (gA σ 14))),
  (ad 15, .inl (cA, 160, .inl (gA σ 15))),
  (ad 16, .inl (cA, 8, .inl (gA σ 16))),
  (ad 17, .inl (cA, 25, .inl (gA σ 17))),
  (ad 18, .inl (cA, 512, .inl (gA σ 18))),
  (ad 19, .inl (cA, 512, .inl (gA σ 19))),
  (ad 20, .inl (cA, 512, .inl (gA σ 20))),
  (ad 21, .inl (cA, 512, .inl (gA σ 21))),
  (ad 22, .inl (cA, 512, .inl (gA σ 22))),
  (ad 23, .inl (cA, 560, .inl (gA σ 23))),
  (ad 24, .inl (cA, 560, .inl (gA σ 24))),
  (ad 25, .inl (cA, 560, .inl (gA σ 25))),
  (ad 26, .inl (cA, 560, .inl (gA σ 26))),
  (ad 27, .inl (cA, 560, .inl (gA σ 27))),
  (ad 28, .inl (cA, 186, .inl (gA σ 28))),
  (ad 29, .inl (cA, 24, .inl (gA σ 29))),
  (ad 30, .inl (cA, 24, .inl (gA σ 30))),
  (ad 31, .inl (cA, 24, .inl (gA σ 31))),
  (ad 32, .inl (cA, 24, .inl (gA σ 32))),
  (ad 33, .inl (cA, 808, .inl (gA σ 33))),
  (ad 34, .inl (cA, 808, .inl (gA σ 34))),
  (ad 35, .inl (cA, 808, .inl (gA σ 35))),
  (ad 36, .inl (cA, 808, .inl (gA σ 36))),
  (ad 37, .inl (cA, 808, .inl (gA σ 37))),
  (ad 38, .inl (cA, 160, .inl (gA σ 38))),
  (ad 39, .inl (cA, 400, .inl (gA σ 39))),
  (ad 40, .inl (cA, 24, .inl (gA σ 40))),
  (ad 41, .inl (cA, 24, .inl (gA σ 41))),
  (ad 42, .inl (cA, 24, .inl (gA σ 42))),
  (ad 43, .inl (cA, 24, .inl (gA σ 43))),
  (ad 44, .inl (cA, 187, .inl (gA σ 44))),
  (ad 45, .inl (cA, 187, .inl (gA σ 45))),
  (ad 46, .inl (cA, 187, .inl (gA σ 46))),
  (ad 47, .inl (cA, 187, .inl (gA σ 47))),
  (ta, .inl (cA, (gF σ 16).toNatClampNeg, .inl (gA σ 48)))]
section ROWSC
variable {p : Program} {l : Launch} {e : Env} {R : Room} {s : State} {m : MethodId} {args : Array Value} {below : List Frame} {meth : Method} {c : Code} {H : Heap} {locs : List Loc} {cells slots : Nat} {Q : State → Prop}
variable {D : va_G} {cA : ClassId} {A : Nat → Prop} {own : String} {cc : ByteArray} {nL pc index : Nat} {rt : Option FieldType} {ls : Array Slot} {ad : Nat → Nat} {ta : Nat} {σ : St} {v : Int32} {rest : List Value}
theorem wC_a9 (f : Nat → Int32) : (wC cA ad ta σ).set 9 ((ad 9), .inl (cA, 60, .inl f)) = wC cA ad ta (sA σ 9 f) := rfl
theorem wC_a10 (f : Nat → Int32) : (wC cA ad ta σ).set 10 ((ad 10), .inl (cA, 60, .inl f)) = wC cA ad ta (sA σ 10 f) := rfl
theorem wC_a11 (f : Nat → Int32) : (wC cA ad ta σ).set 11 ((ad 11), .inl (cA, 60, .inl f)) = wC cA ad ta (sA σ 11 f) := rfl
theorem wC_a12 (f : Nat → Int32) : (wC cA ad ta σ).set 12 ((ad 12), .inl (cA, 160, .inl f)) = wC cA ad ta (sA σ 12 f) := rfl
theorem wC_a13 (f : Nat → Int32) : (wC cA ad ta σ).set 13 ((ad 13), .inl (cA, 160, .inl f)) = wC cA ad ta (sA σ 13 f) := rfl
theorem wC_a14 (f : Nat → Int32) : (wC cA ad ta σ).set 14 ((ad 14), .inl (cA, 160, .inl f)) = wC cA ad ta (sA σ 14 f) := rfl
theorem wC_a15 (f : Nat → Int32) : (wC cA ad ta σ).set 15 ((ad 15), .inl (cA, 160, .inl f)) = wC cA ad ta (sA σ 15 f) := rfl
theorem wC_a16 (f : Nat → Int32) : (wC cA ad ta σ).set 16 ((ad 16), .inl (cA, 8, .inl f)) = wC cA ad ta (sA σ 16 f) := rfl
theorem wC_a17 (f : Nat → Int32) : (wC cA ad ta σ).set 17 ((ad 17), .inl (cA, 25, .inl f)) = wC cA ad ta (sA σ 17 f) := rfl
theorem wC_a18 (f : Nat → Int32) : (wC cA ad ta σ).set 18 ((ad 18), .inl (cA, 512, .inl f)) = wC cA ad ta (sA σ 18 f) := rfl
theorem wC_a19 (f : Nat → Int32) : (wC cA ad ta σ).set 19 ((ad 19), .inl (cA, 512, .inl f)) = wC cA ad ta (sA σ 19 f) := rfl
theorem wC_a20 (f : Nat → Int32) : (wC cA ad ta σ).set 20 ((ad 20), .inl (cA, 512, .inl f)) = wC cA ad ta (sA σ 20 f) := rfl
theorem wC_a21 (f : Nat → Int32) : (wC cA ad ta σ).set 21 ((ad 21), .inl (cA, 512, .inl f)) = wC cA ad ta (sA σ 21 f) := rfl
theorem wC_a22 (f : Nat → Int32) : (wC cA ad ta σ).set 22 ((ad 22), .inl (cA, 512, .inl f)) = wC cA ad ta (sA σ 22 f) := rfl
theorem wC_a23 (f : Nat → Int32) : (wC cA ad ta σ).set 23 ((ad 23), .inl (cA, 560, .inl f)) = wC cA ad ta (sA σ 23 f) := rfl
theorem wC_a24 (f : Nat → Int32) : (wC cA ad ta σ).set 24 ((ad 24), .inl (cA, 560, .inl f)) = wC cA ad ta (sA σ 24 f) := rfl
theorem wC_a25 (f : Nat → Int32) : (wC cA ad ta σ).set 25 ((ad 25), .inl (cA, 560, .inl f)) = wC cA ad ta (sA σ 25 f) := rfl
theorem wC_a26 (f : Nat → Int32) : (wC cA ad ta σ).set 26 ((ad 26), .inl (cA, 560, .inl f)) = wC cA ad ta (sA σ 26 f) := rfl
theorem wC_a27 (f : Nat → Int32) : (wC cA ad ta σ).set 27 ((ad 27), .inl (cA, 560, .inl f)) = wC cA ad ta (sA σ 27 f) := rfl
theorem wC_a28 (f : Nat → Int32) : (wC cA ad ta σ).set 28 ((ad 28), .inl (cA, 186, .inl f)) = wC cA ad ta (sA σ 28 f) := rfl
theorem wC_a29 (f : Nat → Int32) : (wC cA ad ta σ).set 29 ((ad 29), .inl (cA, 24, .inl f)) = wC cA ad ta (sA σ 29 f) := rfl
theorem wC_a30 (f : Nat → Int32) : (wC cA ad ta σ).set 30 ((ad 30), .inl (cA, 24, .inl f)) = wC cA ad ta (sA σ 30 f) := rfl
theorem wC_a31 (f : Nat → Int32) : (wC cA ad ta σ).set 31 ((ad 31), .inl (cA, 24, .inl f)) = wC cA ad ta (sA σ 31 f) := rfl
theorem wC_a32 (f : Nat → Int32) : (wC cA ad ta σ).set 32 ((ad 32), .inl (cA, 24, .inl f)) = wC cA ad ta (sA σ 32 f) := rfl
theorem wC_a33 (f : Nat → Int32) : (wC cA ad ta σ).set 33 ((ad 33), .inl (cA, 808, .inl f)) = wC cA ad ta (sA σ 33 f) := rfl
theorem wC_a34 (f : Nat → Int32) : (wC cA ad ta σ).set 34 ((ad 34), .inl (cA, 808, .inl f)) = wC cA ad ta (sA σ 34 f) := rfl
theorem wC_a35 (f : Nat → Int32) : (wC cA ad ta σ).set 35 ((ad 35), .inl (cA, 808, .inl f)) = wC cA ad ta (sA σ 35 f) := rfl
theorem wC_a36 (f : Nat → Int32) : (wC cA ad ta σ).set 36 ((ad 36), .inl (cA, 808, .inl f)) = wC cA ad ta (sA σ 36 f) := rfl
theorem wC_a37 (f : Nat → Int32) : (wC cA ad ta σ).set 37 ((ad 37), .inl (cA, 808, .inl f)) = wC cA ad ta (sA σ 37 f) := rfl
theorem wC_a38 (f : Nat → Int32) : (wC cA ad ta σ).set 38 ((ad 38), .inl (cA, 160, .inl f)) = wC cA ad ta (sA σ 38 f) := rfl
theorem wC_a39 (f : Nat → Int32) : (wC cA ad ta σ).set 39 ((ad 39), .inl (cA, 400, .inl f)) = wC cA ad ta (sA σ 39 f) := rfl
theorem wC_a40 (f : Nat → Int32) : (wC cA ad ta σ).set 40 ((ad 40), .inl (cA, 24, .inl f)) = wC cA ad ta (sA σ 40 f) := rfl
theorem wC_a41 (f : Nat → Int32) : (wC cA ad ta σ).set 41 ((ad 41), .inl (cA, 24, .inl f)) = wC cA ad ta (sA σ 41 f) := rfl
theorem wC_a42 (f : Nat → Int32) : (wC cA ad ta σ).set 42 ((ad 42), .inl (cA, 24, .inl f)) = wC cA ad ta (sA σ 42 f) := rfl
theorem wC_a43 (f : Nat → Int32) : (wC cA ad ta σ).set 43 ((ad 43), .inl (cA, 24, .inl f)) = wC cA ad ta (sA σ 43 f) := rfl
theorem wC_a44 (f : Nat → Int32) : (wC cA ad ta σ).set 44 ((ad 44), .inl (cA, 187, .inl f)) = wC cA ad ta (sA σ 44 f) := rfl
theorem wC_a45 (f : Nat → Int32) : (wC cA ad ta σ).set 45 ((ad 45), .inl (cA, 187, .inl f)) = wC cA ad ta (sA σ 45 f) := rfl
theorem wC_a46 (f : Nat → Int32) : (wC cA ad ta σ).set 46 ((ad 46), .inl (cA, 187, .inl f)) = wC cA ad ta (sA σ 46 f) := rfl
theorem wC_a47 (f : Nat → Int32) : (wC cA ad ta σ).set 47 ((ad 47), .inl (cA, 187, .inl f)) = wC cA ad ta (sA σ 47 f) := rfl
theorem wC_a48 (f : Nat → Int32) : (wC cA ad ta σ).set 48 (ta, .inl (cA, (gF σ 16).toNatClampNeg, .inl f)) = wC cA ad ta (sA σ 48 f) := rfl
theorem gC_Out_asks (X : Fx p s m meth c D cA A own cc nL rt) (hP : va_P D vwCl (wC cA ad ta σ) H) (hlk : Cond.fieldLink own index "NeededTrees$Outcomes" "asks" "[I" ∈ lw_tbl) (hdg : decode cc pc = .ok (.getfield index, 3)) (kk : W p l e R s m args below meth c H locs cells slots Q (F0 m (pc + 3) ls (.ref (ad 41) :: rest))) : W p l e R s m args below meth c H locs cells slots Q (F0 m pc ls (.ref (ad 7) :: rest)) := by
  obtain ⟨hx, hb, -, -, hown, -, hE, hK, -⟩ := X
  exact va_get hx hb (hE.use args) inG0 hown hK hP 7 rfl rfl 1 (by decide) (hE.at args hlk) (fun _ h => h) rfl hdg kk
theorem gC_Out_freeAsks (X : Fx p s m meth c D cA A own cc nL rt) (hP : va_P D vwCl (wC cA ad ta σ) H) (hlk : Cond.fieldLink own index "NeededTrees$Outcomes" "freeAsks" "[I" ∈ lw_tbl) (hdg : decode cc pc = .ok (.getfield index, 3)) (kk : W p l e R s m args below meth c H locs cells slots Q (F0 m (pc + 3) ls (.ref (ad 42) :: rest))) : W p l e R s m args below meth c H locs cells slots Q (F0 m pc ls (.ref (ad 7) :: rest)) := by
  obtain ⟨hx, hb, -, -, hown, -, hE, hK, -⟩ := X
  exact va_get hx hb (hE.use args) inG0 hown hK hP 7 rfl rfl 2 (by decide) (hE.at args hlk) (fun _ h => h) rfl hdg kk
theorem gC_Out_lengths (X : Fx p s m meth c D cA A own cc nL rt) (hP : va_P D vwCl (wC cA ad ta σ) H) (hlk : Cond.fieldLink own index "NeededTrees$Outcomes" "lengths" "[I" ∈ lw_tbl) (hdg : decode cc pc = .ok (.getfield index, 3)) (kk : W p l e R s m args below meth c H locs cells slots Q (F0 m (pc + 3) ls (.ref (ad 43) :: rest))) : W p l e R s m args below meth c H locs cells slots Q (F0 m pc ls (.ref (ad 7) :: rest)) := by
  obtain ⟨hx, hb, -, -, hown, -, hE, hK, -⟩ := X
  exact va_get hx hb (hE.use args) inG0 hown hK hP 7 rfl rfl 3 (by decide) (hE.at args hlk) (fun _ h => h) rfl hdg kk
theorem gC_Out_many (X : Fx p s m meth c D cA A own cc nL rt) (hP : va_P D vwCl (wC cA ad ta σ) H) (hlk : Cond.fieldLink own index "NeededTrees$Outcomes" "many" "I" ∈ lw_tbl) (hdg : decode cc pc = .ok (.getfield index, 3)) (kk : W p l e R s m args below meth c H locs cells slots Q (F0 m (pc + 3) ls (.int (gF σ 15) :: rest))) : W p l e R s m args below meth c H locs cells slots Q (F0 m pc ls (.ref (ad 7) :: rest)) := by
  obtain ⟨hx, hb, -, -, hown, -, hE, hK, -⟩ := X
  exact va_get hx hb (hE.use args) inG0 hown hK hP 7 rfl rfl 5 (by decide) (hE.at args hlk) (fun _ h => h) rfl hdg kk
theorem gCN_Out_many {host : String} (X : Fx p s m meth c D cA A own cc nL rt) (hP : va_P D vwCl (wC cA ad ta σ) H) (hlk : Cond.fieldLinkNest own index "NeededTrees$Outcomes" "many" "I" host ∈ lw_tbl) (hdg : decode cc pc = .ok (.getfield index, 3)) (kk : W p l e R s m args below meth c H locs cells slots Q (F0 m (pc + 3) ls (.int (gF σ 15) :: rest))) : W p l e R s m args below meth c H locs cells slots Q (F0 m pc ls (.ref (ad 7) :: rest)) := by
  obtain ⟨hx, hb, -, -, hown, -, hE, hK, -⟩ := X
  exact va_getN hx hb (hE.use args) inG0 hown hK hP 7 rfl rfl 5 (by decide) (hE.at args hlk) (fun _ h => h) rfl hdg kk
theorem gC_Out_rules (X : Fx p s m meth c D cA A own cc nL rt) (hP : va_P D vwCl (wC cA ad ta σ) H) (hlk : Cond.fieldLink own index "NeededTrees$Outcomes" "rules" "[I" ∈ lw_tbl) (hdg : decode cc pc = .ok (.getfield index, 3)) (kk : W p l e R s m args below meth c H locs cells slots Q (F0 m (pc + 3) ls (.ref (ad 40) :: rest))) : W p l e R s m args below meth c H locs cells slots Q (F0 m pc ls (.ref (ad 7) :: rest)) := by
  obtain ⟨hx, hb, -, -, hown, -, hE, hK, -⟩ := X
  exact va_get hx hb (hE.use args) inG0 hown hK hP 7 rfl rfl 0 (by decide) (hE.at args hlk) (fun _ h => h) rfl hdg kk
theorem gC_Out_told (X : Fx p s m meth c D cA A own cc nL rt) (hP : va_P D vwCl (wC cA ad ta σ) H) (hlk : Cond.fieldLink own index "NeededTrees$Outcomes" "told" "[I" ∈ lw_tbl) (hdg : decode cc pc = .ok (.getfield index, 3)) (kk : W p l e R s m args below meth c H locs cells slots Q (F0 m (pc + 3) ls (.ref ta :: rest))) : W p l e R s m args below meth c H locs cells slots Q (F0 m pc ls (.ref (ad 7) :: rest)) := by
  obtain ⟨hx, hb, -, -, hown, -, hE, hK, -⟩ := X
  exact va_get hx hb (hE.use args) inG0 hown hK hP 7 rfl rfl 4 (by decide) (hE.at args hlk) (fun _ h => h) rfl hdg kk
theorem gC_Pla_cursor (X : Fx p s m meth c D cA A own cc nL rt) (hP : va_P D vwCl (wC cA ad ta σ) H) (hlk : Cond.fieldLink own index "NeededTrees$Planter" "cursor" "[I" ∈ lw_tbl) (hdg : decode cc pc = .ok (.getfield index, 3)) (kk : W p l e R s m args below meth c H locs cells slots Q (F0 m (pc + 3) ls (.ref (ad 32) :: rest))) : W p l e R s m args below meth c H locs cells slots Q (F0 m pc ls (.ref (ad 5) :: rest)) := by
  obtain ⟨hx, hb, -, -, hown, -, hE, hK, -⟩ := X
  exact va_get hx hb (hE.use args) inG1 hown hK hP 5 rfl rfl 5 (by decide) (hE.at args hlk) (fun _ h => h) rfl hdg kk
theorem gC_Pla_depths (X : Fx p s m meth c D cA A own cc nL rt) (hP : va_P D vwCl (wC cA ad ta σ) H) (hlk : Cond.fieldLink own index "NeededTrees$Planter" "depths" "[I" ∈ lw_tbl) (hdg : decode cc pc = .ok (.getfield index, 3)) (kk : W p l e R s m args below meth c H locs cells slots Q (F0 m (pc + 3) ls (.ref (ad 31) :: rest))) : W p l e R s m args below meth c H locs cells slots Q (F0 m pc ls (.ref (ad 5) :: rest)) := by
  obtain ⟨hx, hb, -, -, hown, -, hE, hK, -⟩ := X
  exact va_get hx hb (hE.use args) inG1 hown hK hP 5 rfl rfl 4 (by decide) (hE.at args hlk) (fun _ h => h) rfl hdg kk
theorem gC_Pla_groups (X : Fx p s m meth c D cA A own cc nL rt) (hP : va_P D vwCl (wC cA ad ta σ) H) (hlk : Cond.fieldLink own index "NeededTrees$Planter" "groups" "[I" ∈ lw_tbl) (hdg : decode cc pc = .ok (.getfield index, 3)) (kk : W p l e R s m args below meth c H locs cells slots Q (F0 m (pc + 3) ls (.ref (ad 29) :: rest))) : W p l e R s m args below meth c H locs cells slots Q (F0 m pc ls (.ref (ad 5) :: rest)) := by
  obtain ⟨hx, hb, -, -, hown, -, hE, hK, -⟩ := X
  exact va_get hx hb (hE.use args) inG1 hown hK hP 5 rfl rfl 2 (by decide) (hE.at args hlk) (fun _ h => h) rfl hdg kk
theorem gC_Pla_labels (X : Fx p s m meth c D cA A own cc nL rt) (hP : va_P D vwCl (wC cA ad ta σ) H) (hlk : Cond.fieldLink own index "NeededTrees$Planter" "labels" "[I" ∈ lw_tbl) (hdg : decode cc pc = .ok (.getfield index, 3)) (kk : W p l e R s m args below meth c H locs cells slots Q (F0 m (pc + 3) ls (.ref (ad 30) :: rest))) : W p l e R s m args below meth c H locs cells slots Q (F0 m pc ls (.ref (ad 5) :: rest)) := by
  obtain ⟨hx, hb, -, -, hown, -, hE, hK, -⟩ := X
  exact va_get hx hb (hE.use args) inG1 hown hK hP 5 rfl rfl 3 (by decide) (hE.at args hlk) (fun _ h => h) rfl hdg kk
theorem gC_Pla_rules (X : Fx p s m meth c D cA A own cc nL rt) (hP : va_P D vwCl (wC cA ad ta σ) H) (hlk : Cond.fieldLink own index "NeededTrees$Planter" "rules" "LNeededTrees$Rules;" ∈ lw_tbl) (hdg : decode cc pc = .ok (.getfield index, 3)) (kk : W p l e R s m args below meth c H locs cells slots Q (F0 m (pc + 3) ls (.ref (ad 3) :: rest))) : W p l e R s m args below meth c H locs cells slots Q (F0 m pc ls (.ref (ad 5) :: rest)) := by
  obtain ⟨hx, hb, -, -, hown, -, hE, hK, -⟩ := X
  exact va_get hx hb (hE.use args) inG1 hown hK hP 5 rfl rfl 0 (by decide) (hE.at args hlk) (fun _ h => h) rfl hdg kk
theorem gC_Pla_tree (X : Fx p s m meth c D cA A own cc nL rt) (hP : va_P D vwCl (wC cA ad ta σ) H) (hlk : Cond.fieldLink own index "NeededTrees$Planter" "tree" "LNeededTrees$Tree;" ∈ lw_tbl) (hdg : decode cc pc = .ok (.getfield index, 3)) (kk : W p l e R s m args below meth c H locs cells slots Q (F0 m (pc + 3) ls (.ref (ad 4) :: rest))) : W p l e R s m args below meth c H locs cells slots Q (F0 m pc ls (.ref (ad 5) :: rest)) := by
  obtain ⟨hx, hb, -, -, hown, -, hE, hK, -⟩ := X
  exact va_get hx hb (hE.use args) inG1 hown hK hP 5 rfl rfl 1 (by decide) (hE.at args hlk) (fun _ h => h) rfl hdg kk
theorem gC_Pla_waiting (X : Fx p s m meth c D cA A own cc nL rt) (hP : va_P D vwCl (wC cA ad ta σ) H) (hlk : Cond.fieldLink own index "NeededTrees$Planter" "waiting" "I" ∈ lw_tbl) (hdg : decode cc pc = .ok (.getfield index, 3)) (kk : W p l e R s m args below meth c H locs cells slots Q (F0 m (pc + 3) ls (.int (gF σ 10) :: rest))) : W p l e R s m args below meth c H locs cells slots Q (F0 m pc ls (.ref (ad 5) :: rest)) := by
  obtain ⟨hx, hb, -, -, hown, -, hE, hK, -⟩ := X
  exact va_get hx hb (hE.use args) inG1 hown hK hP 5 rfl rfl 6 (by decide) (hE.at args hlk) (fun _ h => h) rfl hdg kk
theorem gC_Row_end (X : Fx p s m meth c D cA A own cc nL rt) (hP : va_P D vwCl (wC cA ad ta σ) H) (hlk : Cond.fieldLink own index "NeededTrees$Row" "end" "[I" ∈ lw_tbl) (hdg : decode cc pc = .ok (.getfield index, 3)) (kk : W p l e R s m args below meth c H locs cells slots Q (F0 m (pc + 3) ls (.ref (ad 15) :: rest))) : W p l e R s m args below meth c H locs cells slots Q (F0 m pc ls (.ref (ad 2) :: rest)) := by
  obtain ⟨hx, hb, -, -, hown, -, hE, hK, -⟩ := X
  exact va_get hx hb (hE.use args) inG2 hown hK hP 2 rfl rfl 3 (by decide) (hE.at args hlk) (fun _ h => h) rfl hdg kk
theorem gCN_Row_end {host : String} (X : Fx p s m meth c D cA A own cc nL rt) (hP : va_P D vwCl (wC cA ad ta σ) H) (hlk : Cond.fieldLinkNest own index "NeededTrees$Row" "end" "[I" host ∈ lw_tbl) (hdg : decode cc pc = .ok (.getfield index, 3)) (kk : W p l e R s m args below meth c H locs cells slots Q (F0 m (pc + 3) ls (.ref (ad 15) :: rest))) : W p l e R s m args below meth c H locs cells slots Q (F0 m pc ls (.ref (ad 2) :: rest)) := by
  obtain ⟨hx, hb, -, -, hown, -, hE, hK, -⟩ := X
  exact va_getN hx hb (hE.use args) inG2 hown hK hP 2 rfl rfl 3 (by decide) (hE.at args hlk) (fun _ h => h) rfl hdg kk
theorem gC_Row_holder (X : Fx p s m meth c D cA A own cc nL rt) (hP : va_P D vwCl (wC cA ad ta σ) H) (hlk : Cond.fieldLink own index "NeededTrees$Row" "holder" "I" ∈ lw_tbl) (hdg : decode cc pc = .ok (.getfield index, 3)) (kk : W p l e R s m args below meth c H locs cells slots Q (F0 m (pc + 3) ls (.int (gF σ 6) :: rest))) : W p l e R s m args below meth c H locs cells slots Q (F0 m pc ls (.ref (ad 2) :: rest)) := by
  obtain ⟨hx, hb, -, -, hown, -, hE, hK, -⟩ := X
  exact va_get hx hb (hE.use args) inG2 hown hK hP 2 rfl rfl 6 (by decide) (hE.at args hlk) (fun _ h => h) rfl hdg kk
theorem gC_Row_length (X : Fx p s m meth c D cA A own cc nL rt) (hP : va_P D vwCl (wC cA ad ta σ) H) (hlk : Cond.fieldLink own index "NeededTrees$Row" "length" "I" ∈ lw_tbl) (hdg : decode cc pc = .ok (.getfield index, 3)) (kk : W p l e R s m args below meth c H locs cells slots Q (F0 m (pc + 3) ls (.int (gF σ 5) :: rest))) : W p l e R s m args below meth c H locs cells slots Q (F0 m pc ls (.ref (ad 2) :: rest)) := by
  obtain ⟨hx, hb, -, -, hown, -, hE, hK, -⟩ := X
  exact va_get hx hb (hE.use args) inG2 hown hK hP 2 rfl rfl 5 (by decide) (hE.at args hlk) (fun _ h => h) rfl hdg kk
theorem gCN_Row_length {host : String} (X : Fx p s m meth c D cA A own cc nL rt) (hP : va_P D vwCl (wC cA ad ta σ) H) (hlk : Cond.fieldLinkNest own index "NeededTrees$Row" "length" "I" host ∈ lw_tbl) (hdg : decode cc pc = .ok (.getfield index, 3)) (kk : W p l e R s m args below meth c H locs cells slots Q (F0 m (pc + 3) ls (.int (gF σ 5) :: rest))) : W p l e R s m args below meth c H locs cells slots Q (F0 m pc ls (.ref (ad 2) :: rest)) := by
  obtain ⟨hx, hb, -, -, hown, -, hE, hK, -⟩ := X
  exact va_getN hx hb (hE.use args) inG2 hown hK hP 2 rfl rfl 5 (by decide) (hE.at args hlk) (fun _ h => h) rfl hdg kk
theorem gC_Row_nameTypes (X : Fx p s m meth c D cA A own cc nL rt) (hP : va_P D vwCl (wC cA ad ta σ) H) (hlk : Cond.fieldLink own index "NeededTrees$Row" "nameTypes" "[I" ∈ lw_tbl) (hdg : decode cc pc = .ok (.getfield index, 3)) (kk : W p l e R s m args below meth c H locs cells slots Q (F0 m (pc + 3) ls (.ref (ad 16) :: rest))) : W p l e R s m args below meth c H locs cells slots Q (F0 m pc ls (.ref (ad 2) :: rest)) := by
  obtain ⟨hx, hb, -, -, hown, -, hE, hK, -⟩ := X
  exact va_get hx hb (hE.use args) inG2 hown hK hP 2 rfl rfl 4 (by decide) (hE.at args hlk) (fun _ h => h) rfl hdg kk
theorem gC_Row_next (X : Fx p s m meth c D cA A own cc nL rt) (hP : va_P D vwCl (wC cA ad ta σ) H) (hlk : Cond.fieldLink own index "NeededTrees$Row" "next" "I" ∈ lw_tbl) (hdg : decode cc pc = .ok (.getfield index, 3)) (kk : W p l e R s m args below meth c H locs cells slots Q (F0 m (pc + 3) ls (.int (gF σ 7) :: rest))) : W p l e R s m args below meth c H locs cells slots Q (F0 m pc ls (.ref (ad 2) :: rest)) := by
  obtain ⟨hx, hb, -, -, hown, -, hE, hK, -⟩ := X
  exact va_get hx hb (hE.use args) inG2 hown hK hP 2 rfl rfl 7 (by decide) (hE.at args hlk) (fun _ h => h) rfl hdg kk
theorem gC_Row_numbers (X : Fx p s m meth c D cA A own cc nL rt) (hP : va_P D vwCl (wC cA ad ta σ) H) (hlk : Cond.fieldLink own index "NeededTrees$Row" "numbers" "[I" ∈ lw_tbl) (hdg : decode cc pc = .ok (.getfield index, 3)) (kk : W p l e R s m args below meth c H locs cells slots Q (F0 m (pc + 3) ls (.ref (ad 12) :: rest))) : W p l e R s m args below meth c H locs cells slots Q (F0 m pc ls (.ref (ad 2) :: rest)) := by
  obtain ⟨hx, hb, -, -, hown, -, hE, hK, -⟩ := X
  exact va_get hx hb (hE.use args) inG2 hown hK hP 2 rfl rfl 0 (by decide) (hE.at args hlk) (fun _ h => h) rfl hdg kk
theorem gCN_Row_numbers {host : String} (X : Fx p s m meth c D cA A own cc nL rt) (hP : va_P D vwCl (wC cA ad ta σ) H) (hlk : Cond.fieldLinkNest own index "NeededTrees$Row" "numbers" "[I" host ∈ lw_tbl) (hdg : decode cc pc = .ok (.getfield index, 3)) (kk : W p l e R s m args below meth c H locs cells slots Q (F0 m (pc + 3) ls (.ref (ad 12) :: rest))) : W p l e R s m args below meth c H locs cells slots Q (F0 m pc ls (.ref (ad 2) :: rest)) := by
  obtain ⟨hx, hb, -, -, hown, -, hE, hK, -⟩ := X
  exact va_getN hx hb (hE.use args) inG2 hown hK hP 2 rfl rfl 0 (by decide) (hE.at args hlk) (fun _ h => h) rfl hdg kk
theorem gC_Row_place (X : Fx p s m meth c D cA A own cc nL rt) (hP : va_P D vwCl (wC cA ad ta σ) H) (hlk : Cond.fieldLink own index "NeededTrees$Row" "place" "[I" ∈ lw_tbl) (hdg : decode cc pc = .ok (.getfield index, 3)) (kk : W p l e R s m args below meth c H locs cells slots Q (F0 m (pc + 3) ls (.ref (ad 14) :: rest))) : W p l e R s m args below meth c H locs cells slots Q (F0 m pc ls (.ref (ad 2) :: rest)) := by
  obtain ⟨hx, hb, -, -, hown, -, hE, hK, -⟩ := X
  exact va_get hx hb (hE.use args) inG2 hown hK hP 2 rfl rfl 2 (by decide) (hE.at args hlk) (fun _ h => h) rfl hdg kk
theorem gCN_Row_place {host : String} (X : Fx p s m meth c D cA A own cc nL rt) (hP : va_P D vwCl (wC cA ad ta σ) H) (hlk : Cond.fieldLinkNest own index "NeededTrees$Row" "place" "[I" host ∈ lw_tbl) (hdg : decode cc pc = .ok (.getfield index, 3)) (kk : W p l e R s m args below meth c H locs cells slots Q (F0 m (pc + 3) ls (.ref (ad 14) :: rest))) : W p l e R s m args below meth c H locs cells slots Q (F0 m pc ls (.ref (ad 2) :: rest)) := by
  obtain ⟨hx, hb, -, -, hown, -, hE, hK, -⟩ := X
  exact va_getN hx hb (hE.use args) inG2 hown hK hP 2 rfl rfl 2 (by decide) (hE.at args hlk) (fun _ h => h) rfl hdg kk
theorem gC_Row_up (X : Fx p s m meth c D cA A own cc nL rt) (hP : va_P D vwCl (wC cA ad ta σ) H) (hlk : Cond.fieldLink own index "NeededTrees$Row" "up" "[I" ∈ lw_tbl) (hdg : decode cc pc = .ok (.getfield index, 3)) (kk : W p l e R s m args below meth c H locs cells slots Q (F0 m (pc + 3) ls (.ref (ad 13) :: rest))) : W p l e R s m args below meth c H locs cells slots Q (F0 m pc ls (.ref (ad 2) :: rest)) := by
  obtain ⟨hx, hb, -, -, hown, -, hE, hK, -⟩ := X
  exact va_get hx hb (hE.use args) inG2 hown hK hP 2 rfl rfl 1 (by decide) (hE.at args hlk) (fun _ h => h) rfl hdg kk
theorem gCN_Row_up {host : String} (X : Fx p s m meth c D cA A own cc nL rt) (hP : va_P D vwCl (wC cA ad ta σ) H) (hlk : Cond.fieldLinkNest own index "NeededTrees$Row" "up" "[I" host ∈ lw_tbl) (hdg : decode cc pc = .ok (.getfield index, 3)) (kk : W p l e R s m args below meth c H locs cells slots Q (F0 m (pc + 3) ls (.ref (ad 13) :: rest))) : W p l e R s m args below meth c H locs cells slots Q (F0 m pc ls (.ref (ad 2) :: rest)) := by
  obtain ⟨hx, hb, -, -, hown, -, hE, hK, -⟩ := X
  exact va_getN hx hb (hE.use args) inG2 hown hK hP 2 rfl rfl 1 (by decide) (hE.at args hlk) (fun _ h => h) rfl hdg kk
theorem gC_Rul_askedAt (X : Fx p s m meth c D cA A own cc nL rt) (hP : va_P D vwCl (wC cA ad ta σ) H) (hlk : Cond.fieldLink own index "NeededTrees$Rules" "askedAt" "[I" ∈ lw_tbl) (hdg : decode cc pc = .ok (.getfield index, 3)) (kk : W p l e R s m args below meth c H locs cells slots Q (F0 m (pc + 3) ls (.ref (ad 22) :: rest))) : W p l e R s m args below meth c H locs cells slots Q (F0 m pc ls (.ref (ad 3) :: rest)) := by
  obtain ⟨hx, hb, -, -, hown, -, hE, hK, -⟩ := X
  exact va_get hx hb (hE.use args) inG3 hown hK hP 3 rfl rfl 5 (by decide) (hE.at args hlk) (fun _ h => h) rfl hdg kk
theorem gCN_Rul_askedAt {host : String} (X : Fx p s m meth c D cA A own cc nL rt) (hP : va_P D vwCl (wC cA ad ta σ) H) (hlk : Cond.fieldLinkNest own index "NeededTrees$Rules" "askedAt" "[I" host ∈ lw_tbl) (hdg : decode cc pc = .ok (.getfield index, 3)) (kk : W p l e R s m args below meth c H locs cells slots Q (F0 m (pc + 3) ls (.ref (ad 22) :: rest))) : W p l e R s m args below meth c H locs cells slots Q (F0 m pc ls (.ref (ad 3) :: rest)) := by
  obtain ⟨hx, hb, -, -, hown, -, hE, hK, -⟩ := X
  exact va_getN hx hb (hE.use args) inG3 hown hK hP 3 rfl rfl 5 (by decide) (hE.at args hlk) (fun _ h => h) rfl hdg kk
theorem gC_Rul_end (X : Fx p s m meth c D cA A own cc nL rt) (hP : va_P D vwCl (wC cA ad ta σ) H) (hlk : Cond.fieldLink own index "NeededTrees$Rules" "end" "[I" ∈ lw_tbl) (hdg : decode cc pc = .ok (.getfield index, 3)) (kk : W p l e R s m args below meth c H locs cells slots Q (F0 m (pc + 3) ls (.ref (ad 21) :: rest))) : W p l e R s m args below meth c H locs cells slots Q (F0 m pc ls (.ref (ad 3) :: rest)) := by
  obtain ⟨hx, hb, -, -, hown, -, hE, hK, -⟩ := X
  exact va_get hx hb (hE.use args) inG3 hown hK hP 3 rfl rfl 4 (by decide) (hE.at args hlk) (fun _ h => h) rfl hdg kk
theorem gCN_Rul_end {host : String} (X : Fx p s m meth c D cA A own cc nL rt) (hP : va_P D vwCl (wC cA ad ta σ) H) (hlk : Cond.fieldLinkNest own index "NeededTrees$Rules" "end" "[I" host ∈ lw_tbl) (hdg : decode cc pc = .ok (.getfield index, 3)) (kk : W p l e R s m args below meth c H locs cells slots Q (F0 m (pc + 3) ls (.ref (ad 21) :: rest))) : W p l e R s m args below meth c H locs cells slots Q (F0 m pc ls (.ref (ad 3) :: rest)) := by
  obtain ⟨hx, hb, -, -, hown, -, hE, hK, -⟩ := X
  exact va_getN hx hb (hE.use args) inG3 hown hK hP 3 rfl rfl 4 (by decide) (hE.at args hlk) (fun _ h => h) rfl hdg kk
theorem gC_Rul_many (X : Fx p s m meth c D cA A own cc nL rt) (hP : va_P D vwCl (wC cA ad ta σ) H) (hlk : Cond.fieldLink own index "NeededTrees$Rules" "many" "I" ∈ lw_tbl) (hdg : decode cc pc = .ok (.getfield index, 3)) (kk : W p l e R s m args below meth c H locs cells slots Q (F0 m (pc + 3) ls (.int (gF σ 8) :: rest))) : W p l e R s m args below meth c H locs cells slots Q (F0 m pc ls (.ref (ad 3) :: rest)) := by
  obtain ⟨hx, hb, -, -, hown, -, hE, hK, -⟩ := X
  exact va_get hx hb (hE.use args) inG3 hown hK hP 3 rfl rfl 6 (by decide) (hE.at args hlk) (fun _ h => h) rfl hdg kk
theorem gCN_Rul_many {host : String} (X : Fx p s m meth c D cA A own cc nL rt) (hP : va_P D vwCl (wC cA ad ta σ) H) (hlk : Cond.fieldLinkNest own index "NeededTrees$Rules" "many" "I" host ∈ lw_tbl) (hdg : decode cc pc = .ok (.getfield index, 3)) (kk : W p l e R s m args below meth c H locs cells slots Q (F0 m (pc + 3) ls (.int (gF σ 8) :: rest))) : W p l e R s m args below meth c H locs cells slots Q (F0 m pc ls (.ref (ad 3) :: rest)) := by
  obtain ⟨hx, hb, -, -, hown, -, hE, hK, -⟩ := X
  exact va_getN hx hb (hE.use args) inG3 hown hK hP 3 rfl rfl 6 (by decide) (hE.at args hlk) (fun _ h => h) rfl hdg kk
theorem gC_Rul_place (X : Fx p s m meth c D cA A own cc nL rt) (hP : va_P D vwCl (wC cA ad ta σ) H) (hlk : Cond.fieldLink own index "NeededTrees$Rules" "place" "[I" ∈ lw_tbl) (hdg : decode cc pc = .ok (.getfield index, 3)) (kk : W p l e R s m args below meth c H locs cells slots Q (F0 m (pc + 3) ls (.ref (ad 20) :: rest))) : W p l e R s m args below meth c H locs cells slots Q (F0 m pc ls (.ref (ad 3) :: rest)) := by
  obtain ⟨hx, hb, -, -, hown, -, hE, hK, -⟩ := X
  exact va_get hx hb (hE.use args) inG3 hown hK hP 3 rfl rfl 3 (by decide) (hE.at args hlk) (fun _ h => h) rfl hdg kk
theorem gCN_Rul_place {host : String} (X : Fx p s m meth c D cA A own cc nL rt) (hP : va_P D vwCl (wC cA ad ta σ) H) (hlk : Cond.fieldLinkNest own index "NeededTrees$Rules" "place" "[I" host ∈ lw_tbl) (hdg : decode cc pc = .ok (.getfield index, 3)) (kk : W p l e R s m args below meth c H locs cells slots Q (F0 m (pc + 3) ls (.ref (ad 20) :: rest))) : W p l e R s m args below meth c H locs cells slots Q (F0 m pc ls (.ref (ad 3) :: rest)) := by
  obtain ⟨hx, hb, -, -, hown, -, hE, hK, -⟩ := X
  exact va_getN hx hb (hE.use args) inG3 hown hK hP 3 rfl rfl 3 (by decide) (hE.at args hlk) (fun _ h => h) rfl hdg kk
theorem gC_Rul_starts (X : Fx p s m meth c D cA A own cc nL rt) (hP : va_P D vwCl (wC cA ad ta σ) H) (hlk : Cond.fieldLink own index "NeededTrees$Rules" "starts" "[I" ∈ lw_tbl) (hdg : decode cc pc = .ok (.getfield index, 3)) (kk : W p l e R s m args below meth c H locs cells slots Q (F0 m (pc + 3) ls (.ref (ad 17) :: rest))) : W p l e R s m args below meth c H locs cells slots Q (F0 m pc ls (.ref (ad 3) :: rest)) := by
  obtain ⟨hx, hb, -, -, hown, -, hE, hK, -⟩ := X
  exact va_get hx hb (hE.use args) inG3 hown hK hP 3 rfl rfl 0 (by decide) (hE.at args hlk) (fun _ h => h) rfl hdg kk
theorem gC_Rul_symbol (X : Fx p s m meth c D cA A own cc nL rt) (hP : va_P D vwCl (wC cA ad ta σ) H) (hlk : Cond.fieldLink own index "NeededTrees$Rules" "symbol" "[I" ∈ lw_tbl) (hdg : decode cc pc = .ok (.getfield index, 3)) (kk : W p l e R s m args below meth c H locs cells slots Q (F0 m (pc + 3) ls (.ref (ad 18) :: rest))) : W p l e R s m args below meth c H locs cells slots Q (F0 m pc ls (.ref (ad 3) :: rest)) := by
  obtain ⟨hx, hb, -, -, hown, -, hE, hK, -⟩ := X
  exact va_get hx hb (hE.use args) inG3 hown hK hP 3 rfl rfl 1 (by decide) (hE.at args hlk) (fun _ h => h) rfl hdg kk
theorem gCN_Rul_symbol {host : String} (X : Fx p s m meth c D cA A own cc nL rt) (hP : va_P D vwCl (wC cA ad ta σ) H) (hlk : Cond.fieldLinkNest own index "NeededTrees$Rules" "symbol" "[I" host ∈ lw_tbl) (hdg : decode cc pc = .ok (.getfield index, 3)) (kk : W p l e R s m args below meth c H locs cells slots Q (F0 m (pc + 3) ls (.ref (ad 18) :: rest))) : W p l e R s m args below meth c H locs cells slots Q (F0 m pc ls (.ref (ad 3) :: rest)) := by
  obtain ⟨hx, hb, -, -, hown, -, hE, hK, -⟩ := X
  exact va_getN hx hb (hE.use args) inG3 hown hK hP 3 rfl rfl 1 (by decide) (hE.at args hlk) (fun _ h => h) rfl hdg kk
theorem gC_Rul_up (X : Fx p s m meth c D cA A own cc nL rt) (hP : va_P D vwCl (wC cA ad ta σ) H) (hlk : Cond.fieldLink own index "NeededTrees$Rules" "up" "[I" ∈ lw_tbl) (hdg : decode cc pc = .ok (.getfield index, 3)) (kk : W p l e R s m args below meth c H locs cells slots Q (F0 m (pc + 3) ls (.ref (ad 19) :: rest))) : W p l e R s m args below meth c H locs cells slots Q (F0 m pc ls (.ref (ad 3) :: rest)) := by
  obtain ⟨hx, hb, -, -, hown, -, hE, hK, -⟩ := X
  exact va_get hx hb (hE.use args) inG3 hown hK hP 3 rfl rfl 2 (by decide) (hE.at args hlk) (fun _ h => h) rfl hdg kk
theorem gCN_Rul_up {host : String} (X : Fx p s m meth c D cA A own cc nL rt) (hP : va_P D vwCl (wC cA ad ta σ) H) (hlk : Cond.fieldLinkNest own index "NeededTrees$Rules" "up" "[I" host ∈ lw_tbl) (hdg : decode cc pc = .ok (.getfield index, 3)) (kk : W p l e R s m args below meth c H locs cells slots Q (F0 m (pc + 3) ls (.ref (ad 19) :: rest))) : W p l e R s m args below meth c H locs cells slots Q (F0 m pc ls (.ref (ad 3) :: rest)) := by
  obtain ⟨hx, hb, -, -, hown, -, hE, hK, -⟩ := X
  exact va_getN hx hb (hE.use args) inG3 hown hK hP 3 rfl rfl 2 (by decide) (hE.at args hlk) (fun _ h => h) rfl hdg kk
theorem gC_Sig_argumentTypes (X : Fx p s m meth c D cA A own cc nL rt) (hP : va_P D vwCl (wC cA ad ta σ) H) (hlk : Cond.fieldLink own index "NeededTrees$Signature" "argumentTypes" "I" ∈ lw_tbl) (hdg : decode cc pc = .ok (.getfield index, 3)) (kk : W p l e R s m args below meth c H locs cells slots Q (F0 m (pc + 3) ls (.int (gF σ 4) :: rest))) : W p l e R s m args below meth c H locs cells slots Q (F0 m pc ls (.ref (ad 1) :: rest)) := by
  obtain ⟨hx, hb, -, -, hown, -, hE, hK, -⟩ := X
  exact va_get hx hb (hE.use args) inG4 hown hK hP 1 rfl rfl 6 (by decide) (hE.at args hlk) (fun _ h => h) rfl hdg kk
theorem gC_Sig_arguments (X : Fx p s m meth c D cA A own cc nL rt) (hP : va_P D vwCl (wC cA ad ta σ) H) (hlk : Cond.fieldLink own index "NeededTrees$Signature" "arguments" "I" ∈ lw_tbl) (hdg : decode cc pc = .ok (.getfield index, 3)) (kk : W p l e R s m args below meth c H locs cells slots Q (F0 m (pc + 3) ls (.int (gF σ 3) :: rest))) : W p l e R s m args below meth c H locs cells slots Q (F0 m pc ls (.ref (ad 1) :: rest)) := by
  obtain ⟨hx, hb, -, -, hown, -, hE, hK, -⟩ := X
  exact va_get hx hb (hE.use args) inG4 hown hK hP 1 rfl rfl 5 (by decide) (hE.at args hlk) (fun _ h => h) rfl hdg kk
theorem gCN_Sig_arguments {host : String} (X : Fx p s m meth c D cA A own cc nL rt) (hP : va_P D vwCl (wC cA ad ta σ) H) (hlk : Cond.fieldLinkNest own index "NeededTrees$Signature" "arguments" "I" host ∈ lw_tbl) (hdg : decode cc pc = .ok (.getfield index, 3)) (kk : W p l e R s m args below meth c H locs cells slots Q (F0 m (pc + 3) ls (.int (gF σ 3) :: rest))) : W p l e R s m args below meth c H locs cells slots Q (F0 m pc ls (.ref (ad 1) :: rest)) := by
  obtain ⟨hx, hb, -, -, hown, -, hE, hK, -⟩ := X
  exact va_getN hx hb (hE.use args) inG4 hown hK hP 1 rfl rfl 5 (by decide) (hE.at args hlk) (fun _ h => h) rfl hdg kk
theorem gC_Sig_arities (X : Fx p s m meth c D cA A own cc nL rt) (hP : va_P D vwCl (wC cA ad ta σ) H) (hlk : Cond.fieldLink own index "NeededTrees$Signature" "arities" "[I" ∈ lw_tbl) (hdg : decode cc pc = .ok (.getfield index, 3)) (kk : W p l e R s m args below meth c H locs cells slots Q (F0 m (pc + 3) ls (.ref (ad 10) :: rest))) : W p l e R s m args below meth c H locs cells slots Q (F0 m pc ls (.ref (ad 1) :: rest)) := by
  obtain ⟨hx, hb, -, -, hown, -, hE, hK, -⟩ := X
  exact va_get hx hb (hE.use args) inG4 hown hK hP 1 rfl rfl 1 (by decide) (hE.at args hlk) (fun _ h => h) rfl hdg kk
theorem gC_Sig_made (X : Fx p s m meth c D cA A own cc nL rt) (hP : va_P D vwCl (wC cA ad ta σ) H) (hlk : Cond.fieldLink own index "NeededTrees$Signature" "made" "I" ∈ lw_tbl) (hdg : decode cc pc = .ok (.getfield index, 3)) (kk : W p l e R s m args below meth c H locs cells slots Q (F0 m (pc + 3) ls (.int (gF σ 2) :: rest))) : W p l e R s m args below meth c H locs cells slots Q (F0 m pc ls (.ref (ad 1) :: rest)) := by
  obtain ⟨hx, hb, -, -, hown, -, hE, hK, -⟩ := X
  exact va_get hx hb (hE.use args) inG4 hown hK hP 1 rfl rfl 4 (by decide) (hE.at args hlk) (fun _ h => h) rfl hdg kk
theorem gCN_Sig_made {host : String} (X : Fx p s m meth c D cA A own cc nL rt) (hP : va_P D vwCl (wC cA ad ta σ) H) (hlk : Cond.fieldLinkNest own index "NeededTrees$Signature" "made" "I" host ∈ lw_tbl) (hdg : decode cc pc = .ok (.getfield index, 3)) (kk : W p l e R s m args below meth c H locs cells slots Q (F0 m (pc + 3) ls (.int (gF σ 2) :: rest))) : W p l e R s m args below meth c H locs cells slots Q (F0 m pc ls (.ref (ad 1) :: rest)) := by
  obtain ⟨hx, hb, -, -, hown, -, hE, hK, -⟩ := X
  exact va_getN hx hb (hE.use args) inG4 hown hK hP 1 rfl rfl 4 (by decide) (hE.at args hlk) (fun _ h => h) rfl hdg kk
theorem gC_Sig_ownTypes (X : Fx p s m meth c D cA A own cc nL rt) (hP : va_P D vwCl (wC cA ad ta σ) H) (hlk : Cond.fieldLink own index "NeededTrees$Signature" "ownTypes" "[I" ∈ lw_tbl) (hdg : decode cc pc = .ok (.getfield index, 3)) (kk : W p l e R s m args below meth c H locs cells slots Q (F0 m (pc + 3) ls (.ref (ad 9) :: rest))) : W p l e R s m args below meth c H locs cells slots Q (F0 m pc ls (.ref (ad 1) :: rest)) := by
  obtain ⟨hx, hb, -, -, hown, -, hE, hK, -⟩ := X
  exact va_get hx hb (hE.use args) inG4 hown hK hP 1 rfl rfl 0 (by decide) (hE.at args hlk) (fun _ h => h) rfl hdg kk
theorem gC_Sig_partTypes (X : Fx p s m meth c D cA A own cc nL rt) (hP : va_P D vwCl (wC cA ad ta σ) H) (hlk : Cond.fieldLink own index "NeededTrees$Signature" "partTypes" "[I" ∈ lw_tbl) (hdg : decode cc pc = .ok (.getfield index, 3)) (kk : W p l e R s m args below meth c H locs cells slots Q (F0 m (pc + 3) ls (.ref (ad 11) :: rest))) : W p l e R s m args below meth c H locs cells slots Q (F0 m pc ls (.ref (ad 1) :: rest)) := by
  obtain ⟨hx, hb, -, -, hown, -, hE, hK, -⟩ := X
  exact va_get hx hb (hE.use args) inG4 hown hK hP 1 rfl rfl 2 (by decide) (hE.at args hlk) (fun _ h => h) rfl hdg kk
theorem gC_Sig_types (X : Fx p s m meth c D cA A own cc nL rt) (hP : va_P D vwCl (wC cA ad ta σ) H) (hlk : Cond.fieldLink own index "NeededTrees$Signature" "types" "I" ∈ lw_tbl) (hdg : decode cc pc = .ok (.getfield index, 3)) (kk : W p l e R s m args below meth c H locs cells slots Q (F0 m (pc + 3) ls (.int (gF σ 1) :: rest))) : W p l e R s m args below meth c H locs cells slots Q (F0 m pc ls (.ref (ad 1) :: rest)) := by
  obtain ⟨hx, hb, -, -, hown, -, hE, hK, -⟩ := X
  exact va_get hx hb (hE.use args) inG4 hown hK hP 1 rfl rfl 3 (by decide) (hE.at args hlk) (fun _ h => h) rfl hdg kk
theorem gCN_Sig_types {host : String} (X : Fx p s m meth c D cA A own cc nL rt) (hP : va_P D vwCl (wC cA ad ta σ) H) (hlk : Cond.fieldLinkNest own index "NeededTrees$Signature" "types" "I" host ∈ lw_tbl) (hdg : decode cc pc = .ok (.getfield index, 3)) (kk : W p l e R s m args below meth c H locs cells slots Q (F0 m (pc + 3) ls (.int (gF σ 1) :: rest))) : W p l e R s m args below meth c H locs cells slots Q (F0 m pc ls (.ref (ad 1) :: rest)) := by
  obtain ⟨hx, hb, -, -, hown, -, hE, hK, -⟩ := X
  exact va_getN hx hb (hE.use args) inG4 hown hK hP 1 rfl rfl 3 (by decide) (hE.at args hlk) (fun _ h => h) rfl hdg kk
theorem gC_Ter_alias (X : Fx p s m meth c D cA A own cc nL rt) (hP : va_P D vwCl (wC cA ad ta σ) H) (hlk : Cond.fieldLink own index "NeededTrees$Terms" "alias" "[I" ∈ lw_tbl) (hdg : decode cc pc = .ok (.getfield index, 3)) (kk : W p l e R s m args below meth c H locs cells slots Q (F0 m (pc + 3) ls (.ref (ad 37) :: rest))) : W p l e R s m args below meth c H locs cells slots Q (F0 m pc ls (.ref (ad 6) :: rest)) := by
  obtain ⟨hx, hb, -, -, hown, -, hE, hK, -⟩ := X
  exact va_get hx hb (hE.use args) inG5 hown hK hP 6 rfl rfl 5 (by decide) (hE.at args hlk) (fun _ h => h) rfl hdg kk
theorem gC_Ter_bindings (X : Fx p s m meth c D cA A own cc nL rt) (hP : va_P D vwCl (wC cA ad ta σ) H) (hlk : Cond.fieldLink own index "NeededTrees$Terms" "bindings" "I" ∈ lw_tbl) (hdg : decode cc pc = .ok (.getfield index, 3)) (kk : W p l e R s m args below meth c H locs cells slots Q (F0 m (pc + 3) ls (.int (gF σ 12) :: rest))) : W p l e R s m args below meth c H locs cells slots Q (F0 m pc ls (.ref (ad 6) :: rest)) := by
  obtain ⟨hx, hb, -, -, hown, -, hE, hK, -⟩ := X
  exact va_get hx hb (hE.use args) inG5 hown hK hP 6 rfl rfl 9 (by decide) (hE.at args hlk) (fun _ h => h) rfl hdg kk
theorem gCN_Ter_bindings {host : String} (X : Fx p s m meth c D cA A own cc nL rt) (hP : va_P D vwCl (wC cA ad ta σ) H) (hlk : Cond.fieldLinkNest own index "NeededTrees$Terms" "bindings" "I" host ∈ lw_tbl) (hdg : decode cc pc = .ok (.getfield index, 3)) (kk : W p l e R s m args below meth c H locs cells slots Q (F0 m (pc + 3) ls (.int (gF σ 12) :: rest))) : W p l e R s m args below meth c H locs cells slots Q (F0 m pc ls (.ref (ad 6) :: rest)) := by
  obtain ⟨hx, hb, -, -, hown, -, hE, hK, -⟩ := X
  exact va_getN hx hb (hE.use args) inG5 hown hK hP 6 rfl rfl 9 (by decide) (hE.at args hlk) (fun _ h => h) rfl hdg kk
theorem gC_Ter_bound (X : Fx p s m meth c D cA A own cc nL rt) (hP : va_P D vwCl (wC cA ad ta σ) H) (hlk : Cond.fieldLink own index "NeededTrees$Terms" "bound" "[I" ∈ lw_tbl) (hdg : decode cc pc = .ok (.getfield index, 3)) (kk : W p l e R s m args below meth c H locs cells slots Q (F0 m (pc + 3) ls (.ref (ad 38) :: rest))) : W p l e R s m args below meth c H locs cells slots Q (F0 m pc ls (.ref (ad 6) :: rest)) := by
  obtain ⟨hx, hb, -, -, hown, -, hE, hK, -⟩ := X
  exact va_get hx hb (hE.use args) inG5 hown hK hP 6 rfl rfl 6 (by decide) (hE.at args hlk) (fun _ h => h) rfl hdg kk
theorem gC_Ter_cells (X : Fx p s m meth c D cA A own cc nL rt) (hP : va_P D vwCl (wC cA ad ta σ) H) (hlk : Cond.fieldLink own index "NeededTrees$Terms" "cells" "I" ∈ lw_tbl) (hdg : decode cc pc = .ok (.getfield index, 3)) (kk : W p l e R s m args below meth c H locs cells slots Q (F0 m (pc + 3) ls (.int (gF σ 11) :: rest))) : W p l e R s m args below meth c H locs cells slots Q (F0 m pc ls (.ref (ad 6) :: rest)) := by
  obtain ⟨hx, hb, -, -, hown, -, hE, hK, -⟩ := X
  exact va_get hx hb (hE.use args) inG5 hown hK hP 6 rfl rfl 8 (by decide) (hE.at args hlk) (fun _ h => h) rfl hdg kk
theorem gC_Ter_end (X : Fx p s m meth c D cA A own cc nL rt) (hP : va_P D vwCl (wC cA ad ta σ) H) (hlk : Cond.fieldLink own index "NeededTrees$Terms" "end" "[I" ∈ lw_tbl) (hdg : decode cc pc = .ok (.getfield index, 3)) (kk : W p l e R s m args below meth c H locs cells slots Q (F0 m (pc + 3) ls (.ref (ad 35) :: rest))) : W p l e R s m args below meth c H locs cells slots Q (F0 m pc ls (.ref (ad 6) :: rest)) := by
  obtain ⟨hx, hb, -, -, hown, -, hE, hK, -⟩ := X
  exact va_get hx hb (hE.use args) inG5 hown hK hP 6 rfl rfl 3 (by decide) (hE.at args hlk) (fun _ h => h) rfl hdg kk
theorem gC_Ter_first (X : Fx p s m meth c D cA A own cc nL rt) (hP : va_P D vwCl (wC cA ad ta σ) H) (hlk : Cond.fieldLink own index "NeededTrees$Terms" "first" "[I" ∈ lw_tbl) (hdg : decode cc pc = .ok (.getfield index, 3)) (kk : W p l e R s m args below meth c H locs cells slots Q (F0 m (pc + 3) ls (.ref (ad 34) :: rest))) : W p l e R s m args below meth c H locs cells slots Q (F0 m pc ls (.ref (ad 6) :: rest)) := by
  obtain ⟨hx, hb, -, -, hown, -, hE, hK, -⟩ := X
  exact va_get hx hb (hE.use args) inG5 hown hK hP 6 rfl rfl 2 (by decide) (hE.at args hlk) (fun _ h => h) rfl hdg kk
theorem gC_Ter_head (X : Fx p s m meth c D cA A own cc nL rt) (hP : va_P D vwCl (wC cA ad ta σ) H) (hlk : Cond.fieldLink own index "NeededTrees$Terms" "head" "[I" ∈ lw_tbl) (hdg : decode cc pc = .ok (.getfield index, 3)) (kk : W p l e R s m args below meth c H locs cells slots Q (F0 m (pc + 3) ls (.ref (ad 33) :: rest))) : W p l e R s m args below meth c H locs cells slots Q (F0 m pc ls (.ref (ad 6) :: rest)) := by
  obtain ⟨hx, hb, -, -, hown, -, hE, hK, -⟩ := X
  exact va_get hx hb (hE.use args) inG5 hown hK hP 6 rfl rfl 1 (by decide) (hE.at args hlk) (fun _ h => h) rfl hdg kk
theorem gCN_Ter_head {host : String} (X : Fx p s m meth c D cA A own cc nL rt) (hP : va_P D vwCl (wC cA ad ta σ) H) (hlk : Cond.fieldLinkNest own index "NeededTrees$Terms" "head" "[I" host ∈ lw_tbl) (hdg : decode cc pc = .ok (.getfield index, 3)) (kk : W p l e R s m args below meth c H locs cells slots Q (F0 m (pc + 3) ls (.ref (ad 33) :: rest))) : W p l e R s m args below meth c H locs cells slots Q (F0 m pc ls (.ref (ad 6) :: rest)) := by
  obtain ⟨hx, hb, -, -, hown, -, hE, hK, -⟩ := X
  exact va_getN hx hb (hE.use args) inG5 hown hK hP 6 rfl rfl 1 (by decide) (hE.at args hlk) (fun _ h => h) rfl hdg kk
theorem gC_Ter_left (X : Fx p s m meth c D cA A own cc nL rt) (hP : va_P D vwCl (wC cA ad ta σ) H) (hlk : Cond.fieldLink own index "NeededTrees$Terms" "left" "I" ∈ lw_tbl) (hdg : decode cc pc = .ok (.getfield index, 3)) (kk : W p l e R s m args below meth c H locs cells slots Q (F0 m (pc + 3) ls (.int (gF σ 14) :: rest))) : W p l e R s m args below meth c H locs cells slots Q (F0 m pc ls (.ref (ad 6) :: rest)) := by
  obtain ⟨hx, hb, -, -, hown, -, hE, hK, -⟩ := X
  exact va_get hx hb (hE.use args) inG5 hown hK hP 6 rfl rfl 11 (by decide) (hE.at args hlk) (fun _ h => h) rfl hdg kk
theorem gC_Ter_length (X : Fx p s m meth c D cA A own cc nL rt) (hP : va_P D vwCl (wC cA ad ta σ) H) (hlk : Cond.fieldLink own index "NeededTrees$Terms" "length" "I" ∈ lw_tbl) (hdg : decode cc pc = .ok (.getfield index, 3)) (kk : W p l e R s m args below meth c H locs cells slots Q (F0 m (pc + 3) ls (.int (gF σ 13) :: rest))) : W p l e R s m args below meth c H locs cells slots Q (F0 m pc ls (.ref (ad 6) :: rest)) := by
  obtain ⟨hx, hb, -, -, hown, -, hE, hK, -⟩ := X
  exact va_get hx hb (hE.use args) inG5 hown hK hP 6 rfl rfl 10 (by decide) (hE.at args hlk) (fun _ h => h) rfl hdg kk
theorem gCN_Ter_length {host : String} (X : Fx p s m meth c D cA A own cc nL rt) (hP : va_P D vwCl (wC cA ad ta σ) H) (hlk : Cond.fieldLinkNest own index "NeededTrees$Terms" "length" "I" host ∈ lw_tbl) (hdg : decode cc pc = .ok (.getfield index, 3)) (kk : W p l e R s m args below meth c H locs cells slots Q (F0 m (pc + 3) ls (.int (gF σ 13) :: rest))) : W p l e R s m args below meth c H locs cells slots Q (F0 m pc ls (.ref (ad 6) :: rest)) := by
  obtain ⟨hx, hb, -, -, hown, -, hE, hK, -⟩ := X
  exact va_getN hx hb (hE.use args) inG5 hown hK hP 6 rfl rfl 10 (by decide) (hE.at args hlk) (fun _ h => h) rfl hdg kk
theorem gC_Ter_signature (X : Fx p s m meth c D cA A own cc nL rt) (hP : va_P D vwCl (wC cA ad ta σ) H) (hlk : Cond.fieldLink own index "NeededTrees$Terms" "signature" "LNeededTrees$Signature;" ∈ lw_tbl) (hdg : decode cc pc = .ok (.getfield index, 3)) (kk : W p l e R s m args below meth c H locs cells slots Q (F0 m (pc + 3) ls (.ref (ad 1) :: rest))) : W p l e R s m args below meth c H locs cells slots Q (F0 m pc ls (.ref (ad 6) :: rest)) := by
  obtain ⟨hx, hb, -, -, hown, -, hE, hK, -⟩ := X
  exact va_get hx hb (hE.use args) inG5 hown hK hP 6 rfl rfl 0 (by decide) (hE.at args hlk) (fun _ h => h) rfl hdg kk
theorem gC_Ter_times (X : Fx p s m meth c D cA A own cc nL rt) (hP : va_P D vwCl (wC cA ad ta σ) H) (hlk : Cond.fieldLink own index "NeededTrees$Terms" "times" "[I" ∈ lw_tbl) (hdg : decode cc pc = .ok (.getfield index, 3)) (kk : W p l e R s m args below meth c H locs cells slots Q (F0 m (pc + 3) ls (.ref (ad 36) :: rest))) : W p l e R s m args below meth c H locs cells slots Q (F0 m pc ls (.ref (ad 6) :: rest)) := by
  obtain ⟨hx, hb, -, -, hown, -, hE, hK, -⟩ := X
  exact va_get hx hb (hE.use args) inG5 hown hK hP 6 rfl rfl 4 (by decide) (hE.at args hlk) (fun _ h => h) rfl hdg kk
theorem gC_Ter_unwritten (X : Fx p s m meth c D cA A own cc nL rt) (hP : va_P D vwCl (wC cA ad ta σ) H) (hlk : Cond.fieldLink own index "NeededTrees$Terms" "unwritten" "[I" ∈ lw_tbl) (hdg : decode cc pc = .ok (.getfield index, 3)) (kk : W p l e R s m args below meth c H locs cells slots Q (F0 m (pc + 3) ls (.ref (ad 39) :: rest))) : W p l e R s m args below meth c H locs cells slots Q (F0 m pc ls (.ref (ad 6) :: rest)) := by
  obtain ⟨hx, hb, -, -, hown, -, hE, hK, -⟩ := X
  exact va_get hx hb (hE.use args) inG5 hown hK hP 6 rfl rfl 7 (by decide) (hE.at args hlk) (fun _ h => h) rfl hdg kk
theorem gC_Tre_children (X : Fx p s m meth c D cA A own cc nL rt) (hP : va_P D vwCl (wC cA ad ta σ) H) (hlk : Cond.fieldLink own index "NeededTrees$Tree" "children" "[I" ∈ lw_tbl) (hdg : decode cc pc = .ok (.getfield index, 3)) (kk : W p l e R s m args below meth c H locs cells slots Q (F0 m (pc + 3) ls (.ref (ad 25) :: rest))) : W p l e R s m args below meth c H locs cells slots Q (F0 m pc ls (.ref (ad 4) :: rest)) := by
  obtain ⟨hx, hb, -, -, hown, -, hE, hK, -⟩ := X
  exact va_get hx hb (hE.use args) inG6 hown hK hP 4 rfl rfl 2 (by decide) (hE.at args hlk) (fun _ h => h) rfl hdg kk
theorem gC_Tre_covering (X : Fx p s m meth c D cA A own cc nL rt) (hP : va_P D vwCl (wC cA ad ta σ) H) (hlk : Cond.fieldLink own index "NeededTrees$Tree" "covering" "[I" ∈ lw_tbl) (hdg : decode cc pc = .ok (.getfield index, 3)) (kk : W p l e R s m args below meth c H locs cells slots Q (F0 m (pc + 3) ls (.ref (ad 28) :: rest))) : W p l e R s m args below meth c H locs cells slots Q (F0 m pc ls (.ref (ad 4) :: rest)) := by
  obtain ⟨hx, hb, -, -, hown, -, hE, hK, -⟩ := X
  exact va_get hx hb (hE.use args) inG6 hown hK hP 4 rfl rfl 5 (by decide) (hE.at args hlk) (fun _ h => h) rfl hdg kk
theorem gC_Tre_depth (X : Fx p s m meth c D cA A own cc nL rt) (hP : va_P D vwCl (wC cA ad ta σ) H) (hlk : Cond.fieldLink own index "NeededTrees$Tree" "depth" "[I" ∈ lw_tbl) (hdg : decode cc pc = .ok (.getfield index, 3)) (kk : W p l e R s m args below meth c H locs cells slots Q (F0 m (pc + 3) ls (.ref (ad 27) :: rest))) : W p l e R s m args below meth c H locs cells slots Q (F0 m pc ls (.ref (ad 4) :: rest)) := by
  obtain ⟨hx, hb, -, -, hown, -, hE, hK, -⟩ := X
  exact va_get hx hb (hE.use args) inG6 hown hK hP 4 rfl rfl 4 (by decide) (hE.at args hlk) (fun _ h => h) rfl hdg kk
theorem gCN_Tre_depth {host : String} (X : Fx p s m meth c D cA A own cc nL rt) (hP : va_P D vwCl (wC cA ad ta σ) H) (hlk : Cond.fieldLinkNest own index "NeededTrees$Tree" "depth" "[I" host ∈ lw_tbl) (hdg : decode cc pc = .ok (.getfield index, 3)) (kk : W p l e R s m args below meth c H locs cells slots Q (F0 m (pc + 3) ls (.ref (ad 27) :: rest))) : W p l e R s m args below meth c H locs cells slots Q (F0 m pc ls (.ref (ad 4) :: rest)) := by
  obtain ⟨hx, hb, -, -, hown, -, hE, hK, -⟩ := X
  exact va_getN hx hb (hE.use args) inG6 hown hK hP 4 rfl rfl 4 (by decide) (hE.at args hlk) (fun _ h => h) rfl hdg kk
theorem gC_Tre_kind (X : Fx p s m meth c D cA A own cc nL rt) (hP : va_P D vwCl (wC cA ad ta σ) H) (hlk : Cond.fieldLink own index "NeededTrees$Tree" "kind" "[I" ∈ lw_tbl) (hdg : decode cc pc = .ok (.getfield index, 3)) (kk : W p l e R s m args below meth c H locs cells slots Q (F0 m (pc + 3) ls (.ref (ad 23) :: rest))) : W p l e R s m args below meth c H locs cells slots Q (F0 m pc ls (.ref (ad 4) :: rest)) := by
  obtain ⟨hx, hb, -, -, hown, -, hE, hK, -⟩ := X
  exact va_get hx hb (hE.use args) inG6 hown hK hP 4 rfl rfl 0 (by decide) (hE.at args hlk) (fun _ h => h) rfl hdg kk
theorem gCN_Tre_kind {host : String} (X : Fx p s m meth c D cA A own cc nL rt) (hP : va_P D vwCl (wC cA ad ta σ) H) (hlk : Cond.fieldLinkNest own index "NeededTrees$Tree" "kind" "[I" host ∈ lw_tbl) (hdg : decode cc pc = .ok (.getfield index, 3)) (kk : W p l e R s m args below meth c H locs cells slots Q (F0 m (pc + 3) ls (.ref (ad 23) :: rest))) : W p l e R s m args below meth c H locs cells slots Q (F0 m pc ls (.ref (ad 4) :: rest)) := by
  obtain ⟨hx, hb, -, -, hown, -, hE, hK, -⟩ := X
  exact va_getN hx hb (hE.use args) inG6 hown hK hP 4 rfl rfl 0 (by decide) (hE.at args hlk) (fun _ h => h) rfl hdg kk
theorem gC_Tre_label (X : Fx p s m meth c D cA A own cc nL rt) (hP : va_P D vwCl (wC cA ad ta σ) H) (hlk : Cond.fieldLink own index "NeededTrees$Tree" "label" "[I" ∈ lw_tbl) (hdg : decode cc pc = .ok (.getfield index, 3)) (kk : W p l e R s m args below meth c H locs cells slots Q (F0 m (pc + 3) ls (.ref (ad 26) :: rest))) : W p l e R s m args below meth c H locs cells slots Q (F0 m pc ls (.ref (ad 4) :: rest)) := by
  obtain ⟨hx, hb, -, -, hown, -, hE, hK, -⟩ := X
  exact va_get hx hb (hE.use args) inG6 hown hK hP 4 rfl rfl 3 (by decide) (hE.at args hlk) (fun _ h => h) rfl hdg kk
theorem gCN_Tre_label {host : String} (X : Fx p s m meth c D cA A own cc nL rt) (hP : va_P D vwCl (wC cA ad ta σ) H) (hlk : Cond.fieldLinkNest own index "NeededTrees$Tree" "label" "[I" host ∈ lw_tbl) (hdg : decode cc pc = .ok (.getfield index, 3)) (kk : W p l e R s m args below meth c H locs cells slots Q (F0 m (pc + 3) ls (.ref (ad 26) :: rest))) : W p l e R s m args below meth c H locs cells slots Q (F0 m pc ls (.ref (ad 4) :: rest)) := by
  obtain ⟨hx, hb, -, -, hown, -, hE, hK, -⟩ := X
  exact va_getN hx hb (hE.use args) inG6 hown hK hP 4 rfl rfl 3 (by decide) (hE.at args hlk) (fun _ h => h) rfl hdg kk
theorem gC_Tre_nodes (X : Fx p s m meth c D cA A own cc nL rt) (hP : va_P D vwCl (wC cA ad ta σ) H) (hlk : Cond.fieldLink own index "NeededTrees$Tree" "nodes" "I" ∈ lw_tbl) (hdg : decode cc pc = .ok (.getfield index, 3)) (kk : W p l e R s m args below meth c H locs cells slots Q (F0 m (pc + 3) ls (.int (gF σ 9) :: rest))) : W p l e R s m args below meth c H locs cells slots Q (F0 m pc ls (.ref (ad 4) :: rest)) := by
  obtain ⟨hx, hb, -, -, hown, -, hE, hK, -⟩ := X
  exact va_get hx hb (hE.use args) inG6 hown hK hP 4 rfl rfl 6 (by decide) (hE.at args hlk) (fun _ h => h) rfl hdg kk
theorem gCN_Tre_nodes {host : String} (X : Fx p s m meth c D cA A own cc nL rt) (hP : va_P D vwCl (wC cA ad ta σ) H) (hlk : Cond.fieldLinkNest own index "NeededTrees$Tree" "nodes" "I" host ∈ lw_tbl) (hdg : decode cc pc = .ok (.getfield index, 3)) (kk : W p l e R s m args below meth c H locs cells slots Q (F0 m (pc + 3) ls (.int (gF σ 9) :: rest))) : W p l e R s m args below meth c H locs cells slots Q (F0 m pc ls (.ref (ad 4) :: rest)) := by
  obtain ⟨hx, hb, -, -, hown, -, hE, hK, -⟩ := X
  exact va_getN hx hb (hE.use args) inG6 hown hK hP 4 rfl rfl 6 (by decide) (hE.at args hlk) (fun _ h => h) rfl hdg kk
theorem gC_Tre_subject (X : Fx p s m meth c D cA A own cc nL rt) (hP : va_P D vwCl (wC cA ad ta σ) H) (hlk : Cond.fieldLink own index "NeededTrees$Tree" "subject" "[I" ∈ lw_tbl) (hdg : decode cc pc = .ok (.getfield index, 3)) (kk : W p l e R s m args below meth c H locs cells slots Q (F0 m (pc + 3) ls (.ref (ad 24) :: rest))) : W p l e R s m args below meth c H locs cells slots Q (F0 m pc ls (.ref (ad 4) :: rest)) := by
  obtain ⟨hx, hb, -, -, hown, -, hE, hK, -⟩ := X
  exact va_get hx hb (hE.use args) inG6 hown hK hP 4 rfl rfl 1 (by decide) (hE.at args hlk) (fun _ h => h) rfl hdg kk
theorem gCN_Tre_subject {host : String} (X : Fx p s m meth c D cA A own cc nL rt) (hP : va_P D vwCl (wC cA ad ta σ) H) (hlk : Cond.fieldLinkNest own index "NeededTrees$Tree" "subject" "[I" host ∈ lw_tbl) (hdg : decode cc pc = .ok (.getfield index, 3)) (kk : W p l e R s m args below meth c H locs cells slots Q (F0 m (pc + 3) ls (.ref (ad 24) :: rest))) : W p l e R s m args below meth c H locs cells slots Q (F0 m pc ls (.ref (ad 4) :: rest)) := by
  obtain ⟨hx, hb, -, -, hown, -, hE, hK, -⟩ := X
  exact va_getN hx hb (hE.use args) inG6 hown hK hP 4 rfl rfl 1 (by decide) (hE.at args hlk) (fun _ h => h) rfl hdg kk
theorem gC_Wal_asks (X : Fx p s m meth c D cA A own cc nL rt) (hP : va_P D vwCl (wC cA ad ta σ) H) (hlk : Cond.fieldLink own index "NeededTrees$Walk" "asks" "[I" ∈ lw_tbl) (hdg : decode cc pc = .ok (.getfield index, 3)) (kk : W p l e R s m args below meth c H locs cells slots Q (F0 m (pc + 3) ls (.ref (ad 46) :: rest))) : W p l e R s m args below meth c H locs cells slots Q (F0 m pc ls (.ref (ad 8) :: rest)) := by
  obtain ⟨hx, hb, -, -, hown, -, hE, hK, -⟩ := X
  exact va_get hx hb (hE.use args) inG7 hown hK hP 8 rfl rfl 6 (by decide) (hE.at args hlk) (fun _ h => h) rfl hdg kk
theorem gC_Wal_cells (X : Fx p s m meth c D cA A own cc nL rt) (hP : va_P D vwCl (wC cA ad ta σ) H) (hlk : Cond.fieldLink own index "NeededTrees$Walk" "cells" "[I" ∈ lw_tbl) (hdg : decode cc pc = .ok (.getfield index, 3)) (kk : W p l e R s m args below meth c H locs cells slots Q (F0 m (pc + 3) ls (.ref (ad 45) :: rest))) : W p l e R s m args below meth c H locs cells slots Q (F0 m pc ls (.ref (ad 8) :: rest)) := by
  obtain ⟨hx, hb, -, -, hown, -, hE, hK, -⟩ := X
  exact va_get hx hb (hE.use args) inG7 hown hK hP 8 rfl rfl 5 (by decide) (hE.at args hlk) (fun _ h => h) rfl hdg kk
theorem gC_Wal_freeAsks (X : Fx p s m meth c D cA A own cc nL rt) (hP : va_P D vwCl (wC cA ad ta σ) H) (hlk : Cond.fieldLink own index "NeededTrees$Walk" "freeAsks" "[I" ∈ lw_tbl) (hdg : decode cc pc = .ok (.getfield index, 3)) (kk : W p l e R s m args below meth c H locs cells slots Q (F0 m (pc + 3) ls (.ref (ad 47) :: rest))) : W p l e R s m args below meth c H locs cells slots Q (F0 m pc ls (.ref (ad 8) :: rest)) := by
  obtain ⟨hx, hb, -, -, hown, -, hE, hK, -⟩ := X
  exact va_get hx hb (hE.use args) inG7 hown hK hP 8 rfl rfl 7 (by decide) (hE.at args hlk) (fun _ h => h) rfl hdg kk
theorem gC_Wal_marks (X : Fx p s m meth c D cA A own cc nL rt) (hP : va_P D vwCl (wC cA ad ta σ) H) (hlk : Cond.fieldLink own index "NeededTrees$Walk" "marks" "[I" ∈ lw_tbl) (hdg : decode cc pc = .ok (.getfield index, 3)) (kk : W p l e R s m args below meth c H locs cells slots Q (F0 m (pc + 3) ls (.ref (ad 44) :: rest))) : W p l e R s m args below meth c H locs cells slots Q (F0 m pc ls (.ref (ad 8) :: rest)) := by
  obtain ⟨hx, hb, -, -, hown, -, hE, hK, -⟩ := X
  exact va_get hx hb (hE.use args) inG7 hown hK hP 8 rfl rfl 4 (by decide) (hE.at args hlk) (fun _ h => h) rfl hdg kk
theorem gC_Wal_outcomes (X : Fx p s m meth c D cA A own cc nL rt) (hP : va_P D vwCl (wC cA ad ta σ) H) (hlk : Cond.fieldLink own index "NeededTrees$Walk" "outcomes" "LNeededTrees$Outcomes;" ∈ lw_tbl) (hdg : decode cc pc = .ok (.getfield index, 3)) (kk : W p l e R s m args below meth c H locs cells slots Q (F0 m (pc + 3) ls (.ref (ad 7) :: rest))) : W p l e R s m args below meth c H locs cells slots Q (F0 m pc ls (.ref (ad 8) :: rest)) := by
  obtain ⟨hx, hb, -, -, hown, -, hE, hK, -⟩ := X
  exact va_get hx hb (hE.use args) inG7 hown hK hP 8 rfl rfl 3 (by decide) (hE.at args hlk) (fun _ h => h) rfl hdg kk
theorem gC_Wal_rules (X : Fx p s m meth c D cA A own cc nL rt) (hP : va_P D vwCl (wC cA ad ta σ) H) (hlk : Cond.fieldLink own index "NeededTrees$Walk" "rules" "LNeededTrees$Rules;" ∈ lw_tbl) (hdg : decode cc pc = .ok (.getfield index, 3)) (kk : W p l e R s m args below meth c H locs cells slots Q (F0 m (pc + 3) ls (.ref (ad 3) :: rest))) : W p l e R s m args below meth c H locs cells slots Q (F0 m pc ls (.ref (ad 8) :: rest)) := by
  obtain ⟨hx, hb, -, -, hown, -, hE, hK, -⟩ := X
  exact va_get hx hb (hE.use args) inG7 hown hK hP 8 rfl rfl 0 (by decide) (hE.at args hlk) (fun _ h => h) rfl hdg kk
theorem gC_Wal_terms (X : Fx p s m meth c D cA A own cc nL rt) (hP : va_P D vwCl (wC cA ad ta σ) H) (hlk : Cond.fieldLink own index "NeededTrees$Walk" "terms" "LNeededTrees$Terms;" ∈ lw_tbl) (hdg : decode cc pc = .ok (.getfield index, 3)) (kk : W p l e R s m args below meth c H locs cells slots Q (F0 m (pc + 3) ls (.ref (ad 6) :: rest))) : W p l e R s m args below meth c H locs cells slots Q (F0 m pc ls (.ref (ad 8) :: rest)) := by
  obtain ⟨hx, hb, -, -, hown, -, hE, hK, -⟩ := X
  exact va_get hx hb (hE.use args) inG7 hown hK hP 8 rfl rfl 2 (by decide) (hE.at args hlk) (fun _ h => h) rfl hdg kk
theorem gC_Wal_tree (X : Fx p s m meth c D cA A own cc nL rt) (hP : va_P D vwCl (wC cA ad ta σ) H) (hlk : Cond.fieldLink own index "NeededTrees$Walk" "tree" "LNeededTrees$Tree;" ∈ lw_tbl) (hdg : decode cc pc = .ok (.getfield index, 3)) (kk : W p l e R s m args below meth c H locs cells slots Q (F0 m (pc + 3) ls (.ref (ad 4) :: rest))) : W p l e R s m args below meth c H locs cells slots Q (F0 m pc ls (.ref (ad 8) :: rest)) := by
  obtain ⟨hx, hb, -, -, hown, -, hE, hK, -⟩ := X
  exact va_get hx hb (hE.use args) inG7 hown hK hP 8 rfl rfl 1 (by decide) (hE.at args hlk) (fun _ h => h) rfl hdg kk
theorem gC_Top_outcomes (X : Fx p s m meth c D cA A own cc nL rt) (hP : va_P D vwCl (wC cA ad ta σ) H) (hlk : Cond.fieldLink own index "NeededTrees" "outcomes" "LNeededTrees$Outcomes;" ∈ lw_tbl) (hdg : decode cc pc = .ok (.getfield index, 3)) (kk : W p l e R s m args below meth c H locs cells slots Q (F0 m (pc + 3) ls (.ref (ad 7) :: rest))) : W p l e R s m args below meth c H locs cells slots Q (F0 m pc ls (.ref (ad 0) :: rest)) := by
  obtain ⟨hx, hb, -, -, hown, -, hE, hK, -⟩ := X
  exact va_get hx hb (hE.use args) inG8 hown hK hP 0 rfl rfl 6 (by decide) (hE.at args hlk) (fun _ h => h) rfl hdg kk
theorem gC_Top_planter (X : Fx p s m meth c D cA A own cc nL rt) (hP : va_P D vwCl (wC cA ad ta σ) H) (hlk : Cond.fieldLink own index "NeededTrees" "planter" "LNeededTrees$Planter;" ∈ lw_tbl) (hdg : decode cc pc = .ok (.getfield index, 3)) (kk : W p l e R s m args below meth c H locs cells slots Q (F0 m (pc + 3) ls (.ref (ad 5) :: rest))) : W p l e R s m args below meth c H locs cells slots Q (F0 m pc ls (.ref (ad 0) :: rest)) := by
  obtain ⟨hx, hb, -, -, hown, -, hE, hK, -⟩ := X
  exact va_get hx hb (hE.use args) inG8 hown hK hP 0 rfl rfl 4 (by decide) (hE.at args hlk) (fun _ h => h) rfl hdg kk
theorem gC_Top_row (X : Fx p s m meth c D cA A own cc nL rt) (hP : va_P D vwCl (wC cA ad ta σ) H) (hlk : Cond.fieldLink own index "NeededTrees" "row" "LNeededTrees$Row;" ∈ lw_tbl) (hdg : decode cc pc = .ok (.getfield index, 3)) (kk : W p l e R s m args below meth c H locs cells slots Q (F0 m (pc + 3) ls (.ref (ad 2) :: rest))) : W p l e R s m args below meth c H locs cells slots Q (F0 m pc ls (.ref (ad 0) :: rest)) := by
  obtain ⟨hx, hb, -, -, hown, -, hE, hK, -⟩ := X
  exact va_get hx hb (hE.use args) inG8 hown hK hP 0 rfl rfl 1 (by decide) (hE.at args hlk) (fun _ h => h) rfl hdg kk
theorem gC_Top_rules (X : Fx p s m meth c D cA A own cc nL rt) (hP : va_P D vwCl (wC cA ad ta σ) H) (hlk : Cond.fieldLink own index "NeededTrees" "rules" "LNeededTrees$Rules;" ∈ lw_tbl) (hdg : decode cc pc = .ok (.getfield index, 3)) (kk : W p l e R s m args below meth c H locs cells slots Q (F0 m (pc + 3) ls (.ref (ad 3) :: rest))) : W p l e R s m args below meth c H locs cells slots Q (F0 m pc ls (.ref (ad 0) :: rest)) := by
  obtain ⟨hx, hb, -, -, hown, -, hE, hK, -⟩ := X
  exact va_get hx hb (hE.use args) inG8 hown hK hP 0 rfl rfl 2 (by decide) (hE.at args hlk) (fun _ h => h) rfl hdg kk
theorem gC_Top_signature (X : Fx p s m meth c D cA A own cc nL rt) (hP : va_P D vwCl (wC cA ad ta σ) H) (hlk : Cond.fieldLink own index "NeededTrees" "signature" "LNeededTrees$Signature;" ∈ lw_tbl) (hdg : decode cc pc = .ok (.getfield index, 3)) (kk : W p l e R s m args below meth c H locs cells slots Q (F0 m (pc + 3) ls (.ref (ad 1) :: rest))) : W p l e R s m args below meth c H locs cells slots Q (F0 m pc ls (.ref (ad 0) :: rest)) := by
  obtain ⟨hx, hb, -, -, hown, -, hE, hK, -⟩ := X
  exact va_get hx hb (hE.use args) inG8 hown hK hP 0 rfl rfl 0 (by decide) (hE.at args hlk) (fun _ h => h) rfl hdg kk
theorem gC_Top_terms (X : Fx p s m meth c D cA A own cc nL rt) (hP : va_P D vwCl (wC cA ad ta σ) H) (hlk : Cond.fieldLink own index "NeededTrees" "terms" "LNeededTrees$Terms;" ∈ lw_tbl) (hdg : decode cc pc = .ok (.getfield index, 3)) (kk : W p l e R s m args below meth c H locs cells slots Q (F0 m (pc + 3) ls (.ref (ad 6) :: rest))) : W p l e R s m args below meth c H locs cells slots Q (F0 m pc ls (.ref (ad 0) :: rest)) := by
  obtain ⟨hx, hb, -, -, hown, -, hE, hK, -⟩ := X
  exact va_get hx hb (hE.use args) inG8 hown hK hP 0 rfl rfl 5 (by decide) (hE.at args hlk) (fun _ h => h) rfl hdg kk
theorem gC_Top_tree (X : Fx p s m meth c D cA A own cc nL rt) (hP : va_P D vwCl (wC cA ad ta σ) H) (hlk : Cond.fieldLink own index "NeededTrees" "tree" "LNeededTrees$Tree;" ∈ lw_tbl) (hdg : decode cc pc = .ok (.getfield index, 3)) (kk : W p l e R s m args below meth c H locs cells slots Q (F0 m (pc + 3) ls (.ref (ad 4) :: rest))) : W p l e R s m args below meth c H locs cells slots Q (F0 m pc ls (.ref (ad 0) :: rest)) := by
  obtain ⟨hx, hb, -, -, hown, -, hE, hK, -⟩ := X
  exact va_get hx hb (hE.use args) inG8 hown hK hP 0 rfl rfl 3 (by decide) (hE.at args hlk) (fun _ h => h) rfl hdg kk
theorem gC_Top_treeIsOld (X : Fx p s m meth c D cA A own cc nL rt) (hP : va_P D vwCl (wC cA ad ta σ) H) (hlk : Cond.fieldLink own index "NeededTrees" "treeIsOld" "Z" ∈ lw_tbl) (hdg : decode cc pc = .ok (.getfield index, 3)) (kk : W p l e R s m args below meth c H locs cells slots Q (F0 m (pc + 3) ls (.int (gF σ 0) :: rest))) : W p l e R s m args below meth c H locs cells slots Q (F0 m pc ls (.ref (ad 0) :: rest)) := by
  obtain ⟨hx, hb, -, -, hown, -, hE, hK, -⟩ := X
  exact va_get hx hb (hE.use args) inG8 hown hK hP 0 rfl rfl 8 (by decide) (hE.at args hlk) (fun _ h => h) rfl hdg kk
theorem gC_Top_walk (X : Fx p s m meth c D cA A own cc nL rt) (hP : va_P D vwCl (wC cA ad ta σ) H) (hlk : Cond.fieldLink own index "NeededTrees" "walk" "LNeededTrees$Walk;" ∈ lw_tbl) (hdg : decode cc pc = .ok (.getfield index, 3)) (kk : W p l e R s m args below meth c H locs cells slots Q (F0 m (pc + 3) ls (.ref (ad 8) :: rest))) : W p l e R s m args below meth c H locs cells slots Q (F0 m pc ls (.ref (ad 0) :: rest)) := by
  obtain ⟨hx, hb, -, -, hown, -, hE, hK, -⟩ := X
  exact va_get hx hb (hE.use args) inG8 hown hK hP 0 rfl rfl 7 (by decide) (hE.at args hlk) (fun _ h => h) rfl hdg kk
theorem pC_Out_many (X : Fx p s m meth c D cA A own cc nL rt) (hP : va_P D vwCl (wC cA ad ta σ) H) (hD : va_D A (wC cA ad ta σ)) (hS : va_S A s.heap H locs) (hlk : Cond.fieldLink own index "NeededTrees$Outcomes" "many" "I" ∈ lw_tbl) (hdg : decode cc pc = .ok (.putfield index, 3)) (kk : ∀ (H1 : Heap) (locs1 : List Loc), va_P D vwCl (wC cA ad ta (sF σ 15 v)) H1 → va_D A (wC cA ad ta (sF σ 15 v)) → va_S A s.heap H1 locs1 → W p l e R s m args below meth c H1 locs1 cells slots Q (F0 m (pc + 3) ls rest)) : W p l e R s m args below meth c H locs cells slots Q (F0 m pc ls (.int v :: .ref (ad 7) :: rest)) := by
  obtain ⟨hx, hb, -, -, hown, -, hE, hK, -⟩ := X
  exact va_put hx hb (hE.use args) inG0 tyX0 tyX0_ok nmX0 hown hK hP hD hS 7 rfl rfl 5 (by decide) (hE.at args hlk) (fun _ h => h) rfl rfl rfl rfl (Nat.le_of_ble_eq_true rfl) hdg kk
theorem pC_Pla_waiting (X : Fx p s m meth c D cA A own cc nL rt) (hP : va_P D vwCl (wC cA ad ta σ) H) (hD : va_D A (wC cA ad ta σ)) (hS : va_S A s.heap H locs) (hlk : Cond.fieldLink own index "NeededTrees$Planter" "waiting" "I" ∈ lw_tbl) (hdg : decode cc pc = .ok (.putfield index, 3)) (kk : ∀ (H1 : Heap) (locs1 : List Loc), va_P D vwCl (wC cA ad ta (sF σ 10 v)) H1 → va_D A (wC cA ad ta (sF σ 10 v)) → va_S A s.heap H1 locs1 → W p l e R s m args below meth c H1 locs1 cells slots Q (F0 m (pc + 3) ls rest)) : W p l e R s m args below meth c H locs cells slots Q (F0 m pc ls (.int v :: .ref (ad 5) :: rest)) := by
  obtain ⟨hx, hb, -, -, hown, -, hE, hK, -⟩ := X
  exact va_put hx hb (hE.use args) inG1 tyX1 tyX1_ok nmX1 hown hK hP hD hS 5 rfl rfl 6 (by decide) (hE.at args hlk) (fun _ h => h) rfl rfl rfl rfl (Nat.le_of_ble_eq_true rfl) hdg kk
theorem pC_Row_holder (X : Fx p s m meth c D cA A own cc nL rt) (hP : va_P D vwCl (wC cA ad ta σ) H) (hD : va_D A (wC cA ad ta σ)) (hS : va_S A s.heap H locs) (hlk : Cond.fieldLink own index "NeededTrees$Row" "holder" "I" ∈ lw_tbl) (hdg : decode cc pc = .ok (.putfield index, 3)) (kk : ∀ (H1 : Heap) (locs1 : List Loc), va_P D vwCl (wC cA ad ta (sF σ 6 v)) H1 → va_D A (wC cA ad ta (sF σ 6 v)) → va_S A s.heap H1 locs1 → W p l e R s m args below meth c H1 locs1 cells slots Q (F0 m (pc + 3) ls rest)) : W p l e R s m args below meth c H locs cells slots Q (F0 m pc ls (.int v :: .ref (ad 2) :: rest)) := by
  obtain ⟨hx, hb, -, -, hown, -, hE, hK, -⟩ := X
  exact va_put hx hb (hE.use args) inG2 tyX2 tyX2_ok nmX2 hown hK hP hD hS 2 rfl rfl 6 (by decide) (hE.at args hlk) (fun _ h => h) rfl rfl rfl rfl (Nat.le_of_ble_eq_true rfl) hdg kk
theorem pC_Row_length (X : Fx p s m meth c D cA A own cc nL rt) (hP : va_P D vwCl (wC cA ad ta σ) H) (hD : va_D A (wC cA ad ta σ)) (hS : va_S A s.heap H locs) (hlk : Cond.fieldLink own index "NeededTrees$Row" "length" "I" ∈ lw_tbl) (hdg : decode cc pc = .ok (.putfield index, 3)) (kk : ∀ (H1 : Heap) (locs1 : List Loc), va_P D vwCl (wC cA ad ta (sF σ 5 v)) H1 → va_D A (wC cA ad ta (sF σ 5 v)) → va_S A s.heap H1 locs1 → W p l e R s m args below meth c H1 locs1 cells slots Q (F0 m (pc + 3) ls rest)) : W p l e R s m args below meth c H locs cells slots Q (F0 m pc ls (.int v :: .ref (ad 2) :: rest)) := by
  obtain ⟨hx, hb, -, -, hown, -, hE, hK, -⟩ := X
  exact va_put hx hb (hE.use args) inG2 tyX2 tyX2_ok nmX2 hown hK hP hD hS 2 rfl rfl 5 (by decide) (hE.at args hlk) (fun _ h => h) rfl rfl rfl rfl (Nat.le_of_ble_eq_true rfl) hdg kk
theorem pC_Row_next (X : Fx p s m meth c D cA A own cc nL rt) (hP : va_P D vwCl (wC cA ad ta σ) H) (hD : va_D A (wC cA ad ta σ)) (hS : va_S A s.heap H locs) (hlk : Cond.fieldLink own index "NeededTrees$Row" "next" "I" ∈ lw_tbl) (hdg : decode cc pc = .ok (.putfield index, 3)) (kk : ∀ (H1 : Heap) (locs1 : List Loc), va_P D vwCl (wC cA ad ta (sF σ 7 v)) H1 → va_D A (wC cA ad ta (sF σ 7 v)) → va_S A s.heap H1 locs1 → W p l e R s m args below meth c H1 locs1 cells slots Q (F0 m (pc + 3) ls rest)) : W p l e R s m args below meth c H locs cells slots Q (F0 m pc ls (.int v :: .ref (ad 2) :: rest)) := by
  obtain ⟨hx, hb, -, -, hown, -, hE, hK, -⟩ := X
  exact va_put hx hb (hE.use args) inG2 tyX2 tyX2_ok nmX2 hown hK hP hD hS 2 rfl rfl 7 (by decide) (hE.at args hlk) (fun _ h => h) rfl rfl rfl rfl (Nat.le_of_ble_eq_true rfl) hdg kk
theorem pC_Rul_many (X : Fx p s m meth c D cA A own cc nL rt) (hP : va_P D vwCl (wC cA ad ta σ) H) (hD : va_D A (wC cA ad ta σ)) (hS : va_S A s.heap H locs) (hlk : Cond.fieldLink own index "NeededTrees$Rules" "many" "I" ∈ lw_tbl) (hdg : decode cc pc = .ok (.putfield index, 3)) (kk : ∀ (H1 : Heap) (locs1 : List Loc), va_P D vwCl (wC cA ad ta (sF σ 8 v)) H1 → va_D A (wC cA ad ta (sF σ 8 v)) → va_S A s.heap H1 locs1 → W p l e R s m args below meth c H1 locs1 cells slots Q (F0 m (pc + 3) ls rest)) : W p l e R s m args below meth c H locs cells slots Q (F0 m pc ls (.int v :: .ref (ad 3) :: rest)) := by
  obtain ⟨hx, hb, -, -, hown, -, hE, hK, -⟩ := X
  exact va_put hx hb (hE.use args) inG3 tyX3 tyX3_ok nmX3 hown hK hP hD hS 3 rfl rfl 6 (by decide) (hE.at args hlk) (fun _ h => h) rfl rfl rfl rfl (Nat.le_of_ble_eq_true rfl) hdg kk
theorem pC_Sig_argumentTypes (X : Fx p s m meth c D cA A own cc nL rt) (hP : va_P D vwCl (wC cA ad ta σ) H) (hD : va_D A (wC cA ad ta σ)) (hS : va_S A s.heap H locs) (hlk : Cond.fieldLink own index "NeededTrees$Signature" "argumentTypes" "I" ∈ lw_tbl) (hdg : decode cc pc = .ok (.putfield index, 3)) (kk : ∀ (H1 : Heap) (locs1 : List Loc), va_P D vwCl (wC cA ad ta (sF σ 4 v)) H1 → va_D A (wC cA ad ta (sF σ 4 v)) → va_S A s.heap H1 locs1 → W p l e R s m args below meth c H1 locs1 cells slots Q (F0 m (pc + 3) ls rest)) : W p l e R s m args below meth c H locs cells slots Q (F0 m pc ls (.int v :: .ref (ad 1) :: rest)) := by
  obtain ⟨hx, hb, -, -, hown, -, hE, hK, -⟩ := X
  exact va_put hx hb (hE.use args) inG4 tyX4 tyX4_ok nmX4 hown hK hP hD hS 1 rfl rfl 6 (by decide) (hE.at args hlk) (fun _ h => h) rfl rfl rfl rfl (Nat.le_of_ble_eq_true rfl) hdg kk
theorem pC_Sig_arguments (X : Fx p s m meth c D cA A own cc nL rt) (hP : va_P D vwCl (wC cA ad ta σ) H) (hD : va_D A (wC cA ad ta σ)) (hS : va_S A s.heap H locs) (hlk : Cond.fieldLink own index "NeededTrees$Signature" "arguments" "I" ∈ lw_tbl) (hdg : decode cc pc = .ok (.putfield index, 3)) (kk : ∀ (H1 : Heap) (locs1 : List Loc), va_P D vwCl (wC cA ad ta (sF σ 3 v)) H1 → va_D A (wC cA ad ta (sF σ 3 v)) → va_S A s.heap H1 locs1 → W p l e R s m args below meth c H1 locs1 cells slots Q (F0 m (pc + 3) ls rest)) : W p l e R s m args below meth c H locs cells slots Q (F0 m pc ls (.int v :: .ref (ad 1) :: rest)) := by
  obtain ⟨hx, hb, -, -, hown, -, hE, hK, -⟩ := X
  exact va_put hx hb (hE.use args) inG4 tyX4 tyX4_ok nmX4 hown hK hP hD hS 1 rfl rfl 5 (by decide) (hE.at args hlk) (fun _ h => h) rfl rfl rfl rfl (Nat.le_of_ble_eq_true rfl) hdg kk
theorem pC_Sig_made (X : Fx p s m meth c D cA A own cc nL rt) (hP : va_P D vwCl (wC cA ad ta σ) H) (hD : va_D A (wC cA ad ta σ)) (hS : va_S A s.heap H locs) (hlk : Cond.fieldLink own index "NeededTrees$Signature" "made" "I" ∈ lw_tbl) (hdg : decode cc pc = .ok (.putfield index, 3)) (kk : ∀ (H1 : Heap) (locs1 : List Loc), va_P D vwCl (wC cA ad ta (sF σ 2 v)) H1 → va_D A (wC cA ad ta (sF σ 2 v)) → va_S A s.heap H1 locs1 → W p l e R s m args below meth c H1 locs1 cells slots Q (F0 m (pc + 3) ls rest)) : W p l e R s m args below meth c H locs cells slots Q (F0 m pc ls (.int v :: .ref (ad 1) :: rest)) := by
  obtain ⟨hx, hb, -, -, hown, -, hE, hK, -⟩ := X
  exact va_put hx hb (hE.use args) inG4 tyX4 tyX4_ok nmX4 hown hK hP hD hS 1 rfl rfl 4 (by decide) (hE.at args hlk) (fun _ h => h) rfl rfl rfl rfl (Nat.le_of_ble_eq_true rfl) hdg kk
theorem pC_Sig_types (X : Fx p s m meth c D cA A own cc nL rt) (hP : va_P D vwCl (wC cA ad ta σ) H) (hD : va_D A (wC cA ad ta σ)) (hS : va_S A s.heap H locs) (hlk : Cond.fieldLink own index "NeededTrees$Signature" "types" "I" ∈ lw_tbl) (hdg : decode cc pc = .ok (.putfield index, 3)) (kk : ∀ (H1 : Heap) (locs1 : List Loc), va_P D vwCl (wC cA ad ta (sF σ 1 v)) H1 → va_D A (wC cA ad ta (sF σ 1 v)) → va_S A s.heap H1 locs1 → W p l e R s m args below meth c H1 locs1 cells slots Q (F0 m (pc + 3) ls rest)) : W p l e R s m args below meth c H locs cells slots Q (F0 m pc ls (.int v :: .ref (ad 1) :: rest)) := by
  obtain ⟨hx, hb, -, -, hown, -, hE, hK, -⟩ := X
  exact va_put hx hb (hE.use args) inG4 tyX4 tyX4_ok nmX4 hown hK hP hD hS 1 rfl rfl 3 (by decide) (hE.at args hlk) (fun _ h => h) rfl rfl rfl rfl (Nat.le_of_ble_eq_true rfl) hdg kk
theorem pC_Ter_bindings (X : Fx p s m meth c D cA A own cc nL rt) (hP : va_P D vwCl (wC cA ad ta σ) H) (hD : va_D A (wC cA ad ta σ)) (hS : va_S A s.heap H locs) (hlk : Cond.fieldLink own index "NeededTrees$Terms" "bindings" "I" ∈ lw_tbl) (hdg : decode cc pc = .ok (.putfield index, 3)) (kk : ∀ (H1 : Heap) (locs1 : List Loc), va_P D vwCl (wC cA ad ta (sF σ 12 v)) H1 → va_D A (wC cA ad ta (sF σ 12 v)) → va_S A s.heap H1 locs1 → W p l e R s m args below meth c H1 locs1 cells slots Q (F0 m (pc + 3) ls rest)) : W p l e R s m args below meth c H locs cells slots Q (F0 m pc ls (.int v :: .ref (ad 6) :: rest)) := by
  obtain ⟨hx, hb, -, -, hown, -, hE, hK, -⟩ := X
  exact va_put hx hb (hE.use args) inG5 tyX5 tyX5_ok nmX5 hown hK hP hD hS 6 rfl rfl 9 (by decide) (hE.at args hlk) (fun _ h => h) rfl rfl rfl rfl (Nat.le_of_ble_eq_true rfl) hdg kk
theorem pC_Ter_cells (X : Fx p s m meth c D cA A own cc nL rt) (hP : va_P D vwCl (wC cA ad ta σ) H) (hD : va_D A (wC cA ad ta σ)) (hS : va_S A s.heap H locs) (hlk : Cond.fieldLink own index "NeededTrees$Terms" "cells" "I" ∈ lw_tbl) (hdg : decode cc pc = .ok (.putfield index, 3)) (kk : ∀ (H1 : Heap) (locs1 : List Loc), va_P D vwCl (wC cA ad ta (sF σ 11 v)) H1 → va_D A (wC cA ad ta (sF σ 11 v)) → va_S A s.heap H1 locs1 → W p l e R s m args below meth c H1 locs1 cells slots Q (F0 m (pc + 3) ls rest)) : W p l e R s m args below meth c H locs cells slots Q (F0 m pc ls (.int v :: .ref (ad 6) :: rest)) := by
  obtain ⟨hx, hb, -, -, hown, -, hE, hK, -⟩ := X
  exact va_put hx hb (hE.use args) inG5 tyX5 tyX5_ok nmX5 hown hK hP hD hS 6 rfl rfl 8 (by decide) (hE.at args hlk) (fun _ h => h) rfl rfl rfl rfl (Nat.le_of_ble_eq_true rfl) hdg kk
theorem pC_Ter_left (X : Fx p s m meth c D cA A own cc nL rt) (hP : va_P D vwCl (wC cA ad ta σ) H) (hD : va_D A (wC cA ad ta σ)) (hS : va_S A s.heap H locs) (hlk : Cond.fieldLink own index "NeededTrees$Terms" "left" "I" ∈ lw_tbl) (hdg : decode cc pc = .ok (.putfield index, 3)) (kk : ∀ (H1 : Heap) (locs1 : List Loc), va_P D vwCl (wC cA ad ta (sF σ 14 v)) H1 → va_D A (wC cA ad ta (sF σ 14 v)) → va_S A s.heap H1 locs1 → W p l e R s m args below meth c H1 locs1 cells slots Q (F0 m (pc + 3) ls rest)) : W p l e R s m args below meth c H locs cells slots Q (F0 m pc ls (.int v :: .ref (ad 6) :: rest)) := by
  obtain ⟨hx, hb, -, -, hown, -, hE, hK, -⟩ := X
  exact va_put hx hb (hE.use args) inG5 tyX5 tyX5_ok nmX5 hown hK hP hD hS 6 rfl rfl 11 (by decide) (hE.at args hlk) (fun _ h => h) rfl rfl rfl rfl (Nat.le_of_ble_eq_true rfl) hdg kk
theorem pC_Ter_length (X : Fx p s m meth c D cA A own cc nL rt) (hP : va_P D vwCl (wC cA ad ta σ) H) (hD : va_D A (wC cA ad ta σ)) (hS : va_S A s.heap H locs) (hlk : Cond.fieldLink own index "NeededTrees$Terms" "length" "I" ∈ lw_tbl) (hdg : decode cc pc = .ok (.putfield index, 3)) (kk : ∀ (H1 : Heap) (locs1 : List Loc), va_P D vwCl (wC cA ad ta (sF σ 13 v)) H1 → va_D A (wC cA ad ta (sF σ 13 v)) → va_S A s.heap H1 locs1 → W p l e R s m args below meth c H1 locs1 cells slots Q (F0 m (pc + 3) ls rest)) : W p l e R s m args below meth c H locs cells slots Q (F0 m pc ls (.int v :: .ref (ad 6) :: rest)) := by
  obtain ⟨hx, hb, -, -, hown, -, hE, hK, -⟩ := X
  exact va_put hx hb (hE.use args) inG5 tyX5 tyX5_ok nmX5 hown hK hP hD hS 6 rfl rfl 10 (by decide) (hE.at args hlk) (fun _ h => h) rfl rfl rfl rfl (Nat.le_of_ble_eq_true rfl) hdg kk
theorem pC_Tre_nodes (X : Fx p s m meth c D cA A own cc nL rt) (hP : va_P D vwCl (wC cA ad ta σ) H) (hD : va_D A (wC cA ad ta σ)) (hS : va_S A s.heap H locs) (hlk : Cond.fieldLink own index "NeededTrees$Tree" "nodes" "I" ∈ lw_tbl) (hdg : decode cc pc = .ok (.putfield index, 3)) (kk : ∀ (H1 : Heap) (locs1 : List Loc), va_P D vwCl (wC cA ad ta (sF σ 9 v)) H1 → va_D A (wC cA ad ta (sF σ 9 v)) → va_S A s.heap H1 locs1 → W p l e R s m args below meth c H1 locs1 cells slots Q (F0 m (pc + 3) ls rest)) : W p l e R s m args below meth c H locs cells slots Q (F0 m pc ls (.int v :: .ref (ad 4) :: rest)) := by
  obtain ⟨hx, hb, -, -, hown, -, hE, hK, -⟩ := X
  exact va_put hx hb (hE.use args) inG6 tyX6 tyX6_ok nmX6 hown hK hP hD hS 4 rfl rfl 6 (by decide) (hE.at args hlk) (fun _ h => h) rfl rfl rfl rfl (Nat.le_of_ble_eq_true rfl) hdg kk
theorem pC_Top_treeIsOld (X : Fx p s m meth c D cA A own cc nL rt) (hz : isB v = true) (hP : va_P D vwCl (wC cA ad ta σ) H) (hD : va_D A (wC cA ad ta σ)) (hS : va_S A s.heap H locs) (hlk : Cond.fieldLink own index "NeededTrees" "treeIsOld" "Z" ∈ lw_tbl) (hdg : decode cc pc = .ok (.putfield index, 3)) (kk : ∀ (H1 : Heap) (locs1 : List Loc), va_P D vwCl (wC cA ad ta (sF σ 0 v)) H1 → va_D A (wC cA ad ta (sF σ 0 v)) → va_S A s.heap H1 locs1 → W p l e R s m args below meth c H1 locs1 cells slots Q (F0 m (pc + 3) ls rest)) : W p l e R s m args below meth c H locs cells slots Q (F0 m pc ls (.int v :: .ref (ad 0) :: rest)) := by
  obtain ⟨hx, hb, -, -, hown, -, hE, hK, -⟩ := X
  exact va_put hx hb (hE.use args) inG8 tyX8 tyX8_ok nmX8 hown hK hP hD hS 0 rfl rfl 8 (by decide) (hE.at args hlk) (fun _ h => h) rfl rfl (isB_n hz) (isB_f hz) (Nat.le_of_ble_eq_true rfl) hdg kk
end ROWSC
