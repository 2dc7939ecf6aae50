section NT
variable {p : Program} {l : Launch} {e : Env} {R : Room} {s : State} {m : MethodId} {args : Array Value} {below : List Frame} {meth : Method} {c : Code} {H : Heap} {locs : List Loc} {cells slots : Nat} {Q : State → Prop}
variable {D : va_G} {cA : ClassId} {A : Nat → Prop} {ad : Nat → Nat} {ta : Nat} {σ : St} {ls : Array Slot}
/-- the state with a new row for what is told -/
def nT (σ : St) : St := sA (sF σ 16 9600) 48 (fun _ => 0)
set_option maxHeartbeats 4000000 in
set_option maxRecDepth 100000 in
theorem new_told (X : Fx p s m meth c D cA A RX0 cX0_add 5 none) (hP : va_P D vwCl (wC cA ad ta σ) H) (hD : va_D A (wC cA ad ta σ)) (hS : va_S A s.heap H locs) {lv : List (Nat × Value)} (hl : lv_has ls 5 lv) (k : Nat) (hk : lv[k]? = some (0, .ref (ad 7))) (hc : cells + 1 ≤ R.cells) (hs : slots + 9600 ≤ R.slots)
    (kk : ∀ (ta : Nat) (H1 : Heap) (locs1 : List Loc), va_P D vwCl (wC cA ad ta (nT σ)) H1 → va_D A (wC cA ad ta (nT σ)) → va_S A s.heap H1 locs1 → W p l e R s m args below meth c H1 locs1 (cells + 1) (slots + 9600) Q (F0 m 38 ls [])) :
    W p l e R s m args below meth c H locs cells slots Q (F0 m 29 ls []) := by
  obtain ⟨hx, hb, hr, hml, hown, hlk, hE, hK, hA⟩ := id X
  refine lv_aload_n hx hb dX0_add_29 rfl (lv_at hl k hk) ?_
  refine lv_sipush (v := 9600) hx hb dX0_add_30 (by decide) ?_
  refine newI (N := 9600) X hP hD hS (by decide) (by decide) (by decide) hc hs dX0_add_33 (fun q H hP hD hS => ?_)
  refine va_put hx hb (hE.use args) inG0 tyX0 tyX0_ok nmX0 hown hK hP hD hS 7 rfl rfl 4 (by decide) (hE.at args kw248) (fun _ h => h) rfl rfl rfl rfl (Nat.le_of_ble_eq_true rfl) dX0_add_35 (fun H locs hP hD hS => ?_)
  exact kk q H locs (hP.sub [0, 1, 2, 3, 4, 5, 6, 7, 8, 9, 10, 11, 12, 13, 14, 15, 16, 17, 18, 19, 20, 21, 22, 23, 24, 25, 26, 27, 28, 29, 30, 31, 32, 33, 34, 35, 36, 37, 38, 39, 40, 41, 42, 43, 44, 45, 46, 47, 49] rfl) (hD.sub [0, 1, 2, 3, 4, 5, 6, 7, 8, 9, 10, 11, 12, 13, 14, 15, 16, 17, 18, 19, 20, 21, 22, 23, 24, 25, 26, 27, 28, 29, 30, 31, 32, 33, 34, 35, 36, 37, 38, 39, 40, 41, 42, 43, 44, 45, 46, 47, 49] (by decide) rfl) hS
end NT
