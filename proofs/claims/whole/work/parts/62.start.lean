set_option maxHeartbeats 16000000 in
set_option maxRecDepth 100000 in
theorem start_open {Rel : Nat → St → St → Prop} (hRel : Sim Rel) {p : Program} {e : Env} {s : State} {m : MethodId} {below : List Frame} {meth : Method} {c : Code} (l : Launch) {b L : Nat} {xs : Nat → Int32} (hL : L ≤ 2048) (C0 : lw_At p s m meth c b L xs) : W p l e room_1 s m #[Value.ref b] below meth c s.heap [] 0 0 (lw_Z below #[Value.ref b] s) (entryFrame m ([Value.ref b] : List Value).toArray 4) := by
  obtain ⟨hx, hb, hr, hml, hown, hts, hX, hbl, hlocks, hgv⟩ := id C0
  have hE : En s := En.of hts
  have hA : ∀ q : Nat, s.heap.size ≤ q → (fun q : Nat => s.heap.size ≤ q) q := fun _ h => h
  obtain ⟨c0, i0, hn0⟩ := u_known (C := RX0) (T := TX0) (N := 6) (n := 6) (hE.use #[Value.ref b]) inG0 (hE.at _ kw239)
  obtain ⟨c1, i1, hn1⟩ := u_known (C := RX1) (T := TX1) (N := 7) (n := 7) (hE.use #[Value.ref b]) inG1 (hE.at _ kw164)
  obtain ⟨c2, i2, hn2⟩ := u_known (C := RX2) (T := TX2) (N := 8) (n := 8) (hE.use #[Value.ref b]) inG2 (hE.at _ kw55)
  obtain ⟨c3, i3, hn3⟩ := u_known (C := RX3) (T := TX3) (N := 7) (n := 7) (hE.use #[Value.ref b]) inG3 (hE.at _ kw93)
  obtain ⟨c4, i4, hn4⟩ := u_known (C := RX4) (T := TX4) (N := 7) (n := 7) (hE.use #[Value.ref b]) inG4 (hE.at _ kw23)
  obtain ⟨c5, i5, hn5⟩ := u_known (C := RX5) (T := TX5) (N := 12) (n := 12) (hE.use #[Value.ref b]) inG5 (hE.at _ kw192)
  obtain ⟨c6, i6, hn6⟩ := u_known (C := RX6) (T := TX6) (N := 7) (n := 7) (hE.use #[Value.ref b]) inG6 (hE.at _ kw130)
  obtain ⟨c7, i7, hn7⟩ := u_known (C := RX7) (T := TX7) (N := 8) (n := 8) (hE.use #[Value.ref b]) inG7 (hE.at _ kw265)
  obtain ⟨c8, i8, hn8⟩ := u_known (C := RX8) (T := TX8) (N := 9) (n := 9) (hE.use #[Value.ref b]) inG8 (hE.at _ kw15)
  obtain ⟨c9, i9, hn9⟩ := u_known (C := RX9) (T := TX9) (N := 59) (n := 59) (hE.use #[Value.ref b]) inG9 (hE.at _ kw674)
  obtain ⟨D, hKc⟩ : ∃ D : va_G, ∀ (k : Nat) (q : vw_C), vwCl[k]? = some q → u_Kn s q.1 q.2.1 q.2.2 (D.1 k) (D.2 k) := by
    refine ⟨(fun k => [c0, c1, c2, c3, c4, c5, c6, c7, c8, c9].getD k c0, fun k => [i0, i1, i2, i3, i4, i5, i6, i7, i8, i9].getD k i0), ?_⟩
    intro k q hq
    match k, hq with
    | 0, hq => cases hq; exact hn0
    | 1, hq => cases hq; exact hn1
    | 2, hq => cases hq; exact hn2
    | 3, hq => cases hq; exact hn3
    | 4, hq => cases hq; exact hn4
    | 5, hq => cases hq; exact hn5
    | 6, hq => cases hq; exact hn6
    | 7, hq => cases hq; exact hn7
    | 8, hq => cases hq; exact hn8
    | 9, hq => cases hq; exact hn9
    | k + 10, hq => simp [vwCl] at hq
  obtain ⟨cA, kA, comp, hcA, hkA, hkind⟩ := Cond.arrayClass_spec (show (Cond.arrayClass .int).before #[Value.ref b] s = true from hE.at _ kw53)
  have hK : va_K D vwCl [(cA, .int)] s := by
    refine ⟨hKc, fun k q h => ?_⟩
    match k, h with
    | 0, h => cases h; exact ⟨fun n z => ⟨fun k h => (by cases h), kA, hkA, comp, hkind⟩, hcA⟩
    | k + 1, h => simp at h
  have X : Fx p s m meth c D cA (fun q : Nat => s.heap.size ≤ q) RL cL_law 4 (some .boolean) := ⟨hx, hb, hr, hml, hown, hlocks, hE, hK, hA⟩
  have hS : va_S (fun q : Nat => s.heap.size ≤ q) s.heap s.heap [] := va_S.rf
  have hP : va_P D vwCl [] s.heap := fun k q h => by simp at h
  have hD : va_D (fun q : Nat => s.heap.size ≤ q) [] := ⟨fun i j p q h => by simp at h, fun k q h => by simp at h⟩
  have hl := lv_entry ([.ref b]) (n := 4) (Nat.le_of_ble_eq_true rfl)
  rw [lg_entry_eq]
  generalize (lg_sl ([.ref b]) ++ List.replicate (4 - (lg_sl ([.ref b])).length) Slot.unset).toArray = ls at hl ⊢
  have hl : lv_has ls 4 [(0, .ref b)] := hl
  refine va_new (ci := 8) (fs := [.null, .null, .null, .null, .null, .null, .null, .null, .int 0]) (C := RX8) (T := TX8) (N := 9) hx hb (hE.use _) inG8 tyX8 tyX8_ok hown (hE.at _ kw14) (hE.at _ kw15) (hE.at _ kw1) hK hP hD hS hA rfl (by decide) (by show _ ≤ 157138; decide) (by show _ ≤ 8630836; decide) dL_law_0 (fun o1 H hP hD hS => ?_)
  have hP : va_P D vwCl [(o1, .inr (8, [.null, .null, .null, .null, .null, .null, .null, .null, .int 0]))] H := hP
  have hD : va_D (fun q : Nat => s.heap.size ≤ q) [(o1, .inr (8, [.null, .null, .null, .null, .null, .null, .null, .null, .int 0]))] := hD
  refine lv_dup hx hb dL_law_3 rfl ?_
  refine call8 (rest := [.ref o1]) X hP hD hS hl rfl (Nat.le_of_ble_eq_true rfl) dL_law_4 ⟨by show _ ≤ 157138; decide, by show _ ≤ 8630836; decide⟩ (fun ad H locs had hP hD hS => ?_)
  refine lv_astore_n (lv' := [(1, .ref o1), (0, .ref b)]) hx hb dL_law_7 rfl hl (by decide) rfl (fun ls hl => ?_)
  refine va_new (ci := 9) (fs := [.int 0, .int 0, .null, .null, .null, .int 0, .int 0, .int 0, .null, .int 0, .null, .null, .null, .null, .null, .null, .null, .null, .int 0, .null, .null, .null, .null, .int 0, .null, .null, .int 0, .int 0, .int 0, .int 0, .int 0, .int 0, .int 0, .null, .null, .null, .null, .null, .null, .null, .null, .null, .null, .int 0, .int 0, .null, .int 0, .int 0, .int 0, .int 0, .int 0, .int 0, .int 0, .int 0, .int 0, .null, .int 0, .null, .null]) (C := RX9) (T := TX9) (N := 59) hx hb (hE.use _) inG9 tyX9 tyX9_ok hown (hE.at _ kw673) (hE.at _ kw674) (hE.at _ kw10) hK hP hD hS hA rfl (by decide) (by show _ ≤ 157138; decide) (by show _ ≤ 8630836; decide) dL_law_8 (fun o2 H hP hD hS => ?_)
  refine lv_dup hx hb dL_law_11 rfl ?_
  have hP := va_P.front hP
  have hD := va_D.front hD
  refine callI_c (rest := [.ref o2]) X ci_X9 kw675 (c_X9_init l D cA _ o2 (wC cA ad (ad 48) σC0)) ⟨by decide, by decide⟩ ⟨rfl, rfl⟩ hP hD hS rfl hl rfl (Nat.le_of_ble_eq_true rfl) dL_law_12 ⟨by show _ ≤ 157138; decide, by show _ ≤ 8630836; decide⟩ (fun u H locs hP hD hS => ?_)
  refine lv_astore_n (lv' := [(2, .ref o2), (1, .ref o1), (0, .ref b)]) hx hb dL_law_15 rfl hl (by decide) rfl (fun ls hl => ?_)
  refine lv_iconst (v := 0) hx hb dL_law_16 (by decide) ?_
  refine lv_istore_n (lv' := [(3, .int 0), (2, .ref o2), (1, .ref o1), (0, .ref b)]) hx hb dL_law_17 rfl hl (by decide) rfl (fun ls hl => ?_)
  rw [← had] at hl
  obtain ⟨am, g0, g1, g2, g3, g4, g5, g6, g7, g8, g9, g10, g11, g12, g13, g14, g15, g16, g17, g18, g19, g20, g21, g22, g23, g24, g25, g26, g27, g28, g29, g30, g31, g32⟩ : ∃ am : Nat → Nat, am 0 = o2 ∧ am 1 = u 0 ∧ am 2 = u 1 ∧ am 3 = u 2 ∧ am 4 = u 3 ∧ am 5 = u 4 ∧ am 6 = u 5 ∧ am 7 = u 6 ∧ am 8 = u 7 ∧ am 9 = u 8 ∧ am 10 = u 9 ∧ am 11 = u 10 ∧ am 12 = u 11 ∧ am 13 = u 12 ∧ am 14 = u 13 ∧ am 15 = u 14 ∧ am 16 = u 15 ∧ am 17 = u 16 ∧ am 18 = u 17 ∧ am 19 = u 18 ∧ am 20 = u 19 ∧ am 21 = u 20 ∧ am 22 = u 21 ∧ am 23 = u 22 ∧ am 24 = u 23 ∧ am 25 = u 24 ∧ am 26 = u 25 ∧ am 27 = u 26 ∧ am 28 = u 27 ∧ am 29 = u 28 ∧ am 30 = u 29 ∧ am 31 = u 30 ∧ am 32 = u 31 := ⟨fun k => [o2, u 0, u 1, u 2, u 3, u 4, u 5, u 6, u 7, u 8, u 9, u 10, u 11, u 12, u 13, u 14, u 15, u 16, u 17, u 18, u 19, u 20, u 21, u 22, u 23, u 24, u 25, u 26, u 27, u 28, u 29, u 30, u 31].getD k 0, rfl, rfl, rfl, rfl, rfl, rfl, rfl, rfl, rfl, rfl, rfl, rfl, rfl, rfl, rfl, rfl, rfl, rfl, rfl, rfl, rfl, rfl, rfl, rfl, rfl, rfl, rfl, rfl, rfl, rfl, rfl, rfl, rfl⟩
  rw [← g0, ← g1, ← g2, ← g3, ← g4, ← g5, ← g6, ← g7, ← g8, ← g9, ← g10, ← g11, ← g12, ← g13, ← g14, ← g15, ← g16, ← g17, ← g18, ← g19, ← g20, ← g21, ← g22, ← g23, ← g24, ← g25, ← g26, ← g27, ← g28, ← g29, ← g30, ← g31, ← g32] at hP hD
  rw [← g0] at hl
  have hPm : va_P D vwCl (wM cA am 0 σM0) H := hP.sub [0, 32, 31, 30, 29, 28, 27, 26, 25, 24, 23, 22, 21, 20, 19, 18, 17, 16, 15, 14, 13, 12, 11, 10, 9, 8, 7, 6, 5, 4, 3, 2, 1] rfl
  have hDm : va_D (fun q : Nat => s.heap.size ≤ q) (wM cA am 0 σM0) := hD.sub [0, 32, 31, 30, 29, 28, 27, 26, 25, 24, 23, 22, 21, 20, 19, 18, 17, 16, 15, 14, 13, 12, 11, 10, 9, 8, 7, 6, 5, 4, 3, 2, 1] (by decide) rfl
  have hPc : va_P D vwCl (wC cA ad (ad 48) σC0) H := hP.sub [33, 34, 35, 36, 37, 38, 39, 40, 41, 42, 43, 44, 45, 46, 47, 48, 49, 50, 51, 52, 53, 54, 55, 56, 57, 58, 59, 60, 61, 62, 63, 64, 65, 66, 67, 68, 69, 70, 71, 72, 73, 74, 75, 76, 77, 78, 79, 80, 81] rfl
  have hDc : va_D (fun q : Nat => s.heap.size ≤ q) (wC cA ad (ad 48) σC0) := hD.sub [33, 34, 35, 36, 37, 38, 39, 40, 41, 42, 43, 44, 45, 46, 47, 48, 49, 50, 51, 52, 53, 54, 55, 56, 57, 58, 59, 60, 61, 62, 63, 64, 65, 66, 67, 68, 69, 70, 71, 72, 73, 74, 75, 76, 77, 78, 79, 80, 81] (by decide) rfl
  have hap : Apart (wC cA ad (ad 48) σC0) (wM cA am 0 σM0) := va_D.apart hD [33, 34, 35, 36, 37, 38, 39, 40, 41, 42, 43, 44, 45, 46, 47, 48, 49, 50, 51, 52, 53, 54, 55, 56, 57, 58, 59, 60, 61, 62, 63, 64, 65, 66, 67, 68, 69, 70, 71, 72, 73, 74, 75, 76, 77, 78, 79, 80, 81] [0, 32, 31, 30, 29, 28, 27, 26, 25, 24, 23, 22, 21, 20, 19, 18, 17, 16, 15, 14, 13, 12, 11, 10, 9, 8, 7, 6, 5, 4, 3, 2, 1] rfl rfl (by decide)
  refine W.widen (k := 90 + 0) (n := 90000 + 9600 * 0) (by decide) (by decide) ?_
  exact law_loop hRel hL hX hbl X (L + 1) 0 σC0 σM0 (ad 48) 0 _ _ _ (by omega) (by omega) hRel.1 hPc hPm hDc hDm hap hS (lv_sub hl [3, 2, 1, 0] rfl)
