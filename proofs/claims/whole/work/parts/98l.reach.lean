/-! the class leads -/
def LdT (R A N n : Nat) (ar : Nat → Nat) (rw : Nat → Int32) (te : Nat → Nat) (sy : Nat → Nat → Int32) (en : Nat → Nat → Nat) : List Ot := if R = 0 then [] else Led N n ar rw te sy en 300 (List.range R) (op0 en A) A ((chl te 0 A).map (mtp rw)) [] 0 0
section
variable {N n A R : Nat} {ct ar : Nat → Nat} {pk : Nat → Int32} {fp : Int32} {rw : Nat → Int32} {te : Nat → Nat} {ln bs : Nat → Nat} {sy : Nat → Nat → Int32} {en wt uc pc : Nat → Nat → Nat}
theorem mtp_id (hT : TmW n N A rw te ar) {β : Bd} {p : Nat} (hp : p < n) : VId n rw ar β (mtp rw p) := by
  have hri : rowId n (8 + p) := ⟨by omega, by omega⟩
  have := can_VId (rw := rw) (en := te) (ar := ar) (β := β) hT (Or.inl hri)
  unfold can at this
  rw [if_pos hri, show 8 + p - 8 = p by omega] at this
  exact this
theorem nth_map_top {k : Nat} (hk : k < A) : nth ((chl te 0 A).map (mtp rw)) k = mtp rw (ch te 0 k) := by
  rw [gD (by rw [List.length_map, chl_len]; exact hk)]
  simp [chl]
theorem reaches_eq (hW : ∀ r, r < R → PW N ct ar pk (ln r) (sy r) (en r) (wt r)) (hT : TmW n N A rw te ar) (hN : N ≤ 60) (hA6 : A ≤ 6) (hB : BsW R ln bs) (hU : UcW R N A ar ln sy en uc pc) (hTp : TopW R A fp ln en wt) (hX : (TT R A N ar sy en).length ≤ 559) (hm : mxN (TT R A N ar sy en) ≤ 184) {c : St} (hTr : TreeC N ar R A bs sy en c) (hRl : RlC R ln bs sy en uc pc c) (hPa : PaC N ar A c) (hC : CT n rw te ar [] c) (hO : OutC [] c) (h44 : gA c 44 0 = 0) (h46 : gA c 46 0 = 0) (h47 : gA c 47 0 = 0) :
    ((∀ o, o ∈ LdT R A N n ar rw te sy en → shO n rw ar o) → ∃ c', F_X7_reachesAll c = some (1, c') ∧ OutC ((LdT R A N n ar rw te sy en).map (ocO n rw ar)) c' ∧ FrK c c' ∧ FrE 0 c c') ∧
    ((¬ ∀ o, o ∈ LdT R A N n ar rw te sy en → shO n rw ar o) → ∃ c', F_X7_reachesAll c = some (0, c') ∧ FrK c c' ∧ FrE 0 c c' ∧ (gF c' 16 = 0 ∨ gF c' 16 = nI 9600)) ∧ (LdT R A N n ar rw te sy en).length ≤ 24 := by
  have hR24 := hB.1
  by_cases h0 : R = 0
  · have hTT : TT R A N ar sy en = [] := if_pos h0
    have hLT : LdT R A N n ar rw te sy en = [] := if_pos h0
    rw [hLT]
    refine ⟨fun _ => ⟨c, ?_, hO, FrK.refl c, fun _ _ _ _ _ => rfl⟩, fun hn => absurd (fun o ho => by cases ho) hn, by simp⟩
    unfold F_X7_reachesAll
    rw [F_X7_reachesAll_6, hTr.1.1, hTT, if_pos (by decide)]
    rfl
  · have hTT : TT R A N ar sy en = Tr N ar sy en 300 (List.range R) (op0 en A) A (-1) 0 := if_neg h0
    have hLT : LdT R A N n ar rw te sy en = Led N n ar rw te sy en 300 (List.range R) (op0 en A) A ((chl te 0 A).map (mtp rw)) [] 0 0 := if_neg h0
    have hlen : (LdT R A N n ar rw te sy en).length ≤ 24 := by
      rw [hLT]
      have := Led_len (n := n) (ar := ar) (rw := rw) (te := te) (sy := sy) (en := en) hN 300 (List.range R) (op0 en A) A ((chl te 0 A).map (mtp rw)) [] 0 0
      rw [List.length_range] at this
      omega
    have hwk := walk_main (rw := rw) (te := te) (f22 := gA c 22) hW hT hN hA6 hB hU hX hm 300 (List.range R, op0 en A, A, none, fun _ => (chl te 0 A).map (mtp rw)) 0 [] [] 0 0 0 186 [] [] [] c (by
      rw [hTT]
      show _ = [] ++ (Tr N ar sy en 300 (List.range R) (op0 en A) A (-1) 0 ++ [])
      simp) ⟨hTr.1, hRl, rfl, hPa⟩ BW.nil (by simp) hC ⟨h44, h46, h47⟩ ⟨top_GW hTp (by omega), fun r hr => by
      have hr := List.mem_range.mp hr
      have := (hB.2.2.1 r hr).2
      refine ⟨?_, ?_⟩
      · show rs (en r) (op0 en A r) + (List.range R).length ≤ 300
        rw [top_rs hW hTp hr, List.length_range]
        omega
      · show 0 + 0 + rs (en r) (op0 en A r) ≤ 160
        rw [top_rs hW hTp hr]
        omega, hTr.2, fun j hj => (by cases hj), fun β1 hb => by
      cases hb
      refine ⟨by simp [chl], fun s hs => ?_, fun r hr s hs => ?_⟩
      · show VId n rw ar [] (nth ((chl te 0 A).map (mtp rw)) s)
        rw [nth_map_top hs]
        exact mtp_id hT (hT.2.2.1 s hs)
      · have hr := List.mem_range.mp hr
        have e : nth (op0 en A r) s = ch (en r) 0 s := chl_get _ _ hs
        obtain ⟨u1, u2⟩ := (hU r hr).2 s hs
        left
        show uc r (nth (op0 en A r) s) = 0 ∧ pc r (nth (op0 en A r) s) < A ∧ nth ((chl te 0 A).map (mtp rw)) s = mtp rw (ch te 0 (pc r (nth (op0 en A r) s)))
        rw [e, u1, u2, nth_map_top hs]
        exact ⟨rfl, hs, rfl⟩⟩ (Nat.zero_le _) (Nat.le_refl _) hO (by
      show 0 + (Led N n ar rw te sy en 300 (List.range R) (op0 en A) A ((chl te 0 A).map (mtp rw)) [] 0 0).length ≤ 24
      rw [← hLT]
      omega)
    have e1 : trW N ar sy en 300 0 (List.range R, op0 en A, A, none, fun _ => (chl te 0 A).map (mtp rw)) = TT R A N ar sy en := hTT.symm
    have e2 : outW N n ar rw te sy en 300 [] 0 0 0 (List.range R, op0 en A, A, none, fun _ => (chl te 0 A).map (mtp rw)) = LdT R A N n ar rw te sy en := hLT.symm
    rw [e1, e2] at hwk
    obtain ⟨L, hL⟩ : ∃ L, (TT R A N ar sy en).length = L := ⟨_, rfl⟩
    rw [hL] at hwk hX
    obtain ⟨w1, w2⟩ := hwk
    refine ⟨fun hall => ?_, fun hn => ?_, hlen⟩
    · obtain ⟨c', cl', γ', u1, u2, u3, u4, u5, u6, u7, u8, u9⟩ := w1 hall
      have hq := u1 (4999 - L + 1)
      rw [show 4999 - L + 1 + L = 5000 by omega, show ([] : List Nd).length + L = L by simp] at hq
      have hq' : F_X7_reachesAll c = F_X7_reachesAll_6 (4999 - L + 1) (nI cl') (nI L) c' := hq
      refine ⟨c', ?_, by simpa using u7, u8, u9⟩
      rw [hq', F_X7_reachesAll_6, u8.1 9 (by omega), hTr.1.1, hL, if_pos (nI_le (Nat.le_refl _) (by omega))]
      rfl
    · obtain ⟨c', u1, u2, u3, u4⟩ := w2 hn
      have hq := u1 (4999 - L + 1)
      rw [show 4999 - L + 1 + L = 5000 by omega] at hq
      exact ⟨c', hq, u2, u3, u4⟩
end
