/-! the class takes a position -/
def asked (f : Nat → Int32) (b q : Nat) : Bool := decide (f (b + q) ≠ -1)
theorem first_mk {R : Nat} {g : List Nat} (hG : GS R g) (h0 : 0 < g.length) (σ : St) : F_X1_firstOf (mk g) σ = some (nI (nth g 0), σ) := by
  have hm : nth g 0 ∈ g := gD_mem h0
  have hlt := hG.lt _ hm
  refine firstOf_eq hlt ?_ (fun i hi => ?_) σ
  · rw [bt_mk g hG.lt _ (by omega), decide_eq_true hm]
  · rw [bt_mk g hG.lt _ (by omega), decide_eq_false]
    intro hz
    cases g with
    | nil => cases hz
    | cons x l =>
      have hx : i < x := hi
      rcases List.mem_cons.mp hz with k | k
      · omega
      · have := List.rel_of_pairwise_cons hG.2.1 k
        omega
/-- the mask of the rules that need a spot -/
def ngM (sy : Nat → Nat → Int32) (op : Nat → List Nat) (g : List Nat) (s : Nat) : List Nat := g.filter fun r => decide (0 ≤ sy r (nth (op r) s))
def oM (sy : Nat → Nat → Int32) (op : Nat → List Nat) (g : List Nat) (o : Option Nat) : Int32 := match o with
  | none => 0
  | some z => mk (ngM sy op g z)
theorem mk_ne0 {g : List Nat} (hg : ∀ r, r ∈ g → r < 24) (h0 : 0 < g.length) : ¬ mk g = 0 := by
  intro z
  obtain ⟨r, hr⟩ := List.exists_mem_of_length_pos h0
  have hb := bt_mk g hg r (by have := hg r hr; omega)
  rw [z, bt_0, decide_eq_true hr] at hb
  cases hb
theorem ng_all {sy : Nat → Nat → Int32} {op : Nat → List Nat} {g : List Nat} {s : Nat} (hg : ∀ r, r ∈ g → r < 24) : mk (ngM sy op g s) = mk g ↔ ndC sy op g s = g.length := by
  have hsub : (ngM sy op g s).Sublist g := List.filter_sublist
  constructor
  · intro h
    have : ngM sy op g s = g := by
      unfold ngM
      rw [List.filter_eq_self]
      intro r hr
      have := (mk_inj (fun r hr => hg r (hsub.subset hr)) hg h (r := r)).mpr hr
      exact (List.mem_filter.mp this).2
    show (ngM sy op g s).length = g.length
    rw [this]
  · intro h
    have : ngM sy op g s = g := hsub.eq_of_length h
    rw [this]
theorem takeC_loop {R : Nat} {g : List Nat} (hG : GS R g) (h0 : 0 < g.length) {ln bs : Nat → Nat} {sy : Nat → Nat → Int32} {en uc pc : Nat → Nat → Nat} {op : Nat → List Nat} {K : Nat} (hB : BsW R ln bs) (hK : ∀ r, r ∈ g → (op r).length = K ∧ ∀ s, s < K → nth (op r) s < ln r) {f22 : Nat → Int32} :
    ∀ (sh : List Bool) (T : Nat → Tc) (p : Nat → Nat) (s i w : Nat) (o : Option Nat) (c : St), i + sh.length ≤ 160 → sh.length < w → s ≤ K → (∀ z, o = some z → z < s ∧ 0 < ndC sy op g z) → RlC R ln bs sy en uc pc c → gA c 22 = f22 → CrC bs g p c → (∀ r, r ∈ g → Ws (asked f22 (bs r)) (en r) (ln r) (p r) (T r) (ln r) ∧ (T r).map (fun x => x.1) = sh ∧ opn (T r) = (op r).drop s) →
      ∃ f, (match pos (ndC sy op g) g.length (K - s) s o with
        | none => F_X1_takePosition_15 w (mk g) (nI (nth g 0)) (oM sy op g o) (nI i) c = some (0, sA c 32 f)
        | some (true, z) => F_X1_takePosition_15 w (mk g) (nI (nth g 0)) (oM sy op g o) (nI i) c = some (mk g, sA c 32 f) ∧ ∀ r, r ∈ g → f r = nI (bs r + nth (op r) z)
        | some (false, z) => F_X1_takePosition_15 w (mk g) (nI (nth g 0)) (oM sy op g o) (nI i) c = some (mk (ngM sy op g z), sA c 32 f)) := by
  have hR24 := hG.1
  have hb512 := hB.2.2.2
  have hf : nth g 0 ∈ g := gD_mem h0
  have hfR := hG.2.2 _ hf
  intro sh
  induction sh with
  | nil =>
    intro T p s i w o c hi hw hs ho hR h22 hC hT
    obtain ⟨w, rfl⟩ : ∃ z, w = z + 1 := ⟨w - 1, by omega⟩
    obtain ⟨t1, t2, t3⟩ := hT _ hf
    have hT0 : T (nth g 0) = [] := List.map_eq_nil_iff.mp t2
    rw [hT0] at t1 t3
    have hp : p (nth g 0) = ln (nth g 0) := t1
    have hdr : (op (nth g 0)).drop s = [] := t3.symm
    have hsK : s = K := by
      have h1 := congrArg List.length hdr
      rw [List.length_drop, (hK _ hf).1] at h1
      simp at h1
      omega
    have hz : F_X1_takePosition_15 (w + 1) (mk g) (nI (nth g 0)) (oM sy op g o) (nI i) c = some (oM sy op g o, c) := by
      rw [F_X1_takePosition_15]
      by_cases h160 : 160 ≤ i
      · rw [if_pos (show (160 : Int32) ≤ nI i from nI_le (a := 160) h160 (by omega))]
      · have h1 := (hB.2.2.1 _ hfR).1
        have h2 := hB.mono R (Nat.le_refl _) (nth g 0 + 1) (by omega)
        rw [if_neg (show ¬ (160 : Int32) ≤ nI i from nI_ge (b := 160) (by omega) (by omega)), rd_in _ (by omega) (by omega), hC _ hf, bd_r, F_X3_start, nI_1, rd_in _ (by omega) (by omega), hR.2.1 _ (by omega), bd_r, bo_s, if_pos (nI_le (by omega) (by omega))]
    refine ⟨gA c 32, ?_⟩
    rw [sA_gA, show K - s = 0 by omega, pos]
    cases o with
    | none => exact hz
    | some z => exact hz
  | cons b sh ih =>
    intro T p s i w o c hi hw hs ho hR h22 hC hT
    obtain ⟨w, rfl⟩ : ∃ z, w = z + 1 := ⟨w - 1, by omega⟩
    rw [List.length_cons] at hi hw
    -- each trace has a first step
    have hst : ∀ r, r ∈ g → ∃ T', T r = (b, p r) :: T' ∧ p r < ln r ∧ b = asked f22 (bs r) (p r) ∧ Ws (asked f22 (bs r)) (en r) (ln r) (if b = true then p r + 1 else en r (p r)) T' (ln r) ∧ T'.map (fun x => x.1) = sh := by
      intro r hr
      obtain ⟨t1, t2, t3⟩ := hT r hr
      cases hTr : T r with
      | nil => rw [hTr] at t2; cases t2
      | cons x T' =>
        rw [hTr] at t1 t2
        obtain ⟨q1, q2, q3, q4⟩ := t1
        rw [List.map_cons] at t2
        injection t2 with t4 t5
        obtain ⟨x1, x2⟩ := x
        have q2' : x2 = p r := q2
        have t4' : x1 = b := t4
        subst q2' t4'
        exact ⟨T', rfl, q1, q3, q4, t5⟩
    obtain ⟨Tf, f1, f2, f3, f4, f5⟩ := hst _ hf
    have hltf := hB.lt hfR f2
    have hsf := (hB.2.2.1 _ hfR).1
    have hmono := hB.mono R (Nat.le_refl _) (nth g 0 + 1) (by omega)
    have hask : F_X3_isAsked (nI (bs (nth g 0) + p (nth g 0))) c = some (bI b, c) := by
      unfold F_X3_isAsked
      rw [rd_in _ (by omega) (by omega), h22, bd_r, f3]
      unfold asked
      by_cases hz : f22 (bs (nth g 0) + p (nth g 0)) = -1
      · rw [if_pos hz, decide_eq_false (fun y => y hz)]; rfl
      · rw [if_neg hz, decide_eq_true hz]; rfl
    have hhead : F_X1_takePosition_15 (w + 1) (mk g) (nI (nth g 0)) (oM sy op g o) (nI i) c = if bI b = 0 then bo (F_X1_needing (mk g) c) (fun r12 s13 => if r12 = mk g then some (mk g, s13) else (if oM sy op g o = 0 then F_X1_takePosition_95 (F_X1_takePosition_15 w) (mk g) (nI (nth g 0)) (nI i) r12 s13 else F_X1_takePosition_95 (F_X1_takePosition_15 w) (mk g) (nI (nth g 0)) (nI i) (oM sy op g o) s13)) else bo (F_X1_enter (mk g) c) (fun r17 s18 => F_X1_takePosition_101 (F_X1_takePosition_15 w) (mk g) (nI (nth g 0)) (oM sy op g o) (nI i) s18) := by
      rw [F_X1_takePosition_15, if_neg (show ¬ (160 : Int32) ≤ nI i from nI_ge (b := 160) (by omega) (by omega)), rd_in _ (by omega) (by omega), hC _ hf, bd_r, F_X3_start, nI_1, rd_in _ (by omega) (by omega), hR.2.1 _ (by omega), bd_r, bo_s, if_neg (nI_ge (by omega) (by omega)), rd_in _ (by omega) (by omega), hC _ hf, bd_r, hask, bo_s]
    have hRk : ∀ f, RlC R ln bs sy en uc pc (sA c 32 f) := fun f => hR
    cases b with
    | true =>
      have hen := enter_loop hG hR.1 R 5000 0 (by omega) (by omega) (c := c)
      rw [cu_0, sA_gA] at hen
      have hen' : F_X1_enter (mk g) c = _ := hen
      obtain ⟨c1, hc1⟩ : ∃ c1, sA c 32 (cu (gA c 32) g (fun r => gA c 32 r + 1) R) = c1 := ⟨_, rfl⟩
      rw [hc1] at hen'
      rw [hhead, if_neg (show ¬ bI true = 0 by decide), hen', bo_s, F_X1_takePosition_101, nI_1]
      obtain ⟨f, hz⟩ := ih (fun r => (T r).tail) (fun r => p r + 1) s (i + 1) w o c1 (by omega) (by omega) hs ho (by rw [← hc1]; exact hR) (by rw [← hc1]; exact h22) (fun r hr => by
        rw [← hc1, gA_sA_s, cu_g hr (hG.2.2 r hr), hC r hr, nI_1]
        rfl) (fun r hr => by
        obtain ⟨T', k1, k2, k3, k4, k5⟩ := hst r hr
        have t3 := (hT r hr).2.2
        rw [k1] at t3 ⊢
        exact ⟨k4, k5, t3⟩)
      refine ⟨f, ?_⟩
      rw [← hc1, sA_sA, hc1] at hz
      exact hz
    | false =>
      have hsp : ∀ r, r ∈ g → s < K ∧ nth (op r) s = p r ∧ opn ((T r).tail) = (op r).drop (s + 1) := by
        intro r hr
        obtain ⟨T', k1, k2, k3, k4, k5⟩ := hst r hr
        have t3 := (hT r hr).2.2
        rw [k1, opn_f] at t3
        have hl := (hK r hr).1
        have hsK : s < (op r).length := by
          have h1 := congrArg List.length t3
          rw [List.length_cons, List.length_drop] at h1
          omega
        have hd := List.drop_eq_getElem_cons hsK
        rw [hd] at t3
        injection t3 with t4 t5
        rw [k1]
        exact ⟨by omega, by rw [gD hsK]; exact t4.symm, t5⟩
      have hsK := (hsp _ hf).1
      have hnd := need_loop hG hB hR hC (fun r hr => by obtain ⟨T', k1, k2, k3, k4, k5⟩ := hst r hr; exact k2) R 5000 0 (by omega) (by omega)
      rw [lo_0] at hnd
      have hng : (g.filter fun r => decide (0 ≤ sy r (p r))) = ngM sy op g s := by
        unfold ngM
        apply List.filter_congr
        intro r hr
        rw [(hsp r hr).2.1]
      rw [hng] at hnd
      have hnd' : F_X1_needing (mk g) c = some (mk (ngM sy op g s), c) := hnd
      rw [hhead, if_pos (show bI false = 0 by decide), hnd', bo_s, show K - s = (K - (s + 1)) + 1 by omega, pos]
      have hle : (ngM sy op g s).Sublist g := List.filter_sublist
      by_cases hall : ndC sy op g s = g.length
      · rw [if_pos hall, if_pos ((ng_all hG.lt).mpr hall)]
        exact ⟨gA c 32, by rw [sA_gA], fun r hr => by rw [hC r hr, (hsp r hr).2.1]⟩
      · rw [if_neg hall, if_neg (fun z => hall ((ng_all hG.lt).mp z))]
        have ho2 : (if oM sy op g o = 0 then F_X1_takePosition_95 (F_X1_takePosition_15 w) (mk g) (nI (nth g 0)) (nI i) (mk (ngM sy op g s)) c else F_X1_takePosition_95 (F_X1_takePosition_15 w) (mk g) (nI (nth g 0)) (nI i) (oM sy op g o) c) = F_X1_takePosition_95 (F_X1_takePosition_15 w) (mk g) (nI (nth g 0)) (nI i) (oM sy op g (if 0 < ndC sy op g s ∧ o = none then some s else o)) c := by
          cases o with
          | none =>
            rw [if_pos (show oM sy op g none = 0 from rfl)]
            by_cases hc : 0 < ndC sy op g s
            · rw [if_pos ⟨hc, rfl⟩]; rfl
            · rw [if_neg (fun z => hc z.1)]
              have : ngM sy op g s = [] := List.eq_nil_of_length_eq_zero (Nat.eq_zero_of_not_pos hc)
              rw [this]
              rfl
          | some z =>
            have hz : ¬ oM sy op g (some z) = 0 := mk_ne0 (fun r hr => hG.lt r (List.mem_filter.mp hr).1) (ho z rfl).2
            rw [if_neg hz, if_neg (fun y => by cases y.2)]
        rw [ho2]
        obtain ⟨o', ho'⟩ : ∃ o', (if 0 < ndC sy op g s ∧ o = none then some s else o) = o' := ⟨_, rfl⟩
        rw [ho']
        have hps := pass_loop hG hR.1 R 5000 0 (by omega) (by omega) (c := c)
        rw [cu_0, sA_gA] at hps
        have hps' : F_X1_pass (mk g) c = _ := hps
        obtain ⟨c1, hc1⟩ : ∃ c1, sA c 32 (cu (gA c 32) g (fun r => rd 512 (gA c 21) (gA c 32 r)) R) = c1 := ⟨_, rfl⟩
        rw [hc1] at hps'
        rw [F_X1_takePosition_95, hps', bo_s, F_X1_takePosition_101, nI_1]
        obtain ⟨f, hz⟩ := ih (fun r => (T r).tail) (fun r => en r (p r)) (s + 1) (i + 1) w o' c1 (by omega) (by omega) (by omega) (fun z hz => by
          rw [← ho'] at hz
          by_cases hc : 0 < ndC sy op g s ∧ o = none
          · rw [if_pos hc] at hz
            cases hz
            exact ⟨by omega, hc.1⟩
          · rw [if_neg hc] at hz
            exact ⟨by have := (ho z hz).1; omega, (ho z hz).2⟩) (by rw [← hc1]; exact hR) (by rw [← hc1]; exact h22) (fun r hr => by
          obtain ⟨T', k1, k2, k3, k4, k5⟩ := hst r hr
          have hlt := hB.lt (hG.2.2 r hr) k2
          rw [← hc1, gA_sA_s, cu_g hr (hG.2.2 r hr), hC r hr, rd_in _ (by omega) (by omega), (hR.2.2 r (hG.2.2 r hr) (p r) k2).2.2.2]) (fun r hr => by
          obtain ⟨T', k1, k2, k3, k4, k5⟩ := hst r hr
          have h9 := (hsp r hr).2.2
          rw [k1] at h9 ⊢
          exact ⟨k4, k5, h9⟩)
        refine ⟨f, ?_⟩
        rw [← hc1, sA_sA, hc1] at hz
        exact hz
/-- how a group stands: the traces have one shape -/
def GTk (R : Nat) (ln bs : Nat → Nat) (en : Nat → Nat → Nat) (f22 : Nat → Int32) (g : List Nat) (op : Nat → List Nat) : Prop :=
  ∃ (sh : List Bool), ∀ r, r ∈ g → ∃ T, Tk (asked f22 (bs r)) (en r) (ln r) T (op r) ∧ T.map (fun x => x.1) = sh
theorem takeC_eq {R : Nat} {g : List Nat} (hG : GS R g) (h0 : 0 < g.length) {ln bs : Nat → Nat} {sy : Nat → Nat → Int32} {en uc pc : Nat → Nat → Nat} {op : Nat → List Nat} {K : Nat} (hB : BsW R ln bs) (he : ∀ r, r ∈ g → ∀ q, q < ln r → q < en r q) (hK : ∀ r, r ∈ g → (op r).length = K ∧ ∀ s, s < K → nth (op r) s < ln r) {c : St} (hR : RlC R ln bs sy en uc pc c) (hT : GTk R ln bs en (gA c 22) g op) :
    ∃ f, (match pos (ndC sy op g) g.length K 0 none with
        | none => F_X1_takePosition (mk g) c = some (0, sA c 32 f)
        | some (true, z) => F_X1_takePosition (mk g) c = some (mk g, sA c 32 f) ∧ ∀ r, r ∈ g → f r = nI (bs r + nth (op r) z)
        | some (false, z) => F_X1_takePosition (mk g) c = some (mk (ngM sy op g z), sA c 32 f)) := by
  have hR24 := hG.1
  obtain ⟨sh, hT⟩ := hT
  have hf : nth g 0 ∈ g := gD_mem h0
  have hfR := hG.2.2 _ hf
  have hst := start_loop hG hR.1 hR.2.1 R 5000 0 (by omega) (by omega) (c := c)
  rw [cu_0, sA_gA] at hst
  have hst' : F_X1_startCursors (mk g) c = _ := hst
  obtain ⟨c1, hc1⟩ : ∃ c1, sA c 32 (cu (gA c 32) g (fun r => nI (bs r)) R) = c1 := ⟨_, rfl⟩
  rw [hc1] at hst'
  have hsh : sh.length ≤ 160 := by
    obtain ⟨T, ⟨t1, -, -⟩, t2⟩ := hT _ hf
    have := (Ws.inc (he _ hf) T t1).1
    have h3 := congrArg List.length t2
    rw [List.length_map] at h3
    have := (hB.2.2.1 _ hfR).2
    omega
  have hTf : ∃ T : Nat → Tc, ∀ r, r ∈ g → Tk (asked (gA c 22) (bs r)) (en r) (ln r) (T r) (op r) ∧ (T r).map (fun x => x.1) = sh := by
    refine ⟨fun r => if h : r ∈ g then Classical.choose (hT r h) else [], fun r hr => ?_⟩
    dsimp only
    rw [dif_pos hr]
    exact Classical.choose_spec (hT r hr)
  obtain ⟨T, hTf⟩ := hTf
  obtain ⟨f, hz⟩ := takeC_loop hG h0 hB hK (f22 := gA c 22) sh T (fun _ => 0) 0 0 5000 none c1 (by omega) (by omega) (Nat.zero_le _) (fun z hz => by cases hz) (by rw [← hc1]; exact hR) (by rw [← hc1]; rfl) (fun r hr => by
    rw [← hc1, gA_sA_s, cu_g hr (hG.2.2 r hr)]
    rfl) (fun r hr => ⟨(hTf r hr).1.1, (hTf r hr).2, by rw [List.drop_zero]; exact (hTf r hr).1.2.1⟩)
  rw [Nat.sub_zero] at hz
  have hgo : F_X1_takePosition (mk g) c = F_X1_takePosition_15 5000 (mk g) (nI (nth g 0)) (oM sy op g none) (nI 0) c1 := by
    unfold F_X1_takePosition
    rw [first_mk hG h0, bo_s, hst', bo_s]
    rfl
  rw [← hc1, sA_sA, hc1, ← hgo] at hz
  exact ⟨f, hz⟩
