section
variable {N n A R : Nat} {ct ar : Nat → Nat} {pk : Nat → Int32} {rw : Nat → Int32} {te : Nat → Nat} {ln bs : Nat → Nat} {sy : Nat → Nat → Int32} {en wt uc pc : Nat → Nat → Nat} {f22 : Nat → Int32} {X : List Nd}
theorem one_none {op : Nat → List Nat} {K : Nat} {g : List Nat} (hp : pos (ndC sy op g) g.length K 0 none = none) {r : Nat} (hrg : r ∈ g) : pos (ndC sy op [r]) 1 K 0 none = none := by
  refine pos_nil (by omega) K 0 (fun z h2 h3 => ?_)
  have h4 := (pos_none K 0 none hp).2 z h2 h3
  unfold ndC at h4 ⊢
  have h5 : ∀ r', r' ∈ g → ¬ decide (0 ≤ sy r' (nth (op r') z)) = true := List.filter_eq_nil_iff.mp (List.eq_nil_of_length_eq_zero h4)
  rw [List.filter_cons_of_neg (p := fun r => decide (0 ≤ sy r (nth (op r) z))) (h5 r hrg)]
  rfl
theorem walk_main (hW : ∀ r, r < R → PW N ct ar pk (ln r) (sy r) (en r) (wt r)) (hT : TmW n N A rw te ar) (hN : N ≤ 60) (hA6 : A ≤ 6) (hB : BsW R ln bs) (hU : UcW R N A ar ln sy en uc pc) (hX : X.length ≤ 559) (hm : mxN X ≤ 184) : ∀ d, WalkOK N n A ar rw te R ln bs sy en wt uc pc f22 X d := by
  intro d
  induction d with
  | zero =>
    intro i dep β γ as af x cl P Q O c hXe hK hBW hl hC he hin
    obtain ⟨r, hr⟩ := List.exists_mem_of_length_pos hin.1.1
    have := (hin.2.1 r hr).1
    have := hin.1.1
    omega
  | succ d ih =>
    intro i dep β γ as af x cl P Q O c hXe hK hBW hl hC he hin hcl hcl2 hO hO24
    obtain ⟨g, op, K, lab, tsf⟩ := i
    obtain ⟨hG, hrs, hMk, hlab, hts⟩ := hin
    dsimp only at hG hrs hMk hlab hts
    obtain ⟨hH, hRl, h22, hPa⟩ := id hK
    have har : ∀ c, c < N → ar c ≤ 4 := fun i hi => (hPa.2.1 i hi).1
    have hg1 := hG.1
    have hdepm : ∀ (nd : Nd), nd ∈ X → nd.2.2.2.2.2 = dep → dep ≤ 184 := fun nd h1 h2 => by have := mxN_le h1; omega
    obtain ⟨T, hT0⟩ : ∃ T, trW N ar sy en (d + 1) dep (g, op, K, lab, tsf) = T := ⟨_, rfl⟩
    obtain ⟨outs, hou⟩ : ∃ o, outW N n ar rw te sy en (d + 1) β x as af (g, op, K, lab, tsf) = o := ⟨_, rfl⟩
    rw [hT0] at hXe ⊢
    rw [hou] at hO24 ⊢
    -- the first node
    obtain ⟨nd, cs, e1, e2, e3, e4⟩ := Tr_split (ct := ct) (pk := pk) hW hN d g op K (lbI lab) dep hG (fun r hr => (hrs r hr).1)
    obtain ⟨S, hS⟩ : ∃ S, cs.flatMap (trI N ar sy en d (dep + 1)) = S := ⟨_, rfl⟩
    rw [hS] at e1
    have hTe : T = nd :: S := by rw [← hT0]; exact e1
    rw [hTe] at hXe ⊢
    have hndX : X[P.length]? = some nd := by
      rw [hXe, List.getElem?_append_right (Nat.le_refl _), Nat.sub_self]
      rfl
    have hdep : dep ≤ 184 := hdepm nd (List.mem_of_getElem? hndX) e2
    have hSdeep : ∀ y, y ∈ S → dep < y.2.2.2.2.2 := by
      intro y hy
      rw [← hS] at hy
      obtain ⟨j, hj, k2⟩ := List.mem_flatMap.mp hy
      have := Tr_deep d _ _ _ _ _ y k2
      omega
    have hndl : nd.2.2.2.2.1 = lbI lab := by
      have e5 : Tr N ar sy en (d + 1) g op K (lbI lab) dep = nd :: S := e1
      rw [Tr] at e5
      cases hp : pos (ndC sy op g) g.length K 0 none with
      | none =>
        rw [hp] at e5
        dsimp only at e5
        split at e5 <;> (injection e5 with e6 e7; rw [← e6])
      | some z =>
        obtain ⟨b, s⟩ := z
        rw [hp] at e5
        cases b <;> (dsimp only at e5; injection e5 with e6 e7; rw [← e6])
    have hXe2 : X = (P ++ [nd]) ++ (S ++ Q) := by rw [hXe]; simp
    have hXl : X.length = P.length + (S.length + 1) + Q.length := by rw [hXe]; simp; omega
    have hlbl : ∀ i, lab = some i → i < N ∧ β.length < 160 ∧ gA c 45 dep = nI x ∧ VId n rw ar β x := by
      intro i hi
      obtain ⟨l1, l2, l3⟩ := hlab i hi
      obtain ⟨r, hr⟩ := List.exists_mem_of_length_pos hg1
      have := (hrs r hr).2
      rw [hi] at this
      simp at this
      exact ⟨l1, by omega, l2, l3⟩
    obtain ⟨c1, b1, b2⟩ := comes_label hT hN hK hBW hl hC hndX hX hndl hdep he hlbl
    have hstep := reach_step hH hX hm hndX e2 hcl hcl2
    have h16 : gF c1 16 = gF c 16 := b1.1 16 (by omega)
    have hlenT : (nd :: S).length = S.length + 1 := rfl
    rw [hlenT]
    cases hacc : acc n rw ar β x lab with
    | none =>
      rw [hacc] at b2
      dsimp only at b2
      have hou0 : outs = [] := by rw [← hou]; unfold outW; dsimp only; rw [hacc]
      rw [hou0]
      refine ⟨fun _ => ⟨c1, dep, [], fun w => ?_, Nat.le_refl _, by omega, by rw [List.append_nil]; exact hBW.pre, ?_, by rw [List.append_nil]; exact b2.2, by simpa using hO.kept b1.okp, b1.frK, fun j y y1 y2 _ => by rw [b1.2 j (by omega)]⟩, fun hn => absurd (fun o ho => by cases ho) hn⟩
      · rw [show w + (S.length + 1) = w + S.length + 1 by omega, hstep, b2.1, bo_s, ck_h (by rw [h16]; simp), if_pos rfl, F_X7_reachesAll_53, if_neg (fun z => by have := nI_inj (b := 186) (by omega) (by omega) z; omega), F_X7_reachesAll_132, nI_1]
        have := skip_loop (hH.kept (b1.1 9 (by omega)) (fun j j1 j2 => b1.2 j (by omega))) hX hm (cl := dep) S (P ++ [nd]) Q hXe2 hSdeep w
        rw [List.length_append] at this
        have e : P.length + [nd].length = P.length + 1 := rfl
        rw [e] at this
        rw [this]
        congr 2
        omega
      · rw [List.append_nil]
        rw [List.length_append] at hl
        omega
    | some β1 =>
      rw [hacc] at b2
      dsimp only at b2
      obtain ⟨b3, b4, b5⟩ := b2
      obtain ⟨t1, t2, t3⟩ := hts β1 hacc
      obtain ⟨δ, hδ, hδl⟩ := acc_ext hacc
      have hβ1l : ∀ r, r ∈ g → β1.length + rs (en r) (op r) ≤ 160 := by
        intro r hr
        have h2 := (hrs r hr).2
        rw [hδ, List.length_append]
        omega
      have hβ1 : β1.length ≤ 160 := by
        obtain ⟨r, hr⟩ := List.exists_mem_of_length_pos hg1
        have := hβ1l r hr
        omega
      have hsz : 8 + n + sz ar β1 ≤ 808 := by
        have h1 := (Vl_facts hT.1 β1 b5 har).2.2.2
        have h2 := hT.1.1
        omega
      have hVb : (Vl n rw ar β1).length < 2 ^ 31 := by
        have h1 := (Vl_facts hT.1 β1 b5 har).2.2.1
        have h2 := hT.1.1
        have h3 : 4 * n * β1.length ≤ 4 * 160 * 160 := Nat.mul_le_mul (by omega) hβ1
        omega
      obtain ⟨c2, q1, q2, q3, q4, q5⟩ := comes_85 (hH.kept (b1.1 9 (by omega)) (fun j j1 j2 => b1.2 j (by omega))) hndX hX hdep (β := β1) (as := as) (af := af) b4.2.1 (by rw [b1.2 46 (by omega)]; exact he.2.1) (by rw [b1.2 47 (by omega)]; exact he.2.2)
      have k2 : FrK c c2 := b1.frK.trans ⟨fun j _ => q3 j, fun j _ => q4 j (by omega) (by omega) (by omega)⟩
      have ok2 : OKp c c2 := b1.okp.trans ⟨q3 15, q3 16, fun j j1 j2 => q4 j (by omega) (by omega) (by omega), q4 48 (by omega) (by omega) (by omega)⟩
      have fe2 : FrE dep c c2 := fun j y y1 y2 y3 => by rw [q5 j y y3, b1.2 j (by omega)]
      have hC2 : CT n rw te ar β1 c2 := b4.kept (fun j _ _ => q3 j) (fun j j1 => q4 j (by omega) (by omega) (by omega))
      have hK2 := hK.kept k2
      have hO2 := hO.kept ok2
      have h45 : gA c2 45 = gA c 45 := by rw [q4 45 (by omega) (by omega) (by omega), b1.2 45 (by omega)]
      have hou1 : outs = Led N n ar rw te sy en (d + 1) g op K (tsf β1) β1 as af := by rw [← hou]; unfold outW; dsimp only; rw [hacc]
      have n1 : gA c2 23 P.length = nI nd.1 := (hK2.1.2 _ nd hndX).1
      have h162 : (gF c2 16 == gF c 16) = true := by rw [q3, h16]; simp
      -- what the children give is what the tree gives
      have lift : ∀ (c3 : St) (as' af' x' : Nat) (cs' : List Wi), FrK c c3 → OKp c c3 → FrE dep c c3 → CT n rw te ar β1 c3 → Ent (dep + 1) β1 as' af' c3 → (∀ i, i ∈ cs' → WkIn N n A ar rw te R ln bs sy en wt uc pc f22 d (dep + 1) β1 x' i (gA c3 45)) → cs'.flatMap (trW N ar sy en d (dep + 1)) = S → cs'.flatMap (outW N n ar rw te sy en d β1 x' as' af') = outs → (∀ w, F_X7_reachesAll_6 (w + 1) (nI cl) (nI P.length) c = F_X7_reachesAll_6 w (nI 186) (nI (P.length + 1)) c3) → WkOut N n A ar rw te β dep cl P.length (S.length + 1) outs O c := by
        intro c3 as' af' x' cs' k3 ok3 fe3 hC3 he3 hin3 hS3 ho3 hre
        have hr := walk_run ih cs' [] 186 (P ++ [nd]) Q O c3 (by rw [hS3]; exact hXe2) (hK.kept k3) (by rw [List.append_nil]; exact b5) (by rw [List.append_nil]; exact hβ1) (by rw [List.append_nil]; exact hC3) he3 hin3 (by omega) (Nat.le_refl _) (hO.kept ok3) (by rw [ho3]; exact hO24)
        rw [hS3, ho3, List.length_append] at hr
        have e : P.length + [nd].length = P.length + 1 := rfl
        rw [e] at hr
        obtain ⟨r1, r2⟩ := hr
        refine ⟨fun hall => ?_, fun hn => ?_⟩
        · obtain ⟨c4, cl', γ', u1, u2, u3, u4, u5, u6, u7, u8, u9⟩ := r1 hall
          refine ⟨c4, cl', δ ++ γ', fun w => ?_, by omega, u3, ?_, ?_, ?_, u7, k3.trans u8, fun j y y1 y2 y3 => by rw [u9 j y y1 y2 (by omega), fe3 j y y1 y2 y3]⟩
          · rw [show w + (S.length + 1) = w + S.length + 1 by omega, hre, u1 w]
            congr 2
            omega
          · rw [← List.append_assoc, ← hδ]; exact u4
          · rw [← List.append_assoc, ← hδ]; exact u5
          · rw [← List.append_assoc, ← hδ]; exact u6
        · obtain ⟨c4, u1, u2, u3, u4⟩ := r2 hn
          exact ⟨c4, fun w => by rw [show w + (S.length + 1) = w + S.length + 1 by omega, hre, u1 w], k3.trans u2, fun j y y1 y2 y3 => by rw [u3 j y y1 y2 (by omega), fe3 j y y1 y2 y3], u4⟩
      rw [Mrk] at hMk
      rw [Led] at hou1
      have e1' : Tr N ar sy en (d + 1) g op K (lbI lab) dep = nd :: S := e1
      rw [Tr] at e1'
      cases hp : pos (ndC sy op g) g.length K 0 none with
      | none =>
        rw [hp] at hMk hou1 e1'
        dsimp only at hou1 e1'
        by_cases hg : g.length = 1
        · -- a leaf
          rw [if_pos hg] at e1'
          injection e1' with e6 e7
          have hnd1 : nd.1 = 0 := by rw [← e6]
          have hgl : g = [nth g 0] := by
            cases g with
            | nil => cases hg
            | cons y l =>
              cases l with
              | nil => rfl
              | cons z l => simp at hg
          have hou2 : outs = [(nth g 0, as, af, β1)] := by
            rw [hou1]
            conv => lhs; rw [hgl]
            rfl
          have hsb : gA c2 24 P.length = nI (nth g 0) := by rw [(hK2.1.2 _ nd hndX).2.1, ← e6]; rfl
          have hcome : F_X7_comesTo (nI P.length) (nI dep) c = some (1, c2) := by rw [b3, q1, hnd1, if_neg (by decide)]
          have hpre : ∀ w, F_X7_reachesAll_6 (w + 1) (nI cl) (nI P.length) c = if gF c2 13 ≤ 400 then (bo (F_X0_add (nI (nth g 0)) (nI as) (nI af) c2) (fun r8 s9 => ck (!(nI ((gF s9 16).toNatClampNeg) == 0)) (F_X7_reachesAll_132 (F_X7_reachesAll_6 w) 186 (nI P.length) s9))) else (some (0, c2)) := by
            intro w
            rw [hstep, hcome, bo_s, ck_h h162, if_neg (by decide), F_X7_reachesAll_53, if_pos rfl, rd_in _ (by omega) (by omega), n1, hnd1, bd_r, if_pos (by rfl), rd_in _ (by omega) (by omega), hsb, bd_r, nI_1, rd_in _ (by omega) (by omega), q2.2.1, bd_r, rd_in _ (by omega) (by omega), q2.2.2, bd_r]
            rfl
          rw [hou2]
          rw [← e7]
          have hsl0 : ([] : List Nd).length + 1 = 1 := rfl
          rw [hsl0]
          refine ⟨fun hall => ?_, fun hn => ?_⟩
          · have hsh : (Vl n rw ar β1).length ≤ 400 := hall _ List.mem_cons_self
            rw [hou2] at hO24
            obtain ⟨c3, a1, a2, a3, a4, a5⟩ := add_eq hT hN hA6 har b5 hsz hsh (O := O) (by simp at hO24; omega) (hK2.2.2.2) hC2 hO2 (nth g 0) as af
            refine ⟨c3, 186, δ, fun w => ?_, by omega, Nat.le_refl _, by rw [← hδ]; exact b5, by rw [← hδ]; exact hβ1, by rw [← hδ]; exact hC2.kept (fun j j1 j2 => a4 j (by omega) (by omega) (by omega)) (fun j j1 => a5 j (by omega)), a2, k2.trans ⟨fun j j1 => a4 j (by omega) (by omega) (by omega), fun j j1 => a5 j (by omega)⟩, fun j y y1 y2 y3 => by rw [a5 j (by omega), fe2 j y y1 y2 y3]⟩
            rw [hpre, hC2.2.2.1, if_pos (show _ ≤ (400 : Int32) from nI_le (b := 400) hsh (by omega)), a1, bo_s, a3, nI_clamp (by omega), ck_h (by decide), F_X7_reachesAll_132, nI_1]
            rfl
          · have hnsh : ¬ (Vl n rw ar β1).length ≤ 400 := fun z => hn (fun o ho => by rw [List.mem_singleton.mp ho]; exact z)
            exact ⟨c2, fun w => by rw [hpre, hC2.2.2.1, if_neg (show ¬ _ ≤ (400 : Int32) from nI_ge (a := 400) (by omega) hVb)], k2, fe2, hO2.2.1⟩
        · -- the rules part, each by itself
          rw [if_neg hg] at e1'
          injection e1' with e6 e7
          have hnd1 : nd.1 = 2 := by rw [← e6]
          have hone : ∀ r, r ∈ g → ∃ d', d = d' + 1 := by
            intro r hrg
            have hrd := (hrs r hrg).1
            exact ⟨d - 1, by omega⟩
          refine lift c2 as af 0 (g.map fun r => ([r], op, K, none, fun _ => tsf β1)) k2 ok2 fe2 hC2 q2 (fun i hi => ?_) ?_ ?_ (fun w => ?_)
          · obtain ⟨r, hr, rfl⟩ := List.mem_map.mp hi
            have hsl : [r].Sublist g := List.singleton_sublist.mpr hr
            obtain ⟨d', rfl⟩ := hone r hr
            refine ⟨hG.run hsl (by simp), fun r' hr' => ?_, ?_, fun j hj => (by cases hj), fun β2 hb2 => ?_⟩
            · rw [List.mem_singleton.mp hr']
              have h1 := (hrs r hr).1
              have h2 := hβ1l r hr
              refine ⟨?_, ?_⟩
              · show rs (en r) (op r) + 1 ≤ d' + 1
                omega
              · show β1.length + 0 + rs (en r) (op r) ≤ 160
                omega
            · show Mrk N ar sy en bs f22 (d' + 1) [r] op K (dep + 1)
              rw [Mrk, show [r].length = 1 from rfl, one_none hp hr]
              trivial
            · cases hb2
              refine ⟨t1, t2, ?_⟩
              intro r' hr' s hs
              rw [List.mem_singleton.mp hr', h45]
              rcases t3 r hr s hs with h | ⟨p, y, dp, i, h1, h2, h3, h4, h5⟩
              · exact Or.inl h
              · exact Or.inr ⟨p, y, dp, i, h1, h2, h3, by omega, h5⟩
          · rw [List.flatMap_map, ← e7]
            have : ∀ l : List Nat, (∀ r, r ∈ l → r ∈ g) → (l.flatMap fun r => trW N ar sy en d (dep + 1) ([r], op, K, none, fun _ => tsf β1)) = l.map fun r => ((0, r, 0, 0, -1, dep + 1) : Nd) := by
              intro l
              induction l with
              | nil => intro _; rfl
              | cons r l ihl =>
                intro hlm
                rw [List.map_cons, List.flatMap_cons, ihl (fun r' h' => hlm r' (List.mem_cons_of_mem _ h'))]
                have hrg := hlm r List.mem_cons_self
                obtain ⟨d', hd'⟩ := hone r hrg
                have : trW N ar sy en d (dep + 1) ([r], op, K, none, fun _ => tsf β1) = [(0, r, 0, 0, -1, dep + 1)] := by
                  show Tr N ar sy en d [r] op K (-1) (dep + 1) = _
                  rw [hd', Tr, show [r].length = 1 from rfl, one_none hp hrg]
                  rfl
                rw [this]
                rfl
            exact this g (fun r hr => hr)
          · rw [List.flatMap_map, hou1]
            have : ∀ l : List Nat, (∀ r, r ∈ l → r ∈ g) → (l.flatMap fun r => outW N n ar rw te sy en d β1 0 as af ([r], op, K, none, fun _ => tsf β1)) = l.map fun r => ((r, as, af, β1) : Ot) := by
              intro l
              induction l with
              | nil => intro _; rfl
              | cons r l ihl =>
                intro hlm
                rw [List.map_cons, List.flatMap_cons, ihl (fun r' h' => hlm r' (List.mem_cons_of_mem _ h'))]
                have hrg := hlm r List.mem_cons_self
                obtain ⟨d', hd'⟩ := hone r hrg
                have : outW N n ar rw te sy en d β1 0 as af ([r], op, K, none, fun _ => tsf β1) = [(r, as, af, β1)] := by
                  show Led N n ar rw te sy en d [r] op K (tsf β1) β1 as af = _
                  rw [hd', Led, show [r].length = 1 from rfl, one_none hp hrg]
                  rfl
                rw [this]
                rfl
            exact this g (fun r hr => hr)
          · rw [hstep, b3, q1, hnd1, if_neg (by decide), bo_s, ck_h h162, if_neg (by decide), F_X7_reachesAll_53, if_pos rfl, rd_in _ (by omega) (by omega), n1, hnd1, bd_r, if_neg (by decide), F_X7_reachesAll_132, nI_1]
            rfl
      | some z =>
        obtain ⟨bb, s⟩ := z
        obtain ⟨hs, hbt, hbf⟩ := pos_some K 0 none bb s hp (fun y hy => by cases hy)
        rw [Nat.zero_add] at hs
        rw [hp] at hMk hou1 e1'
        cases bb with
        | false =>
          dsimp only at hMk hou1 e1'
          injection e1' with e6 e7
          have hnd1 : nd.1 = 2 := by rw [← e6]
          obtain ⟨hb1, hb2⟩ := hbf rfl
          have hrsp := runs_spec (ndB sy op s) g.length g (Nat.le_refl _)
          refine lift c2 as af 0 ((runs (ndB sy op s) g.length g).map fun l => (l, op, K, none, fun _ => tsf β1)) k2 ok2 fe2 hC2 q2 (fun i hi => ?_) ?_ ?_ (fun w => ?_)
          · obtain ⟨l, hl', rfl⟩ := List.mem_map.mp hi
            obtain ⟨l1, l2, v, l3⟩ := hrsp.2 l hl'
            refine ⟨hG.run l2 l1, fun r hr => ?_, hMk l hl', fun j hj => (by cases hj), fun β2 hb2 => ?_⟩
            · have h1 := (hrs r (l2.subset hr)).1
              have h2 := hβ1l r (l2.subset hr)
              have h3 := run_short hb1 hb2 l2 l3
              refine ⟨?_, ?_⟩
              · show rs (en r) (op r) + l.length ≤ d
                omega
              · show β1.length + 0 + rs (en r) (op r) ≤ 160
                omega
            · cases hb2
              refine ⟨t1, t2, ?_⟩
              intro r hr s hs
              rw [h45]
              rcases t3 r (l2.subset hr) s hs with h | ⟨p, y, dp, i, h1, h2, h3, h4, h5⟩
              · exact Or.inl h
              · exact Or.inr ⟨p, y, dp, i, h1, h2, h3, by omega, h5⟩
          · rw [List.flatMap_map, ← e7]
            rfl
          · rw [List.flatMap_map, hou1]
            rfl
          · rw [hstep, b3, q1, hnd1, if_neg (by decide), bo_s, ck_h h162, if_neg (by decide), F_X7_reachesAll_53, if_pos rfl, rd_in _ (by omega) (by omega), n1, hnd1, bd_r, if_neg (by decide), F_X7_reachesAll_132, nI_1]
            rfl
        | true =>
          dsimp only at hMk hou1 e1'
          injection e1' with e6 e7
          have hnd1 : nd.1 = 1 := by rw [← e6]
          have hm0 : nth g 0 ∈ g := gD_mem hg1
          have hr0 := (hG.2.2.1 _ hm0).1
          have hq0 := (hG.2.2.1 _ hm0).2.2 s hs
          have hsb : sbj bs nd = nI (bs (nth g 0) + nth (op (nth g 0)) s) := by rw [← e6]; rfl
          obtain ⟨t, ht⟩ : ∃ t, nth (tsf β1) s = t := ⟨_, rfl⟩
          obtain ⟨c3, a1, a2, a3, a4, a5, a6, a7⟩ := askW_eq hT hN hA6 har hB hK2 b5 hsz hC2 (t := t) hr0 hq0 hdep q2 (by
            rcases t3 _ hm0 s hs with h | ⟨p, y, dp, i, h1, h2, h3, h4, h5, h6⟩
            · rw [ht] at h; exact Or.inl h
            · rw [ht] at h6; exact Or.inr ⟨p, y, dp, i, h1, h2, h3, h4, by rw [h45]; exact h5, h6⟩)
          have k3 : FrK c c3 := k2.trans ⟨fun j _ => a5 j, fun j j1 => a6 j (by omega)⟩
          have ok3 : OKp c c3 := ok2.trans ⟨a5 15, a5 16, fun j j1 j2 => a6 j (by omega), a6 48 (by omega)⟩
          have fe3 : FrE dep c c3 := fun j y y1 y2 y3 => by rw [a7 j y y3, fe2 j y y1 y2 y3]
          refine lift c3 (as + 1) _ t ((kidsC sy op s N g).map fun i => (subG sy op s (nI i) g, opT en op s (ar i), K + ar i - 1, some i, fun β' => opL (tsf β1) (kd n rw te ar β' t) s)) k3 ok3 fe3 (hC2.kept (fun j _ _ => a5 j) (fun j j1 => a6 j (by omega))) a2 (fun i hi => ?_) ?_ ?_ (fun w => ?_)
          · obtain ⟨i0, hi0, rfl⟩ := List.mem_map.mp hi
            have hsub : (subG sy op s (nI i0) g).Sublist g := List.filter_sublist
            have hiN := (kids_mem.mp hi0).1
            refine ⟨hG.sub hW hN hs hiN (subG_pos hi0), fun r hr => ?_, hMk.2 i0 hi0, fun j hj => ?_, fun β2 hb2 => ?_⟩
            · have hrg := hsub.subset hr
              have h1 := (hrs r hrg).1
              have h2 := hβ1l r hrg
              have hlen := hsub.length_le
              have h3 := rs_take (hW r (hG.2.2.1 r hrg).1) (l := op r) (s := s) (c := i0) (by rw [(hG.2.2.1 r hrg).2.1]; exact hs) ((hG.2.2.1 r hrg).2.2 s hs) (subG_mem.mp hr).2 (by omega) hN
              refine ⟨?_, ?_⟩
              · show rs (en r) (opL (op r) (chl (en r) (nth (op r) s + 1) (ar i0)) s) + (subG sy op s (nI i0) g).length ≤ d
                omega
              · show β1.length + 1 + rs (en r) (opL (op r) (chl (en r) (nth (op r) s + 1) (ar i0)) s) ≤ 160
                omega
            · cases hj
              exact ⟨hiN, a3, a4⟩
            · dsimp only at hb2 ⊢
              rw [← ht] at hb2 ⊢
              have hB2 : BW n N ar β2 := by
                rw [ht] at hb2
                unfold acc at hb2
                dsimp only at hb2
                cases hc : cn n rw ar β1 t with
                | none =>
                  rw [hc] at hb2
                  cases hb2
                  obtain ⟨m1, m2⟩ := free_nm a4 hc
                  exact b5.snoc hiN m2 m1
                | some j =>
                  rw [hc] at hb2
                  dsimp only at hb2
                  split at hb2
                  · cases hb2; exact b5
                  · cases hb2
              refine Pth_kid hW hT hN hU hG t1 t2 t3 (fun y hy => ?_) hs hiN hMk.1 (by rw [a3, ht]) hb2 hB2
              rw [a7 45 y hy, h45]
          · rw [List.flatMap_map, ← e7]
            rfl
          · rw [List.flatMap_map, hou1, ht]
            cases hc : cn n rw ar β1 t with
            | none =>
              dsimp only
              have : (af + if (none : Option Nat).isNone = true then 1 else 0) = af + 1 := rfl
              rw [this]
              apply flat_congr
              intro i hi
              unfold outW acc
              dsimp only
              rw [hc]
            | some j =>
              dsimp only
              have : (af + if (some j : Option Nat).isNone = true then 1 else 0) = af := rfl
              rw [this]
              have hnd : (kidsC sy op s N g).Nodup := (kids_sorted sy op s N g).imp (fun h => Nat.ne_of_lt h)
              rw [← flat_one (fun i => Led N n ar rw te sy en d (subG sy op s (nI i) g) (opT en op s (ar i)) (K + ar i - 1) (opL (tsf β1) (kd n rw te ar β1 t) s) β1 (as + 1) af) j _ hnd]
              apply flat_congr
              intro i hi
              unfold outW acc
              dsimp only
              rw [hc]
              dsimp only
              by_cases hji : j = i
              · rw [if_pos hji, if_pos hji]
              · rw [if_neg hji, if_neg hji]
          · rw [hstep, b3, q1, hnd1, if_pos (by rfl), hsb, a1, bo_s, bo_s, ck_h (by rw [a5]; exact h162), if_neg (by decide), F_X7_reachesAll_53, if_pos rfl, rd_in _ (by omega) (by omega), a6 23 (by omega), n1, hnd1, bd_r, if_neg (by decide), F_X7_reachesAll_132, nI_1]
            rfl
end
