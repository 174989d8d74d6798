/-! GrainElevator: going through the events anew -/
theorem EqB.emp {a b : List Bn} (h : EqB a b) : a.map emp = b.map emp := by
  apply List.ext_getElem?
  intro i
  rw [List.getElem?_map, List.getElem?_map]
  by_cases hi : i < a.length
  · have h2 := h.2 i hi
    have hb : i < b.length := by rw [← h.1]; exact hi
    rw [List.getD_eq_getElem?_getD, List.getD_eq_getElem?_getD, List.getElem?_eq_getElem hi, List.getElem?_eq_getElem hb] at h2
    rw [List.getElem?_eq_getElem hi, List.getElem?_eq_getElem hb]
    show some (a[i].1, a[i].2.1, []) = some (b[i].1, b[i].2.1, [])
    have e1 : (a[i]).1 = (b[i]).1 := h2.1
    have e2 : (a[i]).2.1 = (b[i]).2.1 := h2.2.1
    rw [e1, e2]
  · rw [List.getElem?_eq_none (by omega), List.getElem?_eq_none (by rw [← h.1]; omega)]
theorem all_emp {cur : List Bn} (h : ∀ j : Nat, j < cur.length → (gB cur j).2.2 = []) : cur.map emp = cur := by
  apply List.ext_getElem?
  intro i
  rw [List.getElem?_map]
  by_cases hi : i < cur.length
  · have h2 := h i hi
    unfold gB at h2
    rw [show ((i : Int)).toNat = i from rfl, List.getD_eq_getElem?_getD, List.getElem?_eq_getElem hi] at h2
    rw [List.getElem?_eq_getElem hi]
    have e : (cur[i]).2.2 = [] := h2
    show some (cur[i].1, cur[i].2.1, []) = some cur[i]
    rw [← e]
  · rw [List.getElem?_eq_none (by omega)]
    rfl
theorem Val.at {gr : Int → Int → Int} {bs bs' : List Bn} {evs : List Evt} {i : Nat} (h : Val gr bs (evs.drop i) bs') {e : Evt} (he : evs[i]? = some e) : evOk bs e ∧ Val gr (apB gr bs e) (evs.drop (i + 1)) bs' := by
  obtain ⟨hi, hx⟩ := List.getElem?_eq_some_iff.mp he
  rw [List.drop_eq_getElem_cons hi, hx] at h
  exact h
set_option maxHeartbeats 8000000 in
set_option maxRecDepth 20000 in
theorem c_goThrough (l : Launch) (hfl : l.stackTraces = false) (D : va_G) (cy : Nat → Nat) (σ : Wd) (tg ad : Nat → Nat) (bs : List Bn) (ru : Nat → Int × Int) (se : Int) (pf : Nat → Int) (hd : Hd) (ca : Int) (evs : List Evt) (ln : List Int) (hX0 : RX cy σ tg ad bs ru se pf hd ca evs ln) : Ct l yX6_goThroughEvents cX6_goThroughEvents 2 none 6 0 0 D cy [.ref (ad 0)] σ (fun v σ' => v = none ∧ RX cy σ' tg ad bs ru se pf hd ca evs ln ∧ (∃ bsN : List Bn, LsB cy σ' tg ad 3 4 200 bsN ∧ EqB bsN bs) ∧ Keep σ σ' (inL tg 200) ∧ σ'.1 = σ.1) noX := by
  refine ct_start (by decide +kernel) hfl rfl (fun κ e1 e2 e3 C E NH => ?_)
  subst e1 e2 e3
  have C : Cx κ cX6_goThroughEvents 2 RX6 "goThroughEvents" 6 := C
  obtain ⟨-, -, -, -, hc, hs⟩ := id E
  show J κ σ [(0, .ref (ad 0))] 0 [] 0 0
  have hXX := hX0
  obtain ⟨⟨x1, x2⟩, hB, ⟨bsA, hA, hAe⟩, hEv, hX, hO⟩ := hXX
  obtain ⟨⟨hR, t7, t8, t9⟩, ⟨hPr, t10⟩, ⟨hH, t11, t12⟩, cap0, hSb, t13, t14⟩ := id hX
  have hL1 := hB.1.1
  have hL5 := hEv.1.1
  have hbl := bins_len ad 100 bs.length
  have hel9 := evl_len ad evs.length
  have h6 := hB.2.1
  obtain ⟨⟨hc1, hc2⟩, hc3, hc4⟩ := hO.2.2.2.1
  have hev80 := hO.2.2.1.2
  have hpr := hO.2.2.2.2.1
  have hRo := hR.1
  have hHo := hH.1
  obtain ⟨ml0, g0, hSc, -⟩ := id hSb
  have hSo := hSc.1
  have hTb := totB_in hO.2.1
  obtain ⟨m91, hl91, -⟩ := id hL1
  obtain ⟨m92, hl92, -⟩ := id hL5
  have hR9 := gradeF_in ru se
  obtain ⟨bsF, hVal, hEqF⟩ := hO.2.2.2.2.2.2 (gradeF ru se) hR9
  have hlA : bsA.length = bs.length := by have := congrArg List.length hAe; simpa using this
  have hL3 := hA.1.1
  refine j_iconst C dX6_goThroughEvents_0 rfl ?_
  refine j_istore_n (lv' := [(0, .ref (ad 0)), (1, vi (0))]) [1, 0] C dX6_goThroughEvents_1 rfl rfl rfl rfl ?_
  have lp2 : ∀ (N : Nat) (i : Nat) (σ1 : Wd) (cur : List Bn), LsB (kc κ) σ1 tg ad 3 4 200 cur → Keep σ σ1 (inL tg 200) → σ1.1 = σ.1 → Val (gradeF ru se) cur (evs.drop i) bsF → i ≤ evs.length → (evs.length + 1 - i) < N → J κ σ1 [(0, .ref (ad 0)), (1, vi ((i : Int)))] 35 [] 0 0 := by
    intro N
    induction N with
    | zero => intro i σ1 cur hC1 hk1 hd1 hV hi hN; exact absurd hN (Nat.not_lt_zero _)
    | succ N ih =>
      intro i σ1 cur hC1 hk1 hd1 hV hi hN
      have x19 := hk1 _ _ x1 (fun z => by have z1 := z.1; omega)
      have hEv1 := hEv.keep hk1 (fun y hy z => by have z1 := z.1; have z2 := z.2; omega) hev80
      have hL51 := hEv1.1.1
      have hRr := hR.keep hk1 ⟨fun z => by have z1 := z.1; omega, fun z => by have z1 := z.1; omega, fun z => by have z1 := z.1; omega⟩
      obtain ⟨m91, hl91, -⟩ := id hL51
      refine j_iload_n 1 C dX6_goThroughEvents_35 rfl rfl rfl ?_
      refine j_aload_n 0 C dX6_goThroughEvents_36 rfl rfl rfl ?_
      refine j_get C dX6_goThroughEvents_37 rfl fg_X6_19 x19 rfl ?_
      refine j_callV (st' := [vi ((i : Int))]) (As := []) C dX6_goThroughEvents_40 rfl m_X6_55 hl91 rfl rfl rfl (c_size (kL κ) hfl (kD κ) (kc κ) σ1 (ad 5) (ad 6) _ hL51) rfl (by omega) (by omega) (by omega) (fun _ _ hx => hx.elim) (fun v2 τ1 hp3 => ?_)
      obtain ⟨rfl, hs9⟩ := hp3
      replace hs9 := hs9.symm
      subst hs9
      show J κ σ1 [(0, .ref (ad 0)), (1, vi ((i : Int)))] 43 [vi (((evl ad evs.length).length : Int)), vi ((i : Int))] _ _
      rw [hel9]
      refine j_icmp_ge (tgt := 71) C dX6_goThroughEvents_43 rfl rfl ⟨by omega, by omega⟩ ⟨by omega, by omega⟩ (fun cc4 => ?_) (fun cc4 => ?_)
      · exact j_vret C E dX6_goThroughEvents_71 (by omega) (by omega) ⟨rfl, ⟨⟨x19, x2⟩, hB.keep hk1 (fun y hy z => by have z1 := z.1; have z2 := z.2; omega), ⟨cur, hC1, (by have e9 : cur = bsF := (by rw [List.drop_of_length_le (by omega)] at hV; exact hV); rw [e9]; exact hEqF.emp)⟩, hEv1, hX.keep hk1 (fun y hy z => by have z1 := z.1; omega), hO⟩, ⟨cur, hC1, (by have e9 : cur = bsF := (by rw [List.drop_of_length_le (by omega)] at hV; exact hV); rw [e9]; exact hEqF)⟩, hk1, hd1⟩
      · have hi9 : i < evs.length := by omega
        obtain ⟨e, he⟩ : ∃ e, evs[i]? = some e := ⟨_, List.getElem?_eq_getElem hi9⟩
        obtain ⟨hE, hte⟩ := hEv1.2 i e he
        have hVa := hV.at he
        have hxi : i < (evl ad evs.length).length := by omega
        have hxb : (evl ad evs.length)[i]'hxi = ad (300 + i) := (List.getElem?_eq_some_iff.mp (evl_at hi9)).2
        refine j_aload_n 0 C dX6_goThroughEvents_46 rfl rfl rfl ?_
        refine j_aload_n 0 C dX6_goThroughEvents_47 rfl rfl rfl ?_
        refine j_get C dX6_goThroughEvents_48 rfl fg_X6_19 x19 rfl ?_
        refine j_iload_n 1 C dX6_goThroughEvents_51 rfl rfl rfl ?_
        refine j_callV (st' := [.ref (ad 0)]) (As := [vi ((i : Int))]) C dX6_goThroughEvents_52 rfl m_X6_194 hl91 rfl rfl rfl (c_listGet (kL κ) hfl (kD κ) (kc κ) σ1 (ad 5) (ad 6) _ hL51 i hxi) rfl (by omega) (by omega) (by omega) (fun _ _ hx => hx.elim) (fun v6 τ5 hp7 => ?_)
        obtain ⟨rfl, hs9⟩ := hp7
        replace hs9 := hs9.symm
        subst hs9
        show J κ σ1 [(0, .ref (ad 0)), (1, vi ((i : Int)))] 55 [.ref ((evl ad evs.length)[i]'hxi), .ref (ad 0)] _ _
        rw [hxb]
        refine j_chk C dX6_goThroughEvents_55 rfl hE rfl cl_X6_106 ?_
        refine j_aload_n 0 C dX6_goThroughEvents_58 rfl rfl rfl ?_
        refine j_get C dX6_goThroughEvents_59 rfl fg_X6_16 x19 rfl ?_
        refine j_callV (st' := []) (As := [.ref (ad (300 + i)), .ref (ad 3)]) C dX6_goThroughEvents_62 rfl m_X6_300 x19 rfl rfl rfl (c_apply (kL κ) hfl (kD κ) (kc κ) σ1 (ad 0) (ad 1) (ad 3) (ad 5) (ad 7) (ad 10) (ad 11) (ad 13) ca x19 tg ad 3 4 200 cur hC1 (ad (300 + i)) e hE (ad 8) (ad 9) ru se hRr (fun y hy => by rcases hy with rfl | rfl | rfl <;> omega) ⟨by omega, by omega⟩ hVa.1) rfl (by omega) (by omega) (by omega) (fun _ _ hx => hx.elim) (fun v9 τ8 hp10 => ?_)
        obtain ⟨rfl, hC2, hk2, hd2⟩ := hp10
        show J κ τ8 [(0, .ref (ad 0)), (1, vi ((i : Int)))] 65 [] _ _
        refine j_iinc (y := (i : Int) + 1) (lv' := [(0, .ref (ad 0)), (1, vi ((i : Int) + 1))]) 1 [1, 0] C dX6_goThroughEvents_65 rfl rfl rfl rfl rfl ?_
        refine j_goto (tgt := 35) C dX6_goThroughEvents_68 rfl ?_
        refine ih (i + 1) τ8 _ hC2 (hk1.tr hk2) (hd2.trans hd1) hVa.2 (by omega) (by omega)
  have lp : ∀ (N : Nat) (i : Nat) (σ1 : Wd) (cur : List Bn), LsB (kc κ) σ1 tg ad 3 4 200 cur → Keep σ σ1 (inL tg 200) → σ1.1 = σ.1 → cur.map emp = bs.map emp → (∀ j : Nat, j < i → (gB cur j).2.2 = []) → i ≤ cur.length → (cur.length + 1 - i) < N → J κ σ1 [(0, .ref (ad 0)), (1, vi ((i : Int)))] 2 [] 0 0 := by
    intro N
    induction N with
    | zero => intro i σ1 cur hC1 hk1 hd1 hce hcl hi hN; exact absurd hN (Nat.not_lt_zero _)
    | succ N ih =>
      intro i σ1 cur hC1 hk1 hd1 hce hcl hi hN
      have x19 := hk1 _ _ x1 (fun z => by have z1 := z.1; omega)
      have hL31 := hC1.1.1
      have hc6 := hC1.2.1
      have hbc := bins_len ad 200 cur.length
      obtain ⟨m91, hl91, -⟩ := id hL31
      refine j_iload_n 1 C dX6_goThroughEvents_2 rfl rfl rfl ?_
      refine j_aload_n 0 C dX6_goThroughEvents_3 rfl rfl rfl ?_
      refine j_get C dX6_goThroughEvents_4 rfl fg_X6_16 x19 rfl ?_
      refine j_callV (st' := [vi ((i : Int))]) (As := []) C dX6_goThroughEvents_7 rfl m_X6_55 hl91 rfl rfl rfl (c_size (kL κ) hfl (kD κ) (kc κ) σ1 (ad 3) (ad 4) _ hL31) rfl (by omega) (by omega) (by omega) (fun _ _ hx => hx.elim) (fun v12 τ11 hp13 => ?_)
      obtain ⟨rfl, hs9⟩ := hp13
      replace hs9 := hs9.symm
      subst hs9
      show J κ σ1 [(0, .ref (ad 0)), (1, vi ((i : Int)))] 10 [vi (((bins ad 200 cur.length).length : Int)), vi ((i : Int))] _ _
      rw [hbc]
      refine j_icmp_ge (tgt := 33) C dX6_goThroughEvents_10 rfl rfl ⟨by omega, by omega⟩ ⟨by omega, by omega⟩ (fun cc14 => ?_) (fun cc14 => ?_)
      · have hall : cur.map emp = cur := all_emp (fun j hj => hcl j (by omega))
        rw [hce] at hall
        refine j_iconst C dX6_goThroughEvents_33 rfl ?_
        refine j_istore_n (lv' := [(0, .ref (ad 0)), (1, vi (0))]) [1, 0] C dX6_goThroughEvents_34 rfl rfl rfl rfl ?_
        exact lp2 _ 0 σ1 cur hC1 hk1 hd1 (by rw [← hall, List.drop_zero]; exact hVal) (Nat.zero_le _) (Nat.lt_succ_self _)
      · have hi9 : i < cur.length := by omega
        obtain ⟨⟨cap, mf, ly⟩, hg⟩ : ∃ z, gB cur (i : Int) = z := ⟨_, rfl⟩
        have hb9 := hC1.at hi9 hg
        obtain ⟨old7, ga7, gb7, gc7, gd7, ⟨hh7, -, -⟩, -⟩ := id hb9
        dsimp only at hh7
        have hxi : i < (bins ad 200 cur.length).length := by omega
        have hxb : (bins ad 200 cur.length)[i]'hxi = bq ad 200 i 0 := (List.getElem?_eq_some_iff.mp (bins_at hi9)).2
        refine j_aload_n 0 C dX6_goThroughEvents_13 rfl rfl rfl ?_
        refine j_get C dX6_goThroughEvents_14 rfl fg_X6_16 x19 rfl ?_
        refine j_iload_n 1 C dX6_goThroughEvents_17 rfl rfl rfl ?_
        refine j_callV (st' := []) (As := [vi ((i : Int))]) C dX6_goThroughEvents_18 rfl m_X6_194 hl91 rfl rfl rfl (c_listGet (kL κ) hfl (kD κ) (kc κ) σ1 (ad 3) (ad 4) _ hL31 i hxi) rfl (by omega) (by omega) (by omega) (fun _ _ hx => hx.elim) (fun v16 τ15 hp17 => ?_)
        obtain ⟨rfl, hs9⟩ := hp17
        replace hs9 := hs9.symm
        subst hs9
        show J κ σ1 [(0, .ref (ad 0)), (1, vi ((i : Int)))] 21 [.ref ((bins ad 200 cur.length)[i]'hxi)] _ _
        rw [hxb]
        refine j_chk C dX6_goThroughEvents_21 rfl hh7 rfl cl_X6_66 ?_
        have hIL := hC1.inL hi9
        refine j_callV (st' := []) (As := []) C dX6_goThroughEvents_24 rfl m_X6_307 hh7 rfl rfl rfl (c_clear (kL κ) hfl (kD κ) (kc κ) σ1 (bq ad 200 i 0) (bq ad 200 i 1) (bq ad 200 i 2) (bq ad 200 i 3) (bq ad 200 i 4) cap mf ly hb9) rfl (by omega) (by omega) (by omega) (fun _ _ hx => hx.elim) (fun v19 τ18 hp20 => ?_)
        obtain ⟨rfl, hb2, hk2, hd2⟩ := hp20
        show J κ τ18 [(0, .ref (ad 0)), (1, vi ((i : Int)))] 27 [] _ _
        have hC2 := hC1.set hi9 ⟨by omega, by omega⟩ hk2 (l := []) (by rw [hg]; exact hb2)
        refine j_iinc (y := (i : Int) + 1) (lv' := [(0, .ref (ad 0)), (1, vi ((i : Int) + 1))]) 1 [1, 0] C dX6_goThroughEvents_27 rfl rfl rfl rfl rfl ?_
        refine j_goto (tgt := 2) C dX6_goThroughEvents_30 rfl ?_
        refine ih (i + 1) τ18 _ hC2 (hk1.tr (hk2.mono hIL)) (hd2.trans hd1) (by rw [setL_emp]; exact hce) (fun j hj => ?_) (by rw [setL_len]; omega) (by rw [setL_len]; omega)
        rw [gB_set (by omega) (by omega) (by omega)]; by_cases hji : (j : Int) = (i : Int)
        · rw [if_pos hji]
        · rw [if_neg hji]; exact hcl j (by omega)
  exact lp _ 0 σ bsA hA Keep.rf rfl hAe (fun j hj => absurd hj (Nat.not_lt_zero _)) (Nat.zero_le _) (Nat.lt_succ_self _)
set_option maxHeartbeats 4000000 in
set_option maxRecDepth 20000 in
theorem c_layerAnew (l : Launch) (hfl : l.stackTraces = false) (D : va_G) (cy : Nat → Nat) (σ : Wd) (tg ad : Nat → Nat) (bs : List Bn) (ru : Nat → Int × Int) (se : Int) (pf : Nat → Int) (hd : Hd) (ca : Int) (evs : List Evt) (ln : List Int) (hX0 : RX cy σ tg ad bs ru se pf hd ca evs ln) (i : Nat) (hi : i < bs.length) (q : Int) (hq : 0 ≤ q ∧ q < ((gB bs i).2.2.length : Int)) : Ct l yX6_layerAnew cX6_layerAnew 3 (some .int) 7 0 0 D cy [.ref (ad 0), vi ((i : Int)), vi (q)] σ (fun v σ' => v = some (vi (lyAt (fl (gB bs i)) q).1) ∧ RX cy σ' tg ad bs ru se pf hd ca evs ln ∧ Keep σ σ' (inL tg 200) ∧ σ'.1 = σ.1) noX := by
  refine ct_start (by decide +kernel) hfl rfl (fun κ e1 e2 e3 C E NH => ?_)
  subst e1 e2 e3
  have C : Cx κ cX6_layerAnew 3 RX6 "layerAnew" 7 := C
  obtain ⟨-, -, -, -, hc, hs⟩ := id E
  show J κ σ [(0, .ref (ad 0)), (1, vi ((i : Int))), (2, vi (q))] 0 [] 0 0
  have hXX := hX0
  obtain ⟨⟨x1, x2⟩, hB, ⟨bsA, hA, hAe⟩, hEv, hX, hO⟩ := hXX
  obtain ⟨⟨hR, t7, t8, t9⟩, ⟨hPr, t10⟩, ⟨hH, t11, t12⟩, cap0, hSb, t13, t14⟩ := id hX
  have hL1 := hB.1.1
  have hL5 := hEv.1.1
  have hbl := bins_len ad 100 bs.length
  have hel9 := evl_len ad evs.length
  have h6 := hB.2.1
  obtain ⟨⟨hc1, hc2⟩, hc3, hc4⟩ := hO.2.2.2.1
  have hev80 := hO.2.2.1.2
  have hpr := hO.2.2.2.2.1
  have hRo := hR.1
  have hHo := hH.1
  obtain ⟨ml0, g0, hSc, -⟩ := id hSb
  have hSo := hSc.1
  have hTb := totB_in hO.2.1
  obtain ⟨m91, hl91, -⟩ := id hL1
  obtain ⟨m92, hl92, -⟩ := id hL5
  refine j_aload_n 0 C dX6_layerAnew_0 rfl rfl rfl ?_
  refine j_callV (st' := []) (As := []) C dX6_layerAnew_1 rfl m_X6_169 x1 rfl rfl rfl (c_goThrough (kL κ) hfl (kD κ) (kc κ) σ tg ad bs ru se pf hd ca evs ln hX0) rfl (by omega) (by omega) (by omega) (fun _ _ hx => hx.elim) (fun v2 τ1 hp3 => ?_)
  obtain ⟨rfl, hG1, ⟨bsN, hN1, hNE⟩, hk1, hd1⟩ := hp3
  show J κ τ1 [(0, .ref (ad 0)), (1, vi ((i : Int))), (2, vi (q))] 4 [] _ _
  obtain ⟨⟨x19, x29⟩, hB2, -, hEv2, hX2, -⟩ := id hG1
  have hL32 := hN1.1.1
  have hln9 := hNE.1
  have hbn9 := bins_len ad 200 bsN.length
  have hN6 := hN1.2.1
  obtain ⟨m91, hl91, -⟩ := id hL32
  refine j_aload_n 0 C dX6_layerAnew_4 rfl rfl rfl ?_
  refine j_get C dX6_layerAnew_5 rfl fg_X6_16 x19 rfl ?_
  refine j_iload_n 1 C dX6_layerAnew_8 rfl rfl rfl ?_
  refine j_iload_n 2 C dX6_layerAnew_9 rfl rfl rfl ?_
  have hi2 : i < bsN.length := by omega
  have hqe := (hNE.at (i := (i : Int)) (by omega) (by omega)).2
  obtain ⟨⟨cap, mf, ly⟩, hg⟩ : ∃ z, gB bsN (i : Int) = z := ⟨_, rfl⟩
  have hb9 := hN1.at hi2 hg
  rw [hg] at hqe
  dsimp only at hqe
  have hle := hqe.2.len
  refine j_callS (st' := []) (As := [.ref (ad 3), vi ((i : Int)), vi (q)]) C dX6_layerAnew_10 rfl m_X6_162 rfl rfl (c_blG (kL κ) hfl (kD κ) (kc κ) τ1 ad 200 (ad 3) (ad 4) _ hL32 i (bins_at hi2) cap mf ly hb9 q (by omega)) rfl (by omega) (by omega) (by omega) (fun _ _ hx => hx.elim) (fun v5 τ4 hp6 => ?_)
  obtain ⟨rfl, hs9⟩ := hp6
  replace hs9 := hs9.symm
  subst hs9
  show J κ τ1 [(0, .ref (ad 0)), (1, vi ((i : Int))), (2, vi (q))] 13 [.ref (bq ad 200 i 0)] _ _
  obtain ⟨old7, ga7, gb7, gc7, gd7, ⟨hh7, -, -⟩, -⟩ := id hb9
  dsimp only at hh7
  refine j_iload_n 2 C dX6_layerAnew_13 rfl rfl rfl ?_
  refine j_callV (st' := []) (As := [vi (q)]) C dX6_layerAnew_14 rfl m_X6_166 hh7 rfl rfl rfl (c_bushelsAt (kL κ) hfl (kD κ) (kc κ) τ1 (bq ad 200 i 0) (bq ad 200 i 1) (bq ad 200 i 2) (bq ad 200 i 3) (bq ad 200 i 4) cap mf ly hb9 q (by omega)) rfl (by omega) (by omega) (by omega) (fun _ _ hx => hx.elim) (fun v8 τ7 hp9 => ?_)
  obtain ⟨rfl, hs9⟩ := hp9
  replace hs9 := hs9.symm
  subst hs9
  show J κ τ1 [(0, .ref (ad 0)), (1, vi ((i : Int))), (2, vi (q))] 17 [vi ((lyAt (fl (cap, mf, ly)) q).1)] _ _
  exact j_iret C E dX6_layerAnew_17 (by omega) (by omega) ⟨congrArg some (congrArg vi (by have e9 : Eqv (fl (cap, mf, ly)) (fl (gB bs i)) := (by rw [bn_eta (gB bs i), hqe.1]; exact hqe.2.fl); exact map_at e9.map1 q)), hG1, hk1, hd1⟩
set_option maxHeartbeats 4000000 in
set_option maxRecDepth 20000 in
theorem c_layerAnewB (l : Launch) (hfl : l.stackTraces = false) (D : va_G) (cy : Nat → Nat) (σ : Wd) (tg ad : Nat → Nat) (bs : List Bn) (ru : Nat → Int × Int) (se : Int) (pf : Nat → Int) (hd : Hd) (ca : Int) (evs : List Evt) (ln : List Int) (hX0 : RX cy σ tg ad bs ru se pf hd ca evs ln) (i : Nat) (hi : i < bs.length) (q : Int) (hq9 : (-2147483648 ≤ q ∧ q < 2147483648)) (hq : q < 0 ∨ ((gB bs i).2.2.length : Int) ≤ q) : Ct l yX6_layerAnew cX6_layerAnew 3 (some .int) 7 1 6 D cy [.ref (ad 0), vi ((i : Int)), vi (q)] σ (fun v σ' => False) (fun E9 σ' => E9 = "java/lang/IndexOutOfBoundsException" ∧ RX cy σ' tg ad bs ru se pf hd ca evs ln ∧ Keep σ σ' (inL tg 200) ∧ σ'.1 = σ.1) := by
  refine ct_start (by decide +kernel) hfl rfl (fun κ e1 e2 e3 C E NH => ?_)
  subst e1 e2 e3
  have C : Cx κ cX6_layerAnew 3 RX6 "layerAnew" 7 := C
  obtain ⟨-, -, -, -, hc, hs⟩ := id E
  show J κ σ [(0, .ref (ad 0)), (1, vi ((i : Int))), (2, vi (q))] 0 [] 0 0
  have hXX := hX0
  obtain ⟨⟨x1, x2⟩, hB, ⟨bsA, hA, hAe⟩, hEv, hX, hO⟩ := hXX
  obtain ⟨⟨hR, t7, t8, t9⟩, ⟨hPr, t10⟩, ⟨hH, t11, t12⟩, cap0, hSb, t13, t14⟩ := id hX
  have hL1 := hB.1.1
  have hL5 := hEv.1.1
  have hbl := bins_len ad 100 bs.length
  have hel9 := evl_len ad evs.length
  have h6 := hB.2.1
  obtain ⟨⟨hc1, hc2⟩, hc3, hc4⟩ := hO.2.2.2.1
  have hev80 := hO.2.2.1.2
  have hpr := hO.2.2.2.2.1
  have hRo := hR.1
  have hHo := hH.1
  obtain ⟨ml0, g0, hSc, -⟩ := id hSb
  have hSo := hSc.1
  have hTb := totB_in hO.2.1
  obtain ⟨m91, hl91, -⟩ := id hL1
  obtain ⟨m92, hl92, -⟩ := id hL5
  refine j_aload_n 0 C dX6_layerAnew_0 rfl rfl rfl ?_
  refine j_callV (st' := []) (As := []) C dX6_layerAnew_1 rfl m_X6_169 x1 rfl rfl rfl (c_goThrough (kL κ) hfl (kD κ) (kc κ) σ tg ad bs ru se pf hd ca evs ln hX0) rfl (by omega) (by omega) (by omega) (fun _ _ hx => hx.elim) (fun v2 τ1 hp3 => ?_)
  obtain ⟨rfl, hG1, ⟨bsN, hN1, hNE⟩, hk1, hd1⟩ := hp3
  show J κ τ1 [(0, .ref (ad 0)), (1, vi ((i : Int))), (2, vi (q))] 4 [] _ _
  obtain ⟨⟨x19, x29⟩, hB2, -, hEv2, hX2, -⟩ := id hG1
  have hL32 := hN1.1.1
  have hln9 := hNE.1
  have hbn9 := bins_len ad 200 bsN.length
  have hN6 := hN1.2.1
  obtain ⟨m91, hl91, -⟩ := id hL32
  refine j_aload_n 0 C dX6_layerAnew_4 rfl rfl rfl ?_
  refine j_get C dX6_layerAnew_5 rfl fg_X6_16 x19 rfl ?_
  refine j_iload_n 1 C dX6_layerAnew_8 rfl rfl rfl ?_
  refine j_iload_n 2 C dX6_layerAnew_9 rfl rfl rfl ?_
  have hi2 : i < bsN.length := by omega
  have hqe := (hNE.at (i := (i : Int)) (by omega) (by omega)).2
  obtain ⟨⟨cap, mf, ly⟩, hg⟩ : ∃ z, gB bsN (i : Int) = z := ⟨_, rfl⟩
  have hb9 := hN1.at hi2 hg
  rw [hg] at hqe
  dsimp only at hqe
  have hle := hqe.2.len
  refine j_callS (st' := []) (As := [.ref (ad 3), vi ((i : Int)), vi (q)]) C dX6_layerAnew_10 rfl m_X6_162 rfl rfl (c_blB (kL κ) hfl (kD κ) (kc κ) τ1 ad 200 (ad 3) (ad 4) _ hL32 i (bins_at hi2) cap mf ly hb9 q hq9 (by omega)) rfl (by omega) (by omega) (by omega) (fun E9 σ9 hx => jx_out C E NH (by omega) (by omega) ⟨hx.1, by rw [hx.2]; exact hG1, by rw [hx.2]; exact hk1, by rw [hx.2]; exact hd1⟩) (fun v5 τ4 hp6 => ?_)
  exact hp6.elim
set_option maxHeartbeats 4000000 in
set_option maxRecDepth 20000 in
theorem c_layerAnewB0 (l : Launch) (hfl : l.stackTraces = false) (D : va_G) (cy : Nat → Nat) (σ : Wd) (tg ad : Nat → Nat) (bs : List Bn) (ru : Nat → Int × Int) (se : Int) (pf : Nat → Int) (hd : Hd) (ca : Int) (evs : List Evt) (ln : List Int) (hX0 : RX cy σ tg ad bs ru se pf hd ca evs ln) (b : Int) (hb9 : (-2147483648 ≤ b ∧ b < 2147483648)) (hbad : b < 0 ∨ (bs.length : Int) ≤ b) (q : Int) : Ct l yX6_layerAnew cX6_layerAnew 3 (some .int) 7 1 6 D cy [.ref (ad 0), vi (b), vi (q)] σ (fun v σ' => False) (fun E9 σ' => E9 = "java/lang/IndexOutOfBoundsException" ∧ RX cy σ' tg ad bs ru se pf hd ca evs ln ∧ Keep σ σ' (inL tg 200) ∧ σ'.1 = σ.1) := by
  refine ct_start (by decide +kernel) hfl rfl (fun κ e1 e2 e3 C E NH => ?_)
  subst e1 e2 e3
  have C : Cx κ cX6_layerAnew 3 RX6 "layerAnew" 7 := C
  obtain ⟨-, -, -, -, hc, hs⟩ := id E
  show J κ σ [(0, .ref (ad 0)), (1, vi (b)), (2, vi (q))] 0 [] 0 0
  have hXX := hX0
  obtain ⟨⟨x1, x2⟩, hB, ⟨bsA, hA, hAe⟩, hEv, hX, hO⟩ := hXX
  obtain ⟨⟨hR, t7, t8, t9⟩, ⟨hPr, t10⟩, ⟨hH, t11, t12⟩, cap0, hSb, t13, t14⟩ := id hX
  have hL1 := hB.1.1
  have hL5 := hEv.1.1
  have hbl := bins_len ad 100 bs.length
  have hel9 := evl_len ad evs.length
  have h6 := hB.2.1
  obtain ⟨⟨hc1, hc2⟩, hc3, hc4⟩ := hO.2.2.2.1
  have hev80 := hO.2.2.1.2
  have hpr := hO.2.2.2.2.1
  have hRo := hR.1
  have hHo := hH.1
  obtain ⟨ml0, g0, hSc, -⟩ := id hSb
  have hSo := hSc.1
  have hTb := totB_in hO.2.1
  obtain ⟨m91, hl91, -⟩ := id hL1
  obtain ⟨m92, hl92, -⟩ := id hL5
  refine j_aload_n 0 C dX6_layerAnew_0 rfl rfl rfl ?_
  refine j_callV (st' := []) (As := []) C dX6_layerAnew_1 rfl m_X6_169 x1 rfl rfl rfl (c_goThrough (kL κ) hfl (kD κ) (kc κ) σ tg ad bs ru se pf hd ca evs ln hX0) rfl (by omega) (by omega) (by omega) (fun _ _ hx => hx.elim) (fun v2 τ1 hp3 => ?_)
  obtain ⟨rfl, hG1, ⟨bsN, hN1, hNE⟩, hk1, hd1⟩ := hp3
  show J κ τ1 [(0, .ref (ad 0)), (1, vi (b)), (2, vi (q))] 4 [] _ _
  obtain ⟨⟨x19, x29⟩, hB2, -, hEv2, hX2, -⟩ := id hG1
  have hL32 := hN1.1.1
  have hln9 := hNE.1
  have hbn9 := bins_len ad 200 bsN.length
  have hN6 := hN1.2.1
  obtain ⟨m91, hl91, -⟩ := id hL32
  refine j_aload_n 0 C dX6_layerAnew_4 rfl rfl rfl ?_
  refine j_get C dX6_layerAnew_5 rfl fg_X6_16 x19 rfl ?_
  refine j_iload_n 1 C dX6_layerAnew_8 rfl rfl rfl ?_
  refine j_iload_n 2 C dX6_layerAnew_9 rfl rfl rfl ?_
  refine j_callS (st' := []) (As := [.ref (ad 3), vi (b), vi (q)]) C dX6_layerAnew_10 rfl m_X6_162 rfl rfl (c_blB0 (kL κ) hfl (kD κ) (kc κ) τ1 (ad 3) (ad 4) _ hL32 b q hb9 (by rw [hbn9, hln9]; exact hbad)) rfl (by omega) (by omega) (by omega) (fun E9 σ9 hx => jx_out C E NH (by omega) (by omega) ⟨hx.1, by rw [hx.2]; exact hG1, by rw [hx.2]; exact hk1, by rw [hx.2]; exact hd1⟩) (fun v5 τ4 hp6 => ?_)
  exact hp6.elim
