/-! GrainElevator: asking, rules, prices -/
theorem Val.kinds {gr : Int → Int → Int} : ∀ {es : List Evt} {bs bs' : List Bn}, Val gr bs es bs' → ∀ e ∈ es, e.1 = 108 ∨ e.1 = 116 ∨ e.1 = 100 ∨ e.1 = 115 ∨ e.1 = 98
  | [], _, _, _, e, he => nomatch he
  | x :: es, bs, bs', h, e, he => by
    rcases List.mem_cons.mp he with rfl | he
    · exact h.1.2.2.2.2.2.2.2
    · exact Val.kinds h.2 e he
theorem Rep.kinds {bs : List Bn} {evs : List Evt} (h : Rep bs evs) : ∀ e ∈ evs, e.1 = 108 ∨ e.1 = 116 ∨ e.1 = 100 ∨ e.1 = 115 ∨ e.1 = 98 := by
  obtain ⟨bs', h1, -⟩ := h (fun _ _ => 1) (fun _ _ => ⟨Int.le_refl 1, (by decide : (1 : Int) ≤ 4)⟩)
  exact Val.kinds h1
set_option maxHeartbeats 4000000 in
set_option maxRecDepth 20000 in
theorem c_binCount (l : Launch) (hfl : l.stackTraces = false) (D : va_G) (cy : Nat → Nat) (σ : Wd) (tg ad : Nat → Nat) (bs : List Bn) (ru : Nat → Int × Int) (se : Int) (pf : Nat → Int) (hd : Hd) (ca : Int) (evs : List Evt) (ln : List Int) (hX0 : RX cy σ tg ad bs ru se pf hd ca evs ln) : Ct l yX6_binCount cX6_binCount 1 (some .int) 4 0 0 D cy [.ref (ad 0)] σ (fun v σ' => v = some (vi ((bs.length : Int))) ∧ σ' = σ) noX := by
  refine ct_start (by decide +kernel) hfl rfl (fun κ e1 e2 e3 C E NH => ?_)
  subst e1 e2 e3
  have C : Cx κ cX6_binCount 1 RX6 "binCount" 4 := C
  obtain ⟨-, -, -, -, hc, hs⟩ := id E
  show J κ σ [(0, .ref (ad 0))] 0 [] 0 0
  have hXX := hX0
  obtain ⟨⟨x1, x2⟩, hB, ⟨bsA, hA, hAe⟩, hEv, hX, hO⟩ := hXX
  obtain ⟨⟨hR, t7, t8, t9⟩, ⟨hPr, t10⟩, ⟨hH, t11, t12⟩, cap0, hSb, t13, t14⟩ := id hX
  have hL1 := hB.1.1
  have hL5 := hEv.1.1
  have hbl := bins_len ad 100 bs.length
  have hel9 := evl_len ad evs.length
  have h6 := hB.2.1
  obtain ⟨⟨hc1, hc2⟩, hc3, hc4⟩ := hO.2.2.2.1
  have hev80 := hO.2.2.1.2
  have hpr := hO.2.2.2.2.1
  have hRo := hR.1
  have hHo := hH.1
  obtain ⟨ml0, g0, hSc, -⟩ := id hSb
  have hSo := hSc.1
  have hTb := totB_in hO.2.1
  obtain ⟨m91, hl91, -⟩ := id hL1
  obtain ⟨m92, hl92, -⟩ := id hL5
  refine j_aload_n 0 C dX6_binCount_0 rfl rfl rfl ?_
  refine j_get C dX6_binCount_1 rfl fg_X6_12 x1 rfl ?_
  refine j_callV (st' := []) (As := []) C dX6_binCount_4 rfl m_X6_55 hl91 rfl rfl rfl (c_size (kL κ) hfl (kD κ) (kc κ) σ (ad 1) (ad 2) _ hL1) rfl (by omega) (by omega) (by omega) (fun _ _ hx => hx.elim) (fun v2 τ1 hp3 => ?_)
  obtain ⟨rfl, hs9⟩ := hp3
  replace hs9 := hs9.symm
  subst hs9
  show J κ σ [(0, .ref (ad 0))] 7 [vi (((bins ad 100 bs.length).length : Int))] _ _
  rw [hbl]
  exact j_iret C E dX6_binCount_7 (by omega) (by omega) ⟨rfl, rfl⟩
set_option maxHeartbeats 4000000 in
set_option maxRecDepth 20000 in
theorem c_capacityOf (l : Launch) (hfl : l.stackTraces = false) (D : va_G) (cy : Nat → Nat) (σ : Wd) (tg ad : Nat → Nat) (bs : List Bn) (ru : Nat → Int × Int) (se : Int) (pf : Nat → Int) (hd : Hd) (ca : Int) (evs : List Evt) (ln : List Int) (hX0 : RX cy σ tg ad bs ru se pf hd ca evs ln) (i : Nat) (hi : i < bs.length) : Ct l yX6_capacityOf cX6_capacityOf 2 (some .int) 5 0 0 D cy [.ref (ad 0), vi ((i : Int))] σ (fun v σ' => v = some (vi ((gB bs i).1)) ∧ σ' = σ) noX := by
  refine ct_start (by decide +kernel) hfl rfl (fun κ e1 e2 e3 C E NH => ?_)
  subst e1 e2 e3
  have C : Cx κ cX6_capacityOf 2 RX6 "capacityOf" 5 := C
  obtain ⟨-, -, -, -, hc, hs⟩ := id E
  show J κ σ [(0, .ref (ad 0)), (1, vi ((i : Int)))] 0 [] 0 0
  have hXX := hX0
  obtain ⟨⟨x1, x2⟩, hB, ⟨bsA, hA, hAe⟩, hEv, hX, hO⟩ := hXX
  obtain ⟨⟨hR, t7, t8, t9⟩, ⟨hPr, t10⟩, ⟨hH, t11, t12⟩, cap0, hSb, t13, t14⟩ := id hX
  have hL1 := hB.1.1
  have hL5 := hEv.1.1
  have hbl := bins_len ad 100 bs.length
  have hel9 := evl_len ad evs.length
  have h6 := hB.2.1
  obtain ⟨⟨hc1, hc2⟩, hc3, hc4⟩ := hO.2.2.2.1
  have hev80 := hO.2.2.1.2
  have hpr := hO.2.2.2.2.1
  have hRo := hR.1
  have hHo := hH.1
  obtain ⟨ml0, g0, hSc, -⟩ := id hSb
  have hSo := hSc.1
  have hTb := totB_in hO.2.1
  obtain ⟨m91, hl91, -⟩ := id hL1
  obtain ⟨m92, hl92, -⟩ := id hL5
  obtain ⟨⟨cap, mf, ly⟩, hg7⟩ : ∃ z, gB bs (i : Int) = z := ⟨_, rfl⟩
  have hb7 := hB.at hi hg7
  have hbk7 := hO.2.1 _ (gB_mem (bs := bs) (i := (i : Int)) (by omega) (by omega))
  rw [hg7] at hbk7
  obtain ⟨hcp7, hly7, htc7⟩ := hbk7
  dsimp only at hcp7 hly7 htc7
  have ht07 := tot_0 hly7
  obtain ⟨old7, ga7, gb7, gc7, gd7, ⟨hh7, -, -⟩, -, hcn7, -, hok7⟩ := id hb7
  dsimp only at hh7 hcn7 hok7
  refine j_aload_n 0 C dX6_capacityOf_0 rfl rfl rfl ?_
  refine j_get C dX6_capacityOf_1 rfl fg_X6_12 x1 rfl ?_
  refine j_iload_n 1 C dX6_capacityOf_4 rfl rfl rfl ?_
  refine j_callS (st' := []) (As := [.ref (ad 1), vi ((i : Int))]) C dX6_capacityOf_5 rfl m_X6_75 rfl rfl (c_biG (kL κ) hfl (kD κ) (kc κ) σ (ad 1) (ad 2) _ hL1 i _ (bins_at hi) _ hh7) rfl (by omega) (by omega) (by omega) (fun _ _ hx => hx.elim) (fun v2 τ1 hp3 => ?_)
  obtain ⟨rfl, hs9⟩ := hp3
  replace hs9 := hs9.symm
  subst hs9
  show J κ σ [(0, .ref (ad 0)), (1, vi ((i : Int)))] 8 [.ref (bq ad 100 i 0)] _ _
  refine j_get C dX6_capacityOf_8 rfl fg_X6_79 hh7 rfl ?_
  exact j_iret C E dX6_capacityOf_11 (by omega) (by omega) ⟨by rw [hg7], rfl⟩
set_option maxHeartbeats 4000000 in
set_option maxRecDepth 20000 in
theorem c_capacityOfB (l : Launch) (hfl : l.stackTraces = false) (D : va_G) (cy : Nat → Nat) (σ : Wd) (tg ad : Nat → Nat) (bs : List Bn) (ru : Nat → Int × Int) (se : Int) (pf : Nat → Int) (hd : Hd) (ca : Int) (evs : List Evt) (ln : List Int) (hX0 : RX cy σ tg ad bs ru se pf hd ca evs ln) (b : Int) (hb9 : (-2147483648 ≤ b ∧ b < 2147483648)) (hbad : b < 0 ∨ (bs.length : Int) ≤ b) : Ct l yX6_capacityOf cX6_capacityOf 2 (some .int) 5 1 6 D cy [.ref (ad 0), vi (b)] σ (fun v σ' => False) (fun E9 σ' => E9 = "java/lang/IndexOutOfBoundsException" ∧ σ' = σ) := by
  refine ct_start (by decide +kernel) hfl rfl (fun κ e1 e2 e3 C E NH => ?_)
  subst e1 e2 e3
  have C : Cx κ cX6_capacityOf 2 RX6 "capacityOf" 5 := C
  obtain ⟨-, -, -, -, hc, hs⟩ := id E
  show J κ σ [(0, .ref (ad 0)), (1, vi (b))] 0 [] 0 0
  have hXX := hX0
  obtain ⟨⟨x1, x2⟩, hB, ⟨bsA, hA, hAe⟩, hEv, hX, hO⟩ := hXX
  obtain ⟨⟨hR, t7, t8, t9⟩, ⟨hPr, t10⟩, ⟨hH, t11, t12⟩, cap0, hSb, t13, t14⟩ := id hX
  have hL1 := hB.1.1
  have hL5 := hEv.1.1
  have hbl := bins_len ad 100 bs.length
  have hel9 := evl_len ad evs.length
  have h6 := hB.2.1
  obtain ⟨⟨hc1, hc2⟩, hc3, hc4⟩ := hO.2.2.2.1
  have hev80 := hO.2.2.1.2
  have hpr := hO.2.2.2.2.1
  have hRo := hR.1
  have hHo := hH.1
  obtain ⟨ml0, g0, hSc, -⟩ := id hSb
  have hSo := hSc.1
  have hTb := totB_in hO.2.1
  obtain ⟨m91, hl91, -⟩ := id hL1
  obtain ⟨m92, hl92, -⟩ := id hL5
  refine j_aload_n 0 C dX6_capacityOf_0 rfl rfl rfl ?_
  refine j_get C dX6_capacityOf_1 rfl fg_X6_12 x1 rfl ?_
  refine j_iload_n 1 C dX6_capacityOf_4 rfl rfl rfl ?_
  refine j_callS (st' := []) (As := [.ref (ad 1), vi (b)]) C dX6_capacityOf_5 rfl m_X6_75 rfl rfl (c_biB (kL κ) hfl (kD κ) (kc κ) σ (ad 1) (ad 2) _ hL1 b hb9 (by rw [hbl]; exact hbad)) rfl (by omega) (by omega) (by omega) (fun E9 σ9 hx => jx_out C E NH (by omega) (by omega) hx) (fun v2 τ1 hp3 => ?_)
  exact hp3.elim
set_option maxHeartbeats 4000000 in
set_option maxRecDepth 20000 in
theorem c_bushelsIn (l : Launch) (hfl : l.stackTraces = false) (D : va_G) (cy : Nat → Nat) (σ : Wd) (tg ad : Nat → Nat) (bs : List Bn) (ru : Nat → Int × Int) (se : Int) (pf : Nat → Int) (hd : Hd) (ca : Int) (evs : List Evt) (ln : List Int) (hX0 : RX cy σ tg ad bs ru se pf hd ca evs ln) (i : Nat) (hi : i < bs.length) : Ct l yX6_bushelsIn cX6_bushelsIn 2 (some .int) 5 0 0 D cy [.ref (ad 0), vi ((i : Int))] σ (fun v σ' => v = some (vi (tot (gB bs i).2.2)) ∧ σ' = σ) noX := by
  refine ct_start (by decide +kernel) hfl rfl (fun κ e1 e2 e3 C E NH => ?_)
  subst e1 e2 e3
  have C : Cx κ cX6_bushelsIn 2 RX6 "bushelsIn" 5 := C
  obtain ⟨-, -, -, -, hc, hs⟩ := id E
  show J κ σ [(0, .ref (ad 0)), (1, vi ((i : Int)))] 0 [] 0 0
  have hXX := hX0
  obtain ⟨⟨x1, x2⟩, hB, ⟨bsA, hA, hAe⟩, hEv, hX, hO⟩ := hXX
  obtain ⟨⟨hR, t7, t8, t9⟩, ⟨hPr, t10⟩, ⟨hH, t11, t12⟩, cap0, hSb, t13, t14⟩ := id hX
  have hL1 := hB.1.1
  have hL5 := hEv.1.1
  have hbl := bins_len ad 100 bs.length
  have hel9 := evl_len ad evs.length
  have h6 := hB.2.1
  obtain ⟨⟨hc1, hc2⟩, hc3, hc4⟩ := hO.2.2.2.1
  have hev80 := hO.2.2.1.2
  have hpr := hO.2.2.2.2.1
  have hRo := hR.1
  have hHo := hH.1
  obtain ⟨ml0, g0, hSc, -⟩ := id hSb
  have hSo := hSc.1
  have hTb := totB_in hO.2.1
  obtain ⟨m91, hl91, -⟩ := id hL1
  obtain ⟨m92, hl92, -⟩ := id hL5
  obtain ⟨⟨cap, mf, ly⟩, hg7⟩ : ∃ z, gB bs (i : Int) = z := ⟨_, rfl⟩
  have hb7 := hB.at hi hg7
  have hbk7 := hO.2.1 _ (gB_mem (bs := bs) (i := (i : Int)) (by omega) (by omega))
  rw [hg7] at hbk7
  obtain ⟨hcp7, hly7, htc7⟩ := hbk7
  dsimp only at hcp7 hly7 htc7
  have ht07 := tot_0 hly7
  obtain ⟨old7, ga7, gb7, gc7, gd7, ⟨hh7, -, -⟩, -, hcn7, -, hok7⟩ := id hb7
  dsimp only at hh7 hcn7 hok7
  refine j_aload_n 0 C dX6_bushelsIn_0 rfl rfl rfl ?_
  refine j_get C dX6_bushelsIn_1 rfl fg_X6_12 x1 rfl ?_
  refine j_iload_n 1 C dX6_bushelsIn_4 rfl rfl rfl ?_
  refine j_callS (st' := []) (As := [.ref (ad 1), vi ((i : Int))]) C dX6_bushelsIn_5 rfl m_X6_75 rfl rfl (c_biG (kL κ) hfl (kD κ) (kc κ) σ (ad 1) (ad 2) _ hL1 i _ (bins_at hi) _ hh7) rfl (by omega) (by omega) (by omega) (fun _ _ hx => hx.elim) (fun v2 τ1 hp3 => ?_)
  obtain ⟨rfl, hs9⟩ := hp3
  replace hs9 := hs9.symm
  subst hs9
  show J κ σ [(0, .ref (ad 0)), (1, vi ((i : Int)))] 8 [.ref (bq ad 100 i 0)] _ _
  refine j_get C dX6_bushelsIn_8 rfl fg_X6_153 hh7 rfl ?_
  exact j_iret C E dX6_bushelsIn_11 (by omega) (by omega) ⟨by rw [hg7], rfl⟩
set_option maxHeartbeats 4000000 in
set_option maxRecDepth 20000 in
theorem c_bushelsInB (l : Launch) (hfl : l.stackTraces = false) (D : va_G) (cy : Nat → Nat) (σ : Wd) (tg ad : Nat → Nat) (bs : List Bn) (ru : Nat → Int × Int) (se : Int) (pf : Nat → Int) (hd : Hd) (ca : Int) (evs : List Evt) (ln : List Int) (hX0 : RX cy σ tg ad bs ru se pf hd ca evs ln) (b : Int) (hb9 : (-2147483648 ≤ b ∧ b < 2147483648)) (hbad : b < 0 ∨ (bs.length : Int) ≤ b) : Ct l yX6_bushelsIn cX6_bushelsIn 2 (some .int) 5 1 6 D cy [.ref (ad 0), vi (b)] σ (fun v σ' => False) (fun E9 σ' => E9 = "java/lang/IndexOutOfBoundsException" ∧ σ' = σ) := by
  refine ct_start (by decide +kernel) hfl rfl (fun κ e1 e2 e3 C E NH => ?_)
  subst e1 e2 e3
  have C : Cx κ cX6_bushelsIn 2 RX6 "bushelsIn" 5 := C
  obtain ⟨-, -, -, -, hc, hs⟩ := id E
  show J κ σ [(0, .ref (ad 0)), (1, vi (b))] 0 [] 0 0
  have hXX := hX0
  obtain ⟨⟨x1, x2⟩, hB, ⟨bsA, hA, hAe⟩, hEv, hX, hO⟩ := hXX
  obtain ⟨⟨hR, t7, t8, t9⟩, ⟨hPr, t10⟩, ⟨hH, t11, t12⟩, cap0, hSb, t13, t14⟩ := id hX
  have hL1 := hB.1.1
  have hL5 := hEv.1.1
  have hbl := bins_len ad 100 bs.length
  have hel9 := evl_len ad evs.length
  have h6 := hB.2.1
  obtain ⟨⟨hc1, hc2⟩, hc3, hc4⟩ := hO.2.2.2.1
  have hev80 := hO.2.2.1.2
  have hpr := hO.2.2.2.2.1
  have hRo := hR.1
  have hHo := hH.1
  obtain ⟨ml0, g0, hSc, -⟩ := id hSb
  have hSo := hSc.1
  have hTb := totB_in hO.2.1
  obtain ⟨m91, hl91, -⟩ := id hL1
  obtain ⟨m92, hl92, -⟩ := id hL5
  refine j_aload_n 0 C dX6_bushelsIn_0 rfl rfl rfl ?_
  refine j_get C dX6_bushelsIn_1 rfl fg_X6_12 x1 rfl ?_
  refine j_iload_n 1 C dX6_bushelsIn_4 rfl rfl rfl ?_
  refine j_callS (st' := []) (As := [.ref (ad 1), vi (b)]) C dX6_bushelsIn_5 rfl m_X6_75 rfl rfl (c_biB (kL κ) hfl (kD κ) (kc κ) σ (ad 1) (ad 2) _ hL1 b hb9 (by rw [hbl]; exact hbad)) rfl (by omega) (by omega) (by omega) (fun E9 σ9 hx => jx_out C E NH (by omega) (by omega) hx) (fun v2 τ1 hp3 => ?_)
  exact hp3.elim
set_option maxHeartbeats 4000000 in
set_option maxRecDepth 20000 in
theorem c_layersIn (l : Launch) (hfl : l.stackTraces = false) (D : va_G) (cy : Nat → Nat) (σ : Wd) (tg ad : Nat → Nat) (bs : List Bn) (ru : Nat → Int × Int) (se : Int) (pf : Nat → Int) (hd : Hd) (ca : Int) (evs : List Evt) (ln : List Int) (hX0 : RX cy σ tg ad bs ru se pf hd ca evs ln) (i : Nat) (hi : i < bs.length) : Ct l yX6_layersIn cX6_layersIn 2 (some .int) 5 0 0 D cy [.ref (ad 0), vi ((i : Int))] σ (fun v σ' => v = some (vi (((gB bs i).2.2.length : Int))) ∧ σ' = σ) noX := by
  refine ct_start (by decide +kernel) hfl rfl (fun κ e1 e2 e3 C E NH => ?_)
  subst e1 e2 e3
  have C : Cx κ cX6_layersIn 2 RX6 "layersIn" 5 := C
  obtain ⟨-, -, -, -, hc, hs⟩ := id E
  show J κ σ [(0, .ref (ad 0)), (1, vi ((i : Int)))] 0 [] 0 0
  have hXX := hX0
  obtain ⟨⟨x1, x2⟩, hB, ⟨bsA, hA, hAe⟩, hEv, hX, hO⟩ := hXX
  obtain ⟨⟨hR, t7, t8, t9⟩, ⟨hPr, t10⟩, ⟨hH, t11, t12⟩, cap0, hSb, t13, t14⟩ := id hX
  have hL1 := hB.1.1
  have hL5 := hEv.1.1
  have hbl := bins_len ad 100 bs.length
  have hel9 := evl_len ad evs.length
  have h6 := hB.2.1
  obtain ⟨⟨hc1, hc2⟩, hc3, hc4⟩ := hO.2.2.2.1
  have hev80 := hO.2.2.1.2
  have hpr := hO.2.2.2.2.1
  have hRo := hR.1
  have hHo := hH.1
  obtain ⟨ml0, g0, hSc, -⟩ := id hSb
  have hSo := hSc.1
  have hTb := totB_in hO.2.1
  obtain ⟨m91, hl91, -⟩ := id hL1
  obtain ⟨m92, hl92, -⟩ := id hL5
  obtain ⟨⟨cap, mf, ly⟩, hg7⟩ : ∃ z, gB bs (i : Int) = z := ⟨_, rfl⟩
  have hb7 := hB.at hi hg7
  have hbk7 := hO.2.1 _ (gB_mem (bs := bs) (i := (i : Int)) (by omega) (by omega))
  rw [hg7] at hbk7
  obtain ⟨hcp7, hly7, htc7⟩ := hbk7
  dsimp only at hcp7 hly7 htc7
  have ht07 := tot_0 hly7
  obtain ⟨old7, ga7, gb7, gc7, gd7, ⟨hh7, -, -⟩, -, hcn7, -, hok7⟩ := id hb7
  dsimp only at hh7 hcn7 hok7
  refine j_aload_n 0 C dX6_layersIn_0 rfl rfl rfl ?_
  refine j_get C dX6_layersIn_1 rfl fg_X6_12 x1 rfl ?_
  refine j_iload_n 1 C dX6_layersIn_4 rfl rfl rfl ?_
  refine j_callS (st' := []) (As := [.ref (ad 1), vi ((i : Int))]) C dX6_layersIn_5 rfl m_X6_75 rfl rfl (c_biG (kL κ) hfl (kD κ) (kc κ) σ (ad 1) (ad 2) _ hL1 i _ (bins_at hi) _ hh7) rfl (by omega) (by omega) (by omega) (fun _ _ hx => hx.elim) (fun v2 τ1 hp3 => ?_)
  obtain ⟨rfl, hs9⟩ := hp3
  replace hs9 := hs9.symm
  subst hs9
  show J κ σ [(0, .ref (ad 0)), (1, vi ((i : Int)))] 8 [.ref (bq ad 100 i 0)] _ _
  refine j_get C dX6_layersIn_8 rfl fg_X6_137 hh7 rfl ?_
  exact j_iret C E dX6_layersIn_11 (by omega) (by omega) ⟨by rw [hg7], rfl⟩
set_option maxHeartbeats 4000000 in
set_option maxRecDepth 20000 in
theorem c_layersInB (l : Launch) (hfl : l.stackTraces = false) (D : va_G) (cy : Nat → Nat) (σ : Wd) (tg ad : Nat → Nat) (bs : List Bn) (ru : Nat → Int × Int) (se : Int) (pf : Nat → Int) (hd : Hd) (ca : Int) (evs : List Evt) (ln : List Int) (hX0 : RX cy σ tg ad bs ru se pf hd ca evs ln) (b : Int) (hb9 : (-2147483648 ≤ b ∧ b < 2147483648)) (hbad : b < 0 ∨ (bs.length : Int) ≤ b) : Ct l yX6_layersIn cX6_layersIn 2 (some .int) 5 1 6 D cy [.ref (ad 0), vi (b)] σ (fun v σ' => False) (fun E9 σ' => E9 = "java/lang/IndexOutOfBoundsException" ∧ σ' = σ) := by
  refine ct_start (by decide +kernel) hfl rfl (fun κ e1 e2 e3 C E NH => ?_)
  subst e1 e2 e3
  have C : Cx κ cX6_layersIn 2 RX6 "layersIn" 5 := C
  obtain ⟨-, -, -, -, hc, hs⟩ := id E
  show J κ σ [(0, .ref (ad 0)), (1, vi (b))] 0 [] 0 0
  have hXX := hX0
  obtain ⟨⟨x1, x2⟩, hB, ⟨bsA, hA, hAe⟩, hEv, hX, hO⟩ := hXX
  obtain ⟨⟨hR, t7, t8, t9⟩, ⟨hPr, t10⟩, ⟨hH, t11, t12⟩, cap0, hSb, t13, t14⟩ := id hX
  have hL1 := hB.1.1
  have hL5 := hEv.1.1
  have hbl := bins_len ad 100 bs.length
  have hel9 := evl_len ad evs.length
  have h6 := hB.2.1
  obtain ⟨⟨hc1, hc2⟩, hc3, hc4⟩ := hO.2.2.2.1
  have hev80 := hO.2.2.1.2
  have hpr := hO.2.2.2.2.1
  have hRo := hR.1
  have hHo := hH.1
  obtain ⟨ml0, g0, hSc, -⟩ := id hSb
  have hSo := hSc.1
  have hTb := totB_in hO.2.1
  obtain ⟨m91, hl91, -⟩ := id hL1
  obtain ⟨m92, hl92, -⟩ := id hL5
  refine j_aload_n 0 C dX6_layersIn_0 rfl rfl rfl ?_
  refine j_get C dX6_layersIn_1 rfl fg_X6_12 x1 rfl ?_
  refine j_iload_n 1 C dX6_layersIn_4 rfl rfl rfl ?_
  refine j_callS (st' := []) (As := [.ref (ad 1), vi (b)]) C dX6_layersIn_5 rfl m_X6_75 rfl rfl (c_biB (kL κ) hfl (kD κ) (kc κ) σ (ad 1) (ad 2) _ hL1 b hb9 (by rw [hbl]; exact hbad)) rfl (by omega) (by omega) (by omega) (fun E9 σ9 hx => jx_out C E NH (by omega) (by omega) hx) (fun v2 τ1 hp3 => ?_)
  exact hp3.elim
set_option maxHeartbeats 4000000 in
set_option maxRecDepth 20000 in
theorem c_blG (l : Launch) (hfl : l.stackTraces = false) (D : va_G) (cy : Nat → Nat) (σ : Wd) (ad : Nat → Nat) (kb la d : Nat) (xs : List Nat) (hL : LstR cy σ la d xs) (i : Nat) (hxi : xs[i]? = some (bq ad kb i 0)) (cap : Int) (mf : Bool) (ly : List Ly) (hb : BinR cy σ (bq ad kb i 0) (bq ad kb i 1) (bq ad kb i 2) (bq ad kb i 3) (bq ad kb i 4) (cap, mf, ly)) (q : Int) (hq : 0 ≤ q ∧ q < (ly.length : Int)) : Ct l yX6_binWithLayer cX6_binWithLayer 4 (some (.object "GrainElevator$Bin")) 4 0 0 D cy [.ref la, vi ((i : Int)), vi (q)] σ (fun v σ' => v = some (.ref (bq ad kb i 0)) ∧ σ' = σ) noX := by
  refine ct_start (by decide +kernel) hfl rfl (fun κ e1 e2 e3 C E NH => ?_)
  subst e1 e2 e3
  have C : Cx κ cX6_binWithLayer 4 RX6 "binWithLayer" 4 := C
  obtain ⟨-, -, -, -, hc, hs⟩ := id E
  show J κ σ [(0, .ref la), (1, vi ((i : Int))), (2, vi (q))] 0 [] 0 0
  obtain ⟨old7, ga7, gb7, gc7, gd7, ⟨hh7, -, -⟩, -, hcn7, -⟩ := id hb
  dsimp only at hh7 hcn7
  refine j_aload_n 0 C dX6_binWithLayer_0 rfl rfl rfl ?_
  refine j_iload_n 1 C dX6_binWithLayer_1 rfl rfl rfl ?_
  refine j_callS (st' := []) (As := [.ref la, vi ((i : Int))]) C dX6_binWithLayer_2 rfl m_X6_75 rfl rfl (c_biG (kL κ) hfl (kD κ) (kc κ) σ la d xs hL i _ hxi _ hh7) rfl (by omega) (by omega) (by omega) (fun _ _ hx => hx.elim) (fun v2 τ1 hp3 => ?_)
  obtain ⟨rfl, hs9⟩ := hp3
  replace hs9 := hs9.symm
  subst hs9
  show J κ σ [(0, .ref la), (1, vi ((i : Int))), (2, vi (q))] 5 [.ref (bq ad kb i 0)] _ _
  refine j_astore_n (lv' := [(0, .ref la), (1, vi ((i : Int))), (2, vi (q)), (3, .ref (bq ad kb i 0))]) [1, 2, 3, 0] C dX6_binWithLayer_5 rfl rfl rfl rfl ?_
  refine j_iload_n 2 C dX6_binWithLayer_6 rfl rfl rfl ?_
  refine j_if_lt (tgt := 18) C dX6_binWithLayer_7 rfl rfl ⟨by omega, by omega⟩ (fun cc4 => ?_) (fun cc4 => ?_)
  · exact absurd cc4 (by omega)
  · refine j_iload_n 2 C dX6_binWithLayer_10 rfl rfl rfl ?_
    refine j_aload_n 3 C dX6_binWithLayer_11 rfl rfl rfl ?_
    refine j_get C dX6_binWithLayer_12 rfl fg_X6_137 hh7 rfl ?_
    refine j_icmp_lt (tgt := 29) C dX6_binWithLayer_15 rfl rfl ⟨by omega, by omega⟩ ⟨by omega, by omega⟩ (fun cc5 => ?_) (fun cc5 => ?_)
    · refine j_aload_n 3 C dX6_binWithLayer_29 rfl rfl rfl ?_
      exact j_aret C E dX6_binWithLayer_30 (Or.inl ⟨_, rfl⟩) (by omega) (by omega) ⟨rfl, rfl⟩
    · exact absurd cc5 (by omega)
set_option maxHeartbeats 4000000 in
set_option maxRecDepth 20000 in
theorem c_blB (l : Launch) (hfl : l.stackTraces = false) (D : va_G) (cy : Nat → Nat) (σ : Wd) (ad : Nat → Nat) (kb la d : Nat) (xs : List Nat) (hL : LstR cy σ la d xs) (i : Nat) (hxi : xs[i]? = some (bq ad kb i 0)) (cap : Int) (mf : Bool) (ly : List Ly) (hb : BinR cy σ (bq ad kb i 0) (bq ad kb i 1) (bq ad kb i 2) (bq ad kb i 3) (bq ad kb i 4) (cap, mf, ly)) (q : Int) (hq9 : (-2147483648 ≤ q ∧ q < 2147483648)) (hq : q < 0 ∨ (ly.length : Int) ≤ q) : Ct l yX6_binWithLayer cX6_binWithLayer 4 (some (.object "GrainElevator$Bin")) 4 1 6 D cy [.ref la, vi ((i : Int)), vi (q)] σ (fun v σ' => False) (fun E9 σ' => E9 = "java/lang/IndexOutOfBoundsException" ∧ σ' = σ) := by
  refine ct_start (by decide +kernel) hfl rfl (fun κ e1 e2 e3 C E NH => ?_)
  subst e1 e2 e3
  have C : Cx κ cX6_binWithLayer 4 RX6 "binWithLayer" 4 := C
  obtain ⟨-, -, -, -, hc, hs⟩ := id E
  show J κ σ [(0, .ref la), (1, vi ((i : Int))), (2, vi (q))] 0 [] 0 0
  obtain ⟨old7, ga7, gb7, gc7, gd7, ⟨hh7, -, -⟩, -, hcn7, -⟩ := id hb
  dsimp only at hh7 hcn7
  refine j_aload_n 0 C dX6_binWithLayer_0 rfl rfl rfl ?_
  refine j_iload_n 1 C dX6_binWithLayer_1 rfl rfl rfl ?_
  refine j_callS (st' := []) (As := [.ref la, vi ((i : Int))]) C dX6_binWithLayer_2 rfl m_X6_75 rfl rfl (c_biG (kL κ) hfl (kD κ) (kc κ) σ la d xs hL i _ hxi _ hh7) rfl (by omega) (by omega) (by omega) (fun _ _ hx => hx.elim) (fun v2 τ1 hp3 => ?_)
  obtain ⟨rfl, hs9⟩ := hp3
  replace hs9 := hs9.symm
  subst hs9
  show J κ σ [(0, .ref la), (1, vi ((i : Int))), (2, vi (q))] 5 [.ref (bq ad kb i 0)] _ _
  refine j_astore_n (lv' := [(0, .ref la), (1, vi ((i : Int))), (2, vi (q)), (3, .ref (bq ad kb i 0))]) [1, 2, 3, 0] C dX6_binWithLayer_5 rfl rfl rfl rfl ?_
  refine j_iload_n 2 C dX6_binWithLayer_6 rfl rfl rfl ?_
  refine j_if_lt (tgt := 18) C dX6_binWithLayer_7 rfl rfl ⟨by omega, by omega⟩ (fun cc4 => ?_) (fun cc4 => ?_)
  · exact j_throwW C E NH tx_X6_237_241 (is := 298) (text := "there is no such layer") (by decide) dX6_binWithLayer_18 dX6_binWithLayer_21 dX6_binWithLayer_22 dX6_binWithLayer_25 dX6_binWithLayer_28 rfl (by omega) (by omega) ⟨rfl, rfl⟩
  · refine j_iload_n 2 C dX6_binWithLayer_10 rfl rfl rfl ?_
    refine j_aload_n 3 C dX6_binWithLayer_11 rfl rfl rfl ?_
    refine j_get C dX6_binWithLayer_12 rfl fg_X6_137 hh7 rfl ?_
    refine j_icmp_lt (tgt := 29) C dX6_binWithLayer_15 rfl rfl ⟨by omega, by omega⟩ ⟨by omega, by omega⟩ (fun cc5 => ?_) (fun cc5 => ?_)
    · exact absurd cc5 (by omega)
    · exact j_throwW C E NH tx_X6_237_241 (is := 298) (text := "there is no such layer") (by decide) dX6_binWithLayer_18 dX6_binWithLayer_21 dX6_binWithLayer_22 dX6_binWithLayer_25 dX6_binWithLayer_28 rfl (by omega) (by omega) ⟨rfl, rfl⟩
set_option maxHeartbeats 4000000 in
set_option maxRecDepth 20000 in
theorem c_blB0 (l : Launch) (hfl : l.stackTraces = false) (D : va_G) (cy : Nat → Nat) (σ : Wd) (la d : Nat) (xs : List Nat) (hL : LstR cy σ la d xs) (b q : Int) (hb9 : (-2147483648 ≤ b ∧ b < 2147483648)) (hbad : b < 0 ∨ (xs.length : Int) ≤ b) : Ct l yX6_binWithLayer cX6_binWithLayer 4 (some (.object "GrainElevator$Bin")) 4 1 6 D cy [.ref la, vi (b), vi (q)] σ (fun v σ' => False) (fun E9 σ' => E9 = "java/lang/IndexOutOfBoundsException" ∧ σ' = σ) := by
  refine ct_start (by decide +kernel) hfl rfl (fun κ e1 e2 e3 C E NH => ?_)
  subst e1 e2 e3
  have C : Cx κ cX6_binWithLayer 4 RX6 "binWithLayer" 4 := C
  obtain ⟨-, -, -, -, hc, hs⟩ := id E
  show J κ σ [(0, .ref la), (1, vi (b)), (2, vi (q))] 0 [] 0 0
  refine j_aload_n 0 C dX6_binWithLayer_0 rfl rfl rfl ?_
  refine j_iload_n 1 C dX6_binWithLayer_1 rfl rfl rfl ?_
  refine j_callS (st' := []) (As := [.ref la, vi (b)]) C dX6_binWithLayer_2 rfl m_X6_75 rfl rfl (c_biB (kL κ) hfl (kD κ) (kc κ) σ la d xs hL b hb9 hbad) rfl (by omega) (by omega) (by omega) (fun E9 σ9 hx => jx_out C E NH (by omega) (by omega) hx) (fun v2 τ1 hp3 => ?_)
  exact hp3.elim
set_option maxHeartbeats 4000000 in
set_option maxRecDepth 20000 in
theorem c_layerBushels (l : Launch) (hfl : l.stackTraces = false) (D : va_G) (cy : Nat → Nat) (σ : Wd) (tg ad : Nat → Nat) (bs : List Bn) (ru : Nat → Int × Int) (se : Int) (pf : Nat → Int) (hd : Hd) (ca : Int) (evs : List Evt) (ln : List Int) (hX0 : RX cy σ tg ad bs ru se pf hd ca evs ln) (i : Nat) (hi : i < bs.length) (q : Int) (hq : 0 ≤ q ∧ q < ((gB bs i).2.2.length : Int)) : Ct l yX6_layerBushels cX6_layerBushels 3 (some .int) 5 0 0 D cy [.ref (ad 0), vi ((i : Int)), vi (q)] σ (fun v σ' => v = some (vi (lyAt (fl (gB bs i)) q).1) ∧ σ' = σ) noX := by
  refine ct_start (by decide +kernel) hfl rfl (fun κ e1 e2 e3 C E NH => ?_)
  subst e1 e2 e3
  have C : Cx κ cX6_layerBushels 3 RX6 "layerBushels" 5 := C
  obtain ⟨-, -, -, -, hc, hs⟩ := id E
  show J κ σ [(0, .ref (ad 0)), (1, vi ((i : Int))), (2, vi (q))] 0 [] 0 0
  have hXX := hX0
  obtain ⟨⟨x1, x2⟩, hB, ⟨bsA, hA, hAe⟩, hEv, hX, hO⟩ := hXX
  obtain ⟨⟨hR, t7, t8, t9⟩, ⟨hPr, t10⟩, ⟨hH, t11, t12⟩, cap0, hSb, t13, t14⟩ := id hX
  have hL1 := hB.1.1
  have hL5 := hEv.1.1
  have hbl := bins_len ad 100 bs.length
  have hel9 := evl_len ad evs.length
  have h6 := hB.2.1
  obtain ⟨⟨hc1, hc2⟩, hc3, hc4⟩ := hO.2.2.2.1
  have hev80 := hO.2.2.1.2
  have hpr := hO.2.2.2.2.1
  have hRo := hR.1
  have hHo := hH.1
  obtain ⟨ml0, g0, hSc, -⟩ := id hSb
  have hSo := hSc.1
  have hTb := totB_in hO.2.1
  obtain ⟨m91, hl91, -⟩ := id hL1
  obtain ⟨m92, hl92, -⟩ := id hL5
  obtain ⟨⟨cap, mf, ly⟩, hg7⟩ : ∃ z, gB bs (i : Int) = z := ⟨_, rfl⟩
  have hb7 := hB.at hi hg7
  have hbk7 := hO.2.1 _ (gB_mem (bs := bs) (i := (i : Int)) (by omega) (by omega))
  rw [hg7] at hbk7
  obtain ⟨hcp7, hly7, htc7⟩ := hbk7
  dsimp only at hcp7 hly7 htc7
  have ht07 := tot_0 hly7
  obtain ⟨old7, ga7, gb7, gc7, gd7, ⟨hh7, -, -⟩, -, hcn7, -, hok7⟩ := id hb7
  dsimp only at hh7 hcn7 hok7
  rw [hg7] at hq
  refine j_aload_n 0 C dX6_layerBushels_0 rfl rfl rfl ?_
  refine j_get C dX6_layerBushels_1 rfl fg_X6_12 x1 rfl ?_
  refine j_iload_n 1 C dX6_layerBushels_4 rfl rfl rfl ?_
  refine j_iload_n 2 C dX6_layerBushels_5 rfl rfl rfl ?_
  refine j_callS (st' := []) (As := [.ref (ad 1), vi ((i : Int)), vi (q)]) C dX6_layerBushels_6 rfl m_X6_162 rfl rfl (c_blG (kL κ) hfl (kD κ) (kc κ) σ ad 100 (ad 1) (ad 2) _ hL1 i (bins_at hi) cap mf ly hb7 q hq) rfl (by omega) (by omega) (by omega) (fun _ _ hx => hx.elim) (fun v2 τ1 hp3 => ?_)
  obtain ⟨rfl, hs9⟩ := hp3
  replace hs9 := hs9.symm
  subst hs9
  show J κ σ [(0, .ref (ad 0)), (1, vi ((i : Int))), (2, vi (q))] 9 [.ref (bq ad 100 i 0)] _ _
  refine j_iload_n 2 C dX6_layerBushels_9 rfl rfl rfl ?_
  refine j_callV (st' := []) (As := [vi (q)]) C dX6_layerBushels_10 rfl m_X6_166 hh7 rfl rfl rfl (c_bushelsAt (kL κ) hfl (kD κ) (kc κ) σ (bq ad 100 i 0) (bq ad 100 i 1) (bq ad 100 i 2) (bq ad 100 i 3) (bq ad 100 i 4) cap mf ly hb7 q hq) rfl (by omega) (by omega) (by omega) (fun _ _ hx => hx.elim) (fun v5 τ4 hp6 => ?_)
  obtain ⟨rfl, hs9⟩ := hp6
  replace hs9 := hs9.symm
  subst hs9
  show J κ σ [(0, .ref (ad 0)), (1, vi ((i : Int))), (2, vi (q))] 13 [vi ((lyAt (fl (cap, mf, ly)) q).1)] _ _
  exact j_iret C E dX6_layerBushels_13 (by omega) (by omega) ⟨by rw [hg7], rfl⟩
set_option maxHeartbeats 4000000 in
set_option maxRecDepth 20000 in
theorem c_layerBushelsB (l : Launch) (hfl : l.stackTraces = false) (D : va_G) (cy : Nat → Nat) (σ : Wd) (tg ad : Nat → Nat) (bs : List Bn) (ru : Nat → Int × Int) (se : Int) (pf : Nat → Int) (hd : Hd) (ca : Int) (evs : List Evt) (ln : List Int) (hX0 : RX cy σ tg ad bs ru se pf hd ca evs ln) (i : Nat) (hi : i < bs.length) (q : Int) (hq9 : (-2147483648 ≤ q ∧ q < 2147483648)) (hq : q < 0 ∨ ((gB bs i).2.2.length : Int) ≤ q) : Ct l yX6_layerBushels cX6_layerBushels 3 (some .int) 5 1 6 D cy [.ref (ad 0), vi ((i : Int)), vi (q)] σ (fun v σ' => False) (fun E9 σ' => E9 = "java/lang/IndexOutOfBoundsException" ∧ σ' = σ) := by
  refine ct_start (by decide +kernel) hfl rfl (fun κ e1 e2 e3 C E NH => ?_)
  subst e1 e2 e3
  have C : Cx κ cX6_layerBushels 3 RX6 "layerBushels" 5 := C
  obtain ⟨-, -, -, -, hc, hs⟩ := id E
  show J κ σ [(0, .ref (ad 0)), (1, vi ((i : Int))), (2, vi (q))] 0 [] 0 0
  have hXX := hX0
  obtain ⟨⟨x1, x2⟩, hB, ⟨bsA, hA, hAe⟩, hEv, hX, hO⟩ := hXX
  obtain ⟨⟨hR, t7, t8, t9⟩, ⟨hPr, t10⟩, ⟨hH, t11, t12⟩, cap0, hSb, t13, t14⟩ := id hX
  have hL1 := hB.1.1
  have hL5 := hEv.1.1
  have hbl := bins_len ad 100 bs.length
  have hel9 := evl_len ad evs.length
  have h6 := hB.2.1
  obtain ⟨⟨hc1, hc2⟩, hc3, hc4⟩ := hO.2.2.2.1
  have hev80 := hO.2.2.1.2
  have hpr := hO.2.2.2.2.1
  have hRo := hR.1
  have hHo := hH.1
  obtain ⟨ml0, g0, hSc, -⟩ := id hSb
  have hSo := hSc.1
  have hTb := totB_in hO.2.1
  obtain ⟨m91, hl91, -⟩ := id hL1
  obtain ⟨m92, hl92, -⟩ := id hL5
  obtain ⟨⟨cap, mf, ly⟩, hg7⟩ : ∃ z, gB bs (i : Int) = z := ⟨_, rfl⟩
  have hb7 := hB.at hi hg7
  have hbk7 := hO.2.1 _ (gB_mem (bs := bs) (i := (i : Int)) (by omega) (by omega))
  rw [hg7] at hbk7
  obtain ⟨hcp7, hly7, htc7⟩ := hbk7
  dsimp only at hcp7 hly7 htc7
  have ht07 := tot_0 hly7
  obtain ⟨old7, ga7, gb7, gc7, gd7, ⟨hh7, -, -⟩, -, hcn7, -, hok7⟩ := id hb7
  dsimp only at hh7 hcn7 hok7
  rw [hg7] at hq
  refine j_aload_n 0 C dX6_layerBushels_0 rfl rfl rfl ?_
  refine j_get C dX6_layerBushels_1 rfl fg_X6_12 x1 rfl ?_
  refine j_iload_n 1 C dX6_layerBushels_4 rfl rfl rfl ?_
  refine j_iload_n 2 C dX6_layerBushels_5 rfl rfl rfl ?_
  refine j_callS (st' := []) (As := [.ref (ad 1), vi ((i : Int)), vi (q)]) C dX6_layerBushels_6 rfl m_X6_162 rfl rfl (c_blB (kL κ) hfl (kD κ) (kc κ) σ ad 100 (ad 1) (ad 2) _ hL1 i (bins_at hi) cap mf ly hb7 q hq9 hq) rfl (by omega) (by omega) (by omega) (fun E9 σ9 hx => jx_out C E NH (by omega) (by omega) hx) (fun v2 τ1 hp3 => ?_)
  exact hp3.elim
set_option maxHeartbeats 4000000 in
set_option maxRecDepth 20000 in
theorem c_layerBushelsB0 (l : Launch) (hfl : l.stackTraces = false) (D : va_G) (cy : Nat → Nat) (σ : Wd) (tg ad : Nat → Nat) (bs : List Bn) (ru : Nat → Int × Int) (se : Int) (pf : Nat → Int) (hd : Hd) (ca : Int) (evs : List Evt) (ln : List Int) (hX0 : RX cy σ tg ad bs ru se pf hd ca evs ln) (b : Int) (hb9 : (-2147483648 ≤ b ∧ b < 2147483648)) (hbad : b < 0 ∨ (bs.length : Int) ≤ b) (q : Int) : Ct l yX6_layerBushels cX6_layerBushels 3 (some .int) 5 1 6 D cy [.ref (ad 0), vi (b), vi (q)] σ (fun v σ' => False) (fun E9 σ' => E9 = "java/lang/IndexOutOfBoundsException" ∧ σ' = σ) := by
  refine ct_start (by decide +kernel) hfl rfl (fun κ e1 e2 e3 C E NH => ?_)
  subst e1 e2 e3
  have C : Cx κ cX6_layerBushels 3 RX6 "layerBushels" 5 := C
  obtain ⟨-, -, -, -, hc, hs⟩ := id E
  show J κ σ [(0, .ref (ad 0)), (1, vi (b)), (2, vi (q))] 0 [] 0 0
  have hXX := hX0
  obtain ⟨⟨x1, x2⟩, hB, ⟨bsA, hA, hAe⟩, hEv, hX, hO⟩ := hXX
  obtain ⟨⟨hR, t7, t8, t9⟩, ⟨hPr, t10⟩, ⟨hH, t11, t12⟩, cap0, hSb, t13, t14⟩ := id hX
  have hL1 := hB.1.1
  have hL5 := hEv.1.1
  have hbl := bins_len ad 100 bs.length
  have hel9 := evl_len ad evs.length
  have h6 := hB.2.1
  obtain ⟨⟨hc1, hc2⟩, hc3, hc4⟩ := hO.2.2.2.1
  have hev80 := hO.2.2.1.2
  have hpr := hO.2.2.2.2.1
  have hRo := hR.1
  have hHo := hH.1
  obtain ⟨ml0, g0, hSc, -⟩ := id hSb
  have hSo := hSc.1
  have hTb := totB_in hO.2.1
  obtain ⟨m91, hl91, -⟩ := id hL1
  obtain ⟨m92, hl92, -⟩ := id hL5
  refine j_aload_n 0 C dX6_layerBushels_0 rfl rfl rfl ?_
  refine j_get C dX6_layerBushels_1 rfl fg_X6_12 x1 rfl ?_
  refine j_iload_n 1 C dX6_layerBushels_4 rfl rfl rfl ?_
  refine j_iload_n 2 C dX6_layerBushels_5 rfl rfl rfl ?_
  refine j_callS (st' := []) (As := [.ref (ad 1), vi (b), vi (q)]) C dX6_layerBushels_6 rfl m_X6_162 rfl rfl (c_blB0 (kL κ) hfl (kD κ) (kc κ) σ (ad 1) (ad 2) _ hL1 b q hb9 (by rw [hbl]; exact hbad)) rfl (by omega) (by omega) (by omega) (fun E9 σ9 hx => jx_out C E NH (by omega) (by omega) hx) (fun v2 τ1 hp3 => ?_)
  exact hp3.elim
set_option maxHeartbeats 4000000 in
set_option maxRecDepth 20000 in
theorem c_layerMoisture (l : Launch) (hfl : l.stackTraces = false) (D : va_G) (cy : Nat → Nat) (σ : Wd) (tg ad : Nat → Nat) (bs : List Bn) (ru : Nat → Int × Int) (se : Int) (pf : Nat → Int) (hd : Hd) (ca : Int) (evs : List Evt) (ln : List Int) (hX0 : RX cy σ tg ad bs ru se pf hd ca evs ln) (i : Nat) (hi : i < bs.length) (q : Int) (hq : 0 ≤ q ∧ q < ((gB bs i).2.2.length : Int)) : Ct l yX6_layerMoisture cX6_layerMoisture 3 (some .int) 5 0 0 D cy [.ref (ad 0), vi ((i : Int)), vi (q)] σ (fun v σ' => v = some (vi (lyAt (fl (gB bs i)) q).2.1) ∧ σ' = σ) noX := by
  refine ct_start (by decide +kernel) hfl rfl (fun κ e1 e2 e3 C E NH => ?_)
  subst e1 e2 e3
  have C : Cx κ cX6_layerMoisture 3 RX6 "layerMoisture" 5 := C
  obtain ⟨-, -, -, -, hc, hs⟩ := id E
  show J κ σ [(0, .ref (ad 0)), (1, vi ((i : Int))), (2, vi (q))] 0 [] 0 0
  have hXX := hX0
  obtain ⟨⟨x1, x2⟩, hB, ⟨bsA, hA, hAe⟩, hEv, hX, hO⟩ := hXX
  obtain ⟨⟨hR, t7, t8, t9⟩, ⟨hPr, t10⟩, ⟨hH, t11, t12⟩, cap0, hSb, t13, t14⟩ := id hX
  have hL1 := hB.1.1
  have hL5 := hEv.1.1
  have hbl := bins_len ad 100 bs.length
  have hel9 := evl_len ad evs.length
  have h6 := hB.2.1
  obtain ⟨⟨hc1, hc2⟩, hc3, hc4⟩ := hO.2.2.2.1
  have hev80 := hO.2.2.1.2
  have hpr := hO.2.2.2.2.1
  have hRo := hR.1
  have hHo := hH.1
  obtain ⟨ml0, g0, hSc, -⟩ := id hSb
  have hSo := hSc.1
  have hTb := totB_in hO.2.1
  obtain ⟨m91, hl91, -⟩ := id hL1
  obtain ⟨m92, hl92, -⟩ := id hL5
  obtain ⟨⟨cap, mf, ly⟩, hg7⟩ : ∃ z, gB bs (i : Int) = z := ⟨_, rfl⟩
  have hb7 := hB.at hi hg7
  have hbk7 := hO.2.1 _ (gB_mem (bs := bs) (i := (i : Int)) (by omega) (by omega))
  rw [hg7] at hbk7
  obtain ⟨hcp7, hly7, htc7⟩ := hbk7
  dsimp only at hcp7 hly7 htc7
  have ht07 := tot_0 hly7
  obtain ⟨old7, ga7, gb7, gc7, gd7, ⟨hh7, -, -⟩, -, hcn7, -, hok7⟩ := id hb7
  dsimp only at hh7 hcn7 hok7
  rw [hg7] at hq
  refine j_aload_n 0 C dX6_layerMoisture_0 rfl rfl rfl ?_
  refine j_get C dX6_layerMoisture_1 rfl fg_X6_12 x1 rfl ?_
  refine j_iload_n 1 C dX6_layerMoisture_4 rfl rfl rfl ?_
  refine j_iload_n 2 C dX6_layerMoisture_5 rfl rfl rfl ?_
  refine j_callS (st' := []) (As := [.ref (ad 1), vi ((i : Int)), vi (q)]) C dX6_layerMoisture_6 rfl m_X6_162 rfl rfl (c_blG (kL κ) hfl (kD κ) (kc κ) σ ad 100 (ad 1) (ad 2) _ hL1 i (bins_at hi) cap mf ly hb7 q hq) rfl (by omega) (by omega) (by omega) (fun _ _ hx => hx.elim) (fun v2 τ1 hp3 => ?_)
  obtain ⟨rfl, hs9⟩ := hp3
  replace hs9 := hs9.symm
  subst hs9
  show J κ σ [(0, .ref (ad 0)), (1, vi ((i : Int))), (2, vi (q))] 9 [.ref (bq ad 100 i 0)] _ _
  refine j_iload_n 2 C dX6_layerMoisture_9 rfl rfl rfl ?_
  refine j_callV (st' := []) (As := [vi (q)]) C dX6_layerMoisture_10 rfl m_X6_172 hh7 rfl rfl rfl (c_moistureAt (kL κ) hfl (kD κ) (kc κ) σ (bq ad 100 i 0) (bq ad 100 i 1) (bq ad 100 i 2) (bq ad 100 i 3) (bq ad 100 i 4) cap mf ly hb7 q hq) rfl (by omega) (by omega) (by omega) (fun _ _ hx => hx.elim) (fun v5 τ4 hp6 => ?_)
  obtain ⟨rfl, hs9⟩ := hp6
  replace hs9 := hs9.symm
  subst hs9
  show J κ σ [(0, .ref (ad 0)), (1, vi ((i : Int))), (2, vi (q))] 13 [vi ((lyAt (fl (cap, mf, ly)) q).2.1)] _ _
  exact j_iret C E dX6_layerMoisture_13 (by omega) (by omega) ⟨by rw [hg7], rfl⟩
set_option maxHeartbeats 4000000 in
set_option maxRecDepth 20000 in
theorem c_layerMoistureB (l : Launch) (hfl : l.stackTraces = false) (D : va_G) (cy : Nat → Nat) (σ : Wd) (tg ad : Nat → Nat) (bs : List Bn) (ru : Nat → Int × Int) (se : Int) (pf : Nat → Int) (hd : Hd) (ca : Int) (evs : List Evt) (ln : List Int) (hX0 : RX cy σ tg ad bs ru se pf hd ca evs ln) (i : Nat) (hi : i < bs.length) (q : Int) (hq9 : (-2147483648 ≤ q ∧ q < 2147483648)) (hq : q < 0 ∨ ((gB bs i).2.2.length : Int) ≤ q) : Ct l yX6_layerMoisture cX6_layerMoisture 3 (some .int) 5 1 6 D cy [.ref (ad 0), vi ((i : Int)), vi (q)] σ (fun v σ' => False) (fun E9 σ' => E9 = "java/lang/IndexOutOfBoundsException" ∧ σ' = σ) := by
  refine ct_start (by decide +kernel) hfl rfl (fun κ e1 e2 e3 C E NH => ?_)
  subst e1 e2 e3
  have C : Cx κ cX6_layerMoisture 3 RX6 "layerMoisture" 5 := C
  obtain ⟨-, -, -, -, hc, hs⟩ := id E
  show J κ σ [(0, .ref (ad 0)), (1, vi ((i : Int))), (2, vi (q))] 0 [] 0 0
  have hXX := hX0
  obtain ⟨⟨x1, x2⟩, hB, ⟨bsA, hA, hAe⟩, hEv, hX, hO⟩ := hXX
  obtain ⟨⟨hR, t7, t8, t9⟩, ⟨hPr, t10⟩, ⟨hH, t11, t12⟩, cap0, hSb, t13, t14⟩ := id hX
  have hL1 := hB.1.1
  have hL5 := hEv.1.1
  have hbl := bins_len ad 100 bs.length
  have hel9 := evl_len ad evs.length
  have h6 := hB.2.1
  obtain ⟨⟨hc1, hc2⟩, hc3, hc4⟩ := hO.2.2.2.1
  have hev80 := hO.2.2.1.2
  have hpr := hO.2.2.2.2.1
  have hRo := hR.1
  have hHo := hH.1
  obtain ⟨ml0, g0, hSc, -⟩ := id hSb
  have hSo := hSc.1
  have hTb := totB_in hO.2.1
  obtain ⟨m91, hl91, -⟩ := id hL1
  obtain ⟨m92, hl92, -⟩ := id hL5
  obtain ⟨⟨cap, mf, ly⟩, hg7⟩ : ∃ z, gB bs (i : Int) = z := ⟨_, rfl⟩
  have hb7 := hB.at hi hg7
  have hbk7 := hO.2.1 _ (gB_mem (bs := bs) (i := (i : Int)) (by omega) (by omega))
  rw [hg7] at hbk7
  obtain ⟨hcp7, hly7, htc7⟩ := hbk7
  dsimp only at hcp7 hly7 htc7
  have ht07 := tot_0 hly7
  obtain ⟨old7, ga7, gb7, gc7, gd7, ⟨hh7, -, -⟩, -, hcn7, -, hok7⟩ := id hb7
  dsimp only at hh7 hcn7 hok7
  rw [hg7] at hq
  refine j_aload_n 0 C dX6_layerMoisture_0 rfl rfl rfl ?_
  refine j_get C dX6_layerMoisture_1 rfl fg_X6_12 x1 rfl ?_
  refine j_iload_n 1 C dX6_layerMoisture_4 rfl rfl rfl ?_
  refine j_iload_n 2 C dX6_layerMoisture_5 rfl rfl rfl ?_
  refine j_callS (st' := []) (As := [.ref (ad 1), vi ((i : Int)), vi (q)]) C dX6_layerMoisture_6 rfl m_X6_162 rfl rfl (c_blB (kL κ) hfl (kD κ) (kc κ) σ ad 100 (ad 1) (ad 2) _ hL1 i (bins_at hi) cap mf ly hb7 q hq9 hq) rfl (by omega) (by omega) (by omega) (fun E9 σ9 hx => jx_out C E NH (by omega) (by omega) hx) (fun v2 τ1 hp3 => ?_)
  exact hp3.elim
set_option maxHeartbeats 4000000 in
set_option maxRecDepth 20000 in
theorem c_layerMoistureB0 (l : Launch) (hfl : l.stackTraces = false) (D : va_G) (cy : Nat → Nat) (σ : Wd) (tg ad : Nat → Nat) (bs : List Bn) (ru : Nat → Int × Int) (se : Int) (pf : Nat → Int) (hd : Hd) (ca : Int) (evs : List Evt) (ln : List Int) (hX0 : RX cy σ tg ad bs ru se pf hd ca evs ln) (b : Int) (hb9 : (-2147483648 ≤ b ∧ b < 2147483648)) (hbad : b < 0 ∨ (bs.length : Int) ≤ b) (q : Int) : Ct l yX6_layerMoisture cX6_layerMoisture 3 (some .int) 5 1 6 D cy [.ref (ad 0), vi (b), vi (q)] σ (fun v σ' => False) (fun E9 σ' => E9 = "java/lang/IndexOutOfBoundsException" ∧ σ' = σ) := by
  refine ct_start (by decide +kernel) hfl rfl (fun κ e1 e2 e3 C E NH => ?_)
  subst e1 e2 e3
  have C : Cx κ cX6_layerMoisture 3 RX6 "layerMoisture" 5 := C
  obtain ⟨-, -, -, -, hc, hs⟩ := id E
  show J κ σ [(0, .ref (ad 0)), (1, vi (b)), (2, vi (q))] 0 [] 0 0
  have hXX := hX0
  obtain ⟨⟨x1, x2⟩, hB, ⟨bsA, hA, hAe⟩, hEv, hX, hO⟩ := hXX
  obtain ⟨⟨hR, t7, t8, t9⟩, ⟨hPr, t10⟩, ⟨hH, t11, t12⟩, cap0, hSb, t13, t14⟩ := id hX
  have hL1 := hB.1.1
  have hL5 := hEv.1.1
  have hbl := bins_len ad 100 bs.length
  have hel9 := evl_len ad evs.length
  have h6 := hB.2.1
  obtain ⟨⟨hc1, hc2⟩, hc3, hc4⟩ := hO.2.2.2.1
  have hev80 := hO.2.2.1.2
  have hpr := hO.2.2.2.2.1
  have hRo := hR.1
  have hHo := hH.1
  obtain ⟨ml0, g0, hSc, -⟩ := id hSb
  have hSo := hSc.1
  have hTb := totB_in hO.2.1
  obtain ⟨m91, hl91, -⟩ := id hL1
  obtain ⟨m92, hl92, -⟩ := id hL5
  refine j_aload_n 0 C dX6_layerMoisture_0 rfl rfl rfl ?_
  refine j_get C dX6_layerMoisture_1 rfl fg_X6_12 x1 rfl ?_
  refine j_iload_n 1 C dX6_layerMoisture_4 rfl rfl rfl ?_
  refine j_iload_n 2 C dX6_layerMoisture_5 rfl rfl rfl ?_
  refine j_callS (st' := []) (As := [.ref (ad 1), vi (b), vi (q)]) C dX6_layerMoisture_6 rfl m_X6_162 rfl rfl (c_blB0 (kL κ) hfl (kD κ) (kc κ) σ (ad 1) (ad 2) _ hL1 b q hb9 (by rw [hbl]; exact hbad)) rfl (by omega) (by omega) (by omega) (fun E9 σ9 hx => jx_out C E NH (by omega) (by omega) hx) (fun v2 τ1 hp3 => ?_)
  exact hp3.elim
set_option maxHeartbeats 4000000 in
set_option maxRecDepth 20000 in
theorem c_layerForeign (l : Launch) (hfl : l.stackTraces = false) (D : va_G) (cy : Nat → Nat) (σ : Wd) (tg ad : Nat → Nat) (bs : List Bn) (ru : Nat → Int × Int) (se : Int) (pf : Nat → Int) (hd : Hd) (ca : Int) (evs : List Evt) (ln : List Int) (hX0 : RX cy σ tg ad bs ru se pf hd ca evs ln) (i : Nat) (hi : i < bs.length) (q : Int) (hq : 0 ≤ q ∧ q < ((gB bs i).2.2.length : Int)) : Ct l yX6_layerForeign cX6_layerForeign 3 (some .int) 5 0 0 D cy [.ref (ad 0), vi ((i : Int)), vi (q)] σ (fun v σ' => v = some (vi (lyAt (fl (gB bs i)) q).2.2.1) ∧ σ' = σ) noX := by
  refine ct_start (by decide +kernel) hfl rfl (fun κ e1 e2 e3 C E NH => ?_)
  subst e1 e2 e3
  have C : Cx κ cX6_layerForeign 3 RX6 "layerForeign" 5 := C
  obtain ⟨-, -, -, -, hc, hs⟩ := id E
  show J κ σ [(0, .ref (ad 0)), (1, vi ((i : Int))), (2, vi (q))] 0 [] 0 0
  have hXX := hX0
  obtain ⟨⟨x1, x2⟩, hB, ⟨bsA, hA, hAe⟩, hEv, hX, hO⟩ := hXX
  obtain ⟨⟨hR, t7, t8, t9⟩, ⟨hPr, t10⟩, ⟨hH, t11, t12⟩, cap0, hSb, t13, t14⟩ := id hX
  have hL1 := hB.1.1
  have hL5 := hEv.1.1
  have hbl := bins_len ad 100 bs.length
  have hel9 := evl_len ad evs.length
  have h6 := hB.2.1
  obtain ⟨⟨hc1, hc2⟩, hc3, hc4⟩ := hO.2.2.2.1
  have hev80 := hO.2.2.1.2
  have hpr := hO.2.2.2.2.1
  have hRo := hR.1
  have hHo := hH.1
  obtain ⟨ml0, g0, hSc, -⟩ := id hSb
  have hSo := hSc.1
  have hTb := totB_in hO.2.1
  obtain ⟨m91, hl91, -⟩ := id hL1
  obtain ⟨m92, hl92, -⟩ := id hL5
  obtain ⟨⟨cap, mf, ly⟩, hg7⟩ : ∃ z, gB bs (i : Int) = z := ⟨_, rfl⟩
  have hb7 := hB.at hi hg7
  have hbk7 := hO.2.1 _ (gB_mem (bs := bs) (i := (i : Int)) (by omega) (by omega))
  rw [hg7] at hbk7
  obtain ⟨hcp7, hly7, htc7⟩ := hbk7
  dsimp only at hcp7 hly7 htc7
  have ht07 := tot_0 hly7
  obtain ⟨old7, ga7, gb7, gc7, gd7, ⟨hh7, -, -⟩, -, hcn7, -, hok7⟩ := id hb7
  dsimp only at hh7 hcn7 hok7
  rw [hg7] at hq
  refine j_aload_n 0 C dX6_layerForeign_0 rfl rfl rfl ?_
  refine j_get C dX6_layerForeign_1 rfl fg_X6_12 x1 rfl ?_
  refine j_iload_n 1 C dX6_layerForeign_4 rfl rfl rfl ?_
  refine j_iload_n 2 C dX6_layerForeign_5 rfl rfl rfl ?_
  refine j_callS (st' := []) (As := [.ref (ad 1), vi ((i : Int)), vi (q)]) C dX6_layerForeign_6 rfl m_X6_162 rfl rfl (c_blG (kL κ) hfl (kD κ) (kc κ) σ ad 100 (ad 1) (ad 2) _ hL1 i (bins_at hi) cap mf ly hb7 q hq) rfl (by omega) (by omega) (by omega) (fun _ _ hx => hx.elim) (fun v2 τ1 hp3 => ?_)
  obtain ⟨rfl, hs9⟩ := hp3
  replace hs9 := hs9.symm
  subst hs9
  show J κ σ [(0, .ref (ad 0)), (1, vi ((i : Int))), (2, vi (q))] 9 [.ref (bq ad 100 i 0)] _ _
  refine j_iload_n 2 C dX6_layerForeign_9 rfl rfl rfl ?_
  refine j_callV (st' := []) (As := [vi (q)]) C dX6_layerForeign_10 rfl m_X6_175 hh7 rfl rfl rfl (c_foreignAt (kL κ) hfl (kD κ) (kc κ) σ (bq ad 100 i 0) (bq ad 100 i 1) (bq ad 100 i 2) (bq ad 100 i 3) (bq ad 100 i 4) cap mf ly hb7 q hq) rfl (by omega) (by omega) (by omega) (fun _ _ hx => hx.elim) (fun v5 τ4 hp6 => ?_)
  obtain ⟨rfl, hs9⟩ := hp6
  replace hs9 := hs9.symm
  subst hs9
  show J κ σ [(0, .ref (ad 0)), (1, vi ((i : Int))), (2, vi (q))] 13 [vi ((lyAt (fl (cap, mf, ly)) q).2.2.1)] _ _
  exact j_iret C E dX6_layerForeign_13 (by omega) (by omega) ⟨by rw [hg7], rfl⟩
set_option maxHeartbeats 4000000 in
set_option maxRecDepth 20000 in
theorem c_layerForeignB (l : Launch) (hfl : l.stackTraces = false) (D : va_G) (cy : Nat → Nat) (σ : Wd) (tg ad : Nat → Nat) (bs : List Bn) (ru : Nat → Int × Int) (se : Int) (pf : Nat → Int) (hd : Hd) (ca : Int) (evs : List Evt) (ln : List Int) (hX0 : RX cy σ tg ad bs ru se pf hd ca evs ln) (i : Nat) (hi : i < bs.length) (q : Int) (hq9 : (-2147483648 ≤ q ∧ q < 2147483648)) (hq : q < 0 ∨ ((gB bs i).2.2.length : Int) ≤ q) : Ct l yX6_layerForeign cX6_layerForeign 3 (some .int) 5 1 6 D cy [.ref (ad 0), vi ((i : Int)), vi (q)] σ (fun v σ' => False) (fun E9 σ' => E9 = "java/lang/IndexOutOfBoundsException" ∧ σ' = σ) := by
  refine ct_start (by decide +kernel) hfl rfl (fun κ e1 e2 e3 C E NH => ?_)
  subst e1 e2 e3
  have C : Cx κ cX6_layerForeign 3 RX6 "layerForeign" 5 := C
  obtain ⟨-, -, -, -, hc, hs⟩ := id E
  show J κ σ [(0, .ref (ad 0)), (1, vi ((i : Int))), (2, vi (q))] 0 [] 0 0
  have hXX := hX0
  obtain ⟨⟨x1, x2⟩, hB, ⟨bsA, hA, hAe⟩, hEv, hX, hO⟩ := hXX
  obtain ⟨⟨hR, t7, t8, t9⟩, ⟨hPr, t10⟩, ⟨hH, t11, t12⟩, cap0, hSb, t13, t14⟩ := id hX
  have hL1 := hB.1.1
  have hL5 := hEv.1.1
  have hbl := bins_len ad 100 bs.length
  have hel9 := evl_len ad evs.length
  have h6 := hB.2.1
  obtain ⟨⟨hc1, hc2⟩, hc3, hc4⟩ := hO.2.2.2.1
  have hev80 := hO.2.2.1.2
  have hpr := hO.2.2.2.2.1
  have hRo := hR.1
  have hHo := hH.1
  obtain ⟨ml0, g0, hSc, -⟩ := id hSb
  have hSo := hSc.1
  have hTb := totB_in hO.2.1
  obtain ⟨m91, hl91, -⟩ := id hL1
  obtain ⟨m92, hl92, -⟩ := id hL5
  obtain ⟨⟨cap, mf, ly⟩, hg7⟩ : ∃ z, gB bs (i : Int) = z := ⟨_, rfl⟩
  have hb7 := hB.at hi hg7
  have hbk7 := hO.2.1 _ (gB_mem (bs := bs) (i := (i : Int)) (by omega) (by omega))
  rw [hg7] at hbk7
  obtain ⟨hcp7, hly7, htc7⟩ := hbk7
  dsimp only at hcp7 hly7 htc7
  have ht07 := tot_0 hly7
  obtain ⟨old7, ga7, gb7, gc7, gd7, ⟨hh7, -, -⟩, -, hcn7, -, hok7⟩ := id hb7
  dsimp only at hh7 hcn7 hok7
  rw [hg7] at hq
  refine j_aload_n 0 C dX6_layerForeign_0 rfl rfl rfl ?_
  refine j_get C dX6_layerForeign_1 rfl fg_X6_12 x1 rfl ?_
  refine j_iload_n 1 C dX6_layerForeign_4 rfl rfl rfl ?_
  refine j_iload_n 2 C dX6_layerForeign_5 rfl rfl rfl ?_
  refine j_callS (st' := []) (As := [.ref (ad 1), vi ((i : Int)), vi (q)]) C dX6_layerForeign_6 rfl m_X6_162 rfl rfl (c_blB (kL κ) hfl (kD κ) (kc κ) σ ad 100 (ad 1) (ad 2) _ hL1 i (bins_at hi) cap mf ly hb7 q hq9 hq) rfl (by omega) (by omega) (by omega) (fun E9 σ9 hx => jx_out C E NH (by omega) (by omega) hx) (fun v2 τ1 hp3 => ?_)
  exact hp3.elim
set_option maxHeartbeats 4000000 in
set_option maxRecDepth 20000 in
theorem c_layerForeignB0 (l : Launch) (hfl : l.stackTraces = false) (D : va_G) (cy : Nat → Nat) (σ : Wd) (tg ad : Nat → Nat) (bs : List Bn) (ru : Nat → Int × Int) (se : Int) (pf : Nat → Int) (hd : Hd) (ca : Int) (evs : List Evt) (ln : List Int) (hX0 : RX cy σ tg ad bs ru se pf hd ca evs ln) (b : Int) (hb9 : (-2147483648 ≤ b ∧ b < 2147483648)) (hbad : b < 0 ∨ (bs.length : Int) ≤ b) (q : Int) : Ct l yX6_layerForeign cX6_layerForeign 3 (some .int) 5 1 6 D cy [.ref (ad 0), vi (b), vi (q)] σ (fun v σ' => False) (fun E9 σ' => E9 = "java/lang/IndexOutOfBoundsException" ∧ σ' = σ) := by
  refine ct_start (by decide +kernel) hfl rfl (fun κ e1 e2 e3 C E NH => ?_)
  subst e1 e2 e3
  have C : Cx κ cX6_layerForeign 3 RX6 "layerForeign" 5 := C
  obtain ⟨-, -, -, -, hc, hs⟩ := id E
  show J κ σ [(0, .ref (ad 0)), (1, vi (b)), (2, vi (q))] 0 [] 0 0
  have hXX := hX0
  obtain ⟨⟨x1, x2⟩, hB, ⟨bsA, hA, hAe⟩, hEv, hX, hO⟩ := hXX
  obtain ⟨⟨hR, t7, t8, t9⟩, ⟨hPr, t10⟩, ⟨hH, t11, t12⟩, cap0, hSb, t13, t14⟩ := id hX
  have hL1 := hB.1.1
  have hL5 := hEv.1.1
  have hbl := bins_len ad 100 bs.length
  have hel9 := evl_len ad evs.length
  have h6 := hB.2.1
  obtain ⟨⟨hc1, hc2⟩, hc3, hc4⟩ := hO.2.2.2.1
  have hev80 := hO.2.2.1.2
  have hpr := hO.2.2.2.2.1
  have hRo := hR.1
  have hHo := hH.1
  obtain ⟨ml0, g0, hSc, -⟩ := id hSb
  have hSo := hSc.1
  have hTb := totB_in hO.2.1
  obtain ⟨m91, hl91, -⟩ := id hL1
  obtain ⟨m92, hl92, -⟩ := id hL5
  refine j_aload_n 0 C dX6_layerForeign_0 rfl rfl rfl ?_
  refine j_get C dX6_layerForeign_1 rfl fg_X6_12 x1 rfl ?_
  refine j_iload_n 1 C dX6_layerForeign_4 rfl rfl rfl ?_
  refine j_iload_n 2 C dX6_layerForeign_5 rfl rfl rfl ?_
  refine j_callS (st' := []) (As := [.ref (ad 1), vi (b), vi (q)]) C dX6_layerForeign_6 rfl m_X6_162 rfl rfl (c_blB0 (kL κ) hfl (kD κ) (kc κ) σ (ad 1) (ad 2) _ hL1 b q hb9 (by rw [hbl]; exact hbad)) rfl (by omega) (by omega) (by omega) (fun E9 σ9 hx => jx_out C E NH (by omega) (by omega) hx) (fun v2 τ1 hp3 => ?_)
  exact hp3.elim
set_option maxHeartbeats 4000000 in
set_option maxRecDepth 20000 in
theorem c_layerGrade (l : Launch) (hfl : l.stackTraces = false) (D : va_G) (cy : Nat → Nat) (σ : Wd) (tg ad : Nat → Nat) (bs : List Bn) (ru : Nat → Int × Int) (se : Int) (pf : Nat → Int) (hd : Hd) (ca : Int) (evs : List Evt) (ln : List Int) (hX0 : RX cy σ tg ad bs ru se pf hd ca evs ln) (i : Nat) (hi : i < bs.length) (q : Int) (hq : 0 ≤ q ∧ q < ((gB bs i).2.2.length : Int)) : Ct l yX6_layerGrade cX6_layerGrade 3 (some .int) 5 0 0 D cy [.ref (ad 0), vi ((i : Int)), vi (q)] σ (fun v σ' => v = some (vi (lyAt (fl (gB bs i)) q).2.2.2) ∧ σ' = σ) noX := by
  refine ct_start (by decide +kernel) hfl rfl (fun κ e1 e2 e3 C E NH => ?_)
  subst e1 e2 e3
  have C : Cx κ cX6_layerGrade 3 RX6 "layerGrade" 5 := C
  obtain ⟨-, -, -, -, hc, hs⟩ := id E
  show J κ σ [(0, .ref (ad 0)), (1, vi ((i : Int))), (2, vi (q))] 0 [] 0 0
  have hXX := hX0
  obtain ⟨⟨x1, x2⟩, hB, ⟨bsA, hA, hAe⟩, hEv, hX, hO⟩ := hXX
  obtain ⟨⟨hR, t7, t8, t9⟩, ⟨hPr, t10⟩, ⟨hH, t11, t12⟩, cap0, hSb, t13, t14⟩ := id hX
  have hL1 := hB.1.1
  have hL5 := hEv.1.1
  have hbl := bins_len ad 100 bs.length
  have hel9 := evl_len ad evs.length
  have h6 := hB.2.1
  obtain ⟨⟨hc1, hc2⟩, hc3, hc4⟩ := hO.2.2.2.1
  have hev80 := hO.2.2.1.2
  have hpr := hO.2.2.2.2.1
  have hRo := hR.1
  have hHo := hH.1
  obtain ⟨ml0, g0, hSc, -⟩ := id hSb
  have hSo := hSc.1
  have hTb := totB_in hO.2.1
  obtain ⟨m91, hl91, -⟩ := id hL1
  obtain ⟨m92, hl92, -⟩ := id hL5
  obtain ⟨⟨cap, mf, ly⟩, hg7⟩ : ∃ z, gB bs (i : Int) = z := ⟨_, rfl⟩
  have hb7 := hB.at hi hg7
  have hbk7 := hO.2.1 _ (gB_mem (bs := bs) (i := (i : Int)) (by omega) (by omega))
  rw [hg7] at hbk7
  obtain ⟨hcp7, hly7, htc7⟩ := hbk7
  dsimp only at hcp7 hly7 htc7
  have ht07 := tot_0 hly7
  obtain ⟨old7, ga7, gb7, gc7, gd7, ⟨hh7, -, -⟩, -, hcn7, -, hok7⟩ := id hb7
  dsimp only at hh7 hcn7 hok7
  rw [hg7] at hq
  refine j_aload_n 0 C dX6_layerGrade_0 rfl rfl rfl ?_
  refine j_get C dX6_layerGrade_1 rfl fg_X6_12 x1 rfl ?_
  refine j_iload_n 1 C dX6_layerGrade_4 rfl rfl rfl ?_
  refine j_iload_n 2 C dX6_layerGrade_5 rfl rfl rfl ?_
  refine j_callS (st' := []) (As := [.ref (ad 1), vi ((i : Int)), vi (q)]) C dX6_layerGrade_6 rfl m_X6_162 rfl rfl (c_blG (kL κ) hfl (kD κ) (kc κ) σ ad 100 (ad 1) (ad 2) _ hL1 i (bins_at hi) cap mf ly hb7 q hq) rfl (by omega) (by omega) (by omega) (fun _ _ hx => hx.elim) (fun v2 τ1 hp3 => ?_)
  obtain ⟨rfl, hs9⟩ := hp3
  replace hs9 := hs9.symm
  subst hs9
  show J κ σ [(0, .ref (ad 0)), (1, vi ((i : Int))), (2, vi (q))] 9 [.ref (bq ad 100 i 0)] _ _
  refine j_iload_n 2 C dX6_layerGrade_9 rfl rfl rfl ?_
  refine j_callV (st' := []) (As := [vi (q)]) C dX6_layerGrade_10 rfl m_X6_178 hh7 rfl rfl rfl (c_gradeAt (kL κ) hfl (kD κ) (kc κ) σ (bq ad 100 i 0) (bq ad 100 i 1) (bq ad 100 i 2) (bq ad 100 i 3) (bq ad 100 i 4) cap mf ly hb7 q hq) rfl (by omega) (by omega) (by omega) (fun _ _ hx => hx.elim) (fun v5 τ4 hp6 => ?_)
  obtain ⟨rfl, hs9⟩ := hp6
  replace hs9 := hs9.symm
  subst hs9
  show J κ σ [(0, .ref (ad 0)), (1, vi ((i : Int))), (2, vi (q))] 13 [vi ((lyAt (fl (cap, mf, ly)) q).2.2.2)] _ _
  exact j_iret C E dX6_layerGrade_13 (by omega) (by omega) ⟨by rw [hg7], rfl⟩
set_option maxHeartbeats 4000000 in
set_option maxRecDepth 20000 in
theorem c_layerGradeB (l : Launch) (hfl : l.stackTraces = false) (D : va_G) (cy : Nat → Nat) (σ : Wd) (tg ad : Nat → Nat) (bs : List Bn) (ru : Nat → Int × Int) (se : Int) (pf : Nat → Int) (hd : Hd) (ca : Int) (evs : List Evt) (ln : List Int) (hX0 : RX cy σ tg ad bs ru se pf hd ca evs ln) (i : Nat) (hi : i < bs.length) (q : Int) (hq9 : (-2147483648 ≤ q ∧ q < 2147483648)) (hq : q < 0 ∨ ((gB bs i).2.2.length : Int) ≤ q) : Ct l yX6_layerGrade cX6_layerGrade 3 (some .int) 5 1 6 D cy [.ref (ad 0), vi ((i : Int)), vi (q)] σ (fun v σ' => False) (fun E9 σ' => E9 = "java/lang/IndexOutOfBoundsException" ∧ σ' = σ) := by
  refine ct_start (by decide +kernel) hfl rfl (fun κ e1 e2 e3 C E NH => ?_)
  subst e1 e2 e3
  have C : Cx κ cX6_layerGrade 3 RX6 "layerGrade" 5 := C
  obtain ⟨-, -, -, -, hc, hs⟩ := id E
  show J κ σ [(0, .ref (ad 0)), (1, vi ((i : Int))), (2, vi (q))] 0 [] 0 0
  have hXX := hX0
  obtain ⟨⟨x1, x2⟩, hB, ⟨bsA, hA, hAe⟩, hEv, hX, hO⟩ := hXX
  obtain ⟨⟨hR, t7, t8, t9⟩, ⟨hPr, t10⟩, ⟨hH, t11, t12⟩, cap0, hSb, t13, t14⟩ := id hX
  have hL1 := hB.1.1
  have hL5 := hEv.1.1
  have hbl := bins_len ad 100 bs.length
  have hel9 := evl_len ad evs.length
  have h6 := hB.2.1
  obtain ⟨⟨hc1, hc2⟩, hc3, hc4⟩ := hO.2.2.2.1
  have hev80 := hO.2.2.1.2
  have hpr := hO.2.2.2.2.1
  have hRo := hR.1
  have hHo := hH.1
  obtain ⟨ml0, g0, hSc, -⟩ := id hSb
  have hSo := hSc.1
  have hTb := totB_in hO.2.1
  obtain ⟨m91, hl91, -⟩ := id hL1
  obtain ⟨m92, hl92, -⟩ := id hL5
  obtain ⟨⟨cap, mf, ly⟩, hg7⟩ : ∃ z, gB bs (i : Int) = z := ⟨_, rfl⟩
  have hb7 := hB.at hi hg7
  have hbk7 := hO.2.1 _ (gB_mem (bs := bs) (i := (i : Int)) (by omega) (by omega))
  rw [hg7] at hbk7
  obtain ⟨hcp7, hly7, htc7⟩ := hbk7
  dsimp only at hcp7 hly7 htc7
  have ht07 := tot_0 hly7
  obtain ⟨old7, ga7, gb7, gc7, gd7, ⟨hh7, -, -⟩, -, hcn7, -, hok7⟩ := id hb7
  dsimp only at hh7 hcn7 hok7
  rw [hg7] at hq
  refine j_aload_n 0 C dX6_layerGrade_0 rfl rfl rfl ?_
  refine j_get C dX6_layerGrade_1 rfl fg_X6_12 x1 rfl ?_
  refine j_iload_n 1 C dX6_layerGrade_4 rfl rfl rfl ?_
  refine j_iload_n 2 C dX6_layerGrade_5 rfl rfl rfl ?_
  refine j_callS (st' := []) (As := [.ref (ad 1), vi ((i : Int)), vi (q)]) C dX6_layerGrade_6 rfl m_X6_162 rfl rfl (c_blB (kL κ) hfl (kD κ) (kc κ) σ ad 100 (ad 1) (ad 2) _ hL1 i (bins_at hi) cap mf ly hb7 q hq9 hq) rfl (by omega) (by omega) (by omega) (fun E9 σ9 hx => jx_out C E NH (by omega) (by omega) hx) (fun v2 τ1 hp3 => ?_)
  exact hp3.elim
set_option maxHeartbeats 4000000 in
set_option maxRecDepth 20000 in
theorem c_layerGradeB0 (l : Launch) (hfl : l.stackTraces = false) (D : va_G) (cy : Nat → Nat) (σ : Wd) (tg ad : Nat → Nat) (bs : List Bn) (ru : Nat → Int × Int) (se : Int) (pf : Nat → Int) (hd : Hd) (ca : Int) (evs : List Evt) (ln : List Int) (hX0 : RX cy σ tg ad bs ru se pf hd ca evs ln) (b : Int) (hb9 : (-2147483648 ≤ b ∧ b < 2147483648)) (hbad : b < 0 ∨ (bs.length : Int) ≤ b) (q : Int) : Ct l yX6_layerGrade cX6_layerGrade 3 (some .int) 5 1 6 D cy [.ref (ad 0), vi (b), vi (q)] σ (fun v σ' => False) (fun E9 σ' => E9 = "java/lang/IndexOutOfBoundsException" ∧ σ' = σ) := by
  refine ct_start (by decide +kernel) hfl rfl (fun κ e1 e2 e3 C E NH => ?_)
  subst e1 e2 e3
  have C : Cx κ cX6_layerGrade 3 RX6 "layerGrade" 5 := C
  obtain ⟨-, -, -, -, hc, hs⟩ := id E
  show J κ σ [(0, .ref (ad 0)), (1, vi (b)), (2, vi (q))] 0 [] 0 0
  have hXX := hX0
  obtain ⟨⟨x1, x2⟩, hB, ⟨bsA, hA, hAe⟩, hEv, hX, hO⟩ := hXX
  obtain ⟨⟨hR, t7, t8, t9⟩, ⟨hPr, t10⟩, ⟨hH, t11, t12⟩, cap0, hSb, t13, t14⟩ := id hX
  have hL1 := hB.1.1
  have hL5 := hEv.1.1
  have hbl := bins_len ad 100 bs.length
  have hel9 := evl_len ad evs.length
  have h6 := hB.2.1
  obtain ⟨⟨hc1, hc2⟩, hc3, hc4⟩ := hO.2.2.2.1
  have hev80 := hO.2.2.1.2
  have hpr := hO.2.2.2.2.1
  have hRo := hR.1
  have hHo := hH.1
  obtain ⟨ml0, g0, hSc, -⟩ := id hSb
  have hSo := hSc.1
  have hTb := totB_in hO.2.1
  obtain ⟨m91, hl91, -⟩ := id hL1
  obtain ⟨m92, hl92, -⟩ := id hL5
  refine j_aload_n 0 C dX6_layerGrade_0 rfl rfl rfl ?_
  refine j_get C dX6_layerGrade_1 rfl fg_X6_12 x1 rfl ?_
  refine j_iload_n 1 C dX6_layerGrade_4 rfl rfl rfl ?_
  refine j_iload_n 2 C dX6_layerGrade_5 rfl rfl rfl ?_
  refine j_callS (st' := []) (As := [.ref (ad 1), vi (b), vi (q)]) C dX6_layerGrade_6 rfl m_X6_162 rfl rfl (c_blB0 (kL κ) hfl (kD κ) (kc κ) σ (ad 1) (ad 2) _ hL1 b q hb9 (by rw [hbl]; exact hbad)) rfl (by omega) (by omega) (by omega) (fun E9 σ9 hx => jx_out C E NH (by omega) (by omega) hx) (fun v2 τ1 hp3 => ?_)
  exact hp3.elim
set_option maxHeartbeats 4000000 in
set_option maxRecDepth 20000 in
theorem c_gradeFor (l : Launch) (hfl : l.stackTraces = false) (D : va_G) (cy : Nat → Nat) (σ : Wd) (tg ad : Nat → Nat) (bs : List Bn) (ru : Nat → Int × Int) (se : Int) (pf : Nat → Int) (hd : Hd) (ca : Int) (evs : List Evt) (ln : List Int) (hX0 : RX cy σ tg ad bs ru se pf hd ca evs ln) (y z : Int) (hy : (-2147483648 ≤ y ∧ y < 2147483648)) (hz : (-2147483648 ≤ z ∧ z < 2147483648)) (h : ((80 ≤ y ∧ y ≤ 300) ∧ (0 ≤ z ∧ z ≤ 100))) : Ct l yX6_gradeFor cX6_gradeFor 3 (some .int) 4 0 0 D cy [.ref (ad 0), vi (y), vi (z)] σ (fun v σ' => v = some (vi (gradeF ru se y z)) ∧ σ' = σ) noX := by
  refine ct_start (by decide +kernel) hfl rfl (fun κ e1 e2 e3 C E NH => ?_)
  subst e1 e2 e3
  have C : Cx κ cX6_gradeFor 3 RX6 "gradeFor" 4 := C
  obtain ⟨-, -, -, -, hc, hs⟩ := id E
  show J κ σ [(0, .ref (ad 0)), (1, vi (y)), (2, vi (z))] 0 [] 0 0
  have hXX := hX0
  obtain ⟨⟨x1, x2⟩, hB, ⟨bsA, hA, hAe⟩, hEv, hX, hO⟩ := hXX
  obtain ⟨⟨hR, t7, t8, t9⟩, ⟨hPr, t10⟩, ⟨hH, t11, t12⟩, cap0, hSb, t13, t14⟩ := id hX
  have hL1 := hB.1.1
  have hL5 := hEv.1.1
  have hbl := bins_len ad 100 bs.length
  have hel9 := evl_len ad evs.length
  have h6 := hB.2.1
  obtain ⟨⟨hc1, hc2⟩, hc3, hc4⟩ := hO.2.2.2.1
  have hev80 := hO.2.2.1.2
  have hpr := hO.2.2.2.2.1
  have hRo := hR.1
  have hHo := hH.1
  obtain ⟨ml0, g0, hSc, -⟩ := id hSb
  have hSo := hSc.1
  have hTb := totB_in hO.2.1
  obtain ⟨m91, hl91, -⟩ := id hL1
  obtain ⟨m92, hl92, -⟩ := id hL5
  refine j_iload_n 1 C dX6_gradeFor_0 rfl rfl rfl ?_
  refine j_iload_n 2 C dX6_gradeFor_1 rfl rfl rfl ?_
  refine j_callS (st' := []) (As := [vi (y), vi (z)]) C dX6_gradeFor_2 rfl m_X6_83 rfl rfl (c_cgG (kL κ) hfl (kD κ) (kc κ) σ y z hy hz h) rfl (by omega) (by omega) (by omega) (fun _ _ hx => hx.elim) (fun v2 τ1 hp3 => ?_)
  obtain ⟨rfl, hs9⟩ := hp3
  replace hs9 := hs9.symm
  subst hs9
  show J κ σ [(0, .ref (ad 0)), (1, vi (y)), (2, vi (z))] 5 [] _ _
  refine j_aload_n 0 C dX6_gradeFor_5 rfl rfl rfl ?_
  refine j_get C dX6_gradeFor_6 rfl fg_X6_25 x1 rfl ?_
  refine j_iload_n 1 C dX6_gradeFor_9 rfl rfl rfl ?_
  refine j_iload_n 2 C dX6_gradeFor_10 rfl rfl rfl ?_
  refine j_callV (st' := []) (As := [vi (y), vi (z)]) C dX6_gradeFor_11 rfl m_X6_94 hRo rfl rfl rfl (c_gradeNow (kL κ) hfl (kD κ) (kc κ) σ (ad 7) (ad 8) (ad 9) ru se y z hR hy hz) rfl (by omega) (by omega) (by omega) (fun _ _ hx => hx.elim) (fun v5 τ4 hp6 => ?_)
  obtain ⟨rfl, hs9⟩ := hp6
  replace hs9 := hs9.symm
  subst hs9
  show J κ σ [(0, .ref (ad 0)), (1, vi (y)), (2, vi (z))] 14 [vi (gradeF ru se y z)] _ _
  exact j_iret C E dX6_gradeFor_14 (by omega) (by omega) ⟨rfl, rfl⟩
set_option maxHeartbeats 4000000 in
set_option maxRecDepth 20000 in
theorem c_gradeForB (l : Launch) (hfl : l.stackTraces = false) (D : va_G) (cy : Nat → Nat) (σ : Wd) (tg ad : Nat → Nat) (bs : List Bn) (ru : Nat → Int × Int) (se : Int) (pf : Nat → Int) (hd : Hd) (ca : Int) (evs : List Evt) (ln : List Int) (hX0 : RX cy σ tg ad bs ru se pf hd ca evs ln) (y z : Int) (hy : (-2147483648 ≤ y ∧ y < 2147483648)) (hz : (-2147483648 ≤ z ∧ z < 2147483648)) (h : ¬ ((80 ≤ y ∧ y ≤ 300) ∧ (0 ≤ z ∧ z ≤ 100))) : Ct l yX6_gradeFor cX6_gradeFor 3 (some .int) 4 1 6 D cy [.ref (ad 0), vi (y), vi (z)] σ (fun v σ' => False) (fun E9 σ' => E9 = "java/lang/IllegalArgumentException" ∧ σ' = σ) := by
  refine ct_start (by decide +kernel) hfl rfl (fun κ e1 e2 e3 C E NH => ?_)
  subst e1 e2 e3
  have C : Cx κ cX6_gradeFor 3 RX6 "gradeFor" 4 := C
  obtain ⟨-, -, -, -, hc, hs⟩ := id E
  show J κ σ [(0, .ref (ad 0)), (1, vi (y)), (2, vi (z))] 0 [] 0 0
  have hXX := hX0
  obtain ⟨⟨x1, x2⟩, hB, ⟨bsA, hA, hAe⟩, hEv, hX, hO⟩ := hXX
  obtain ⟨⟨hR, t7, t8, t9⟩, ⟨hPr, t10⟩, ⟨hH, t11, t12⟩, cap0, hSb, t13, t14⟩ := id hX
  have hL1 := hB.1.1
  have hL5 := hEv.1.1
  have hbl := bins_len ad 100 bs.length
  have hel9 := evl_len ad evs.length
  have h6 := hB.2.1
  obtain ⟨⟨hc1, hc2⟩, hc3, hc4⟩ := hO.2.2.2.1
  have hev80 := hO.2.2.1.2
  have hpr := hO.2.2.2.2.1
  have hRo := hR.1
  have hHo := hH.1
  obtain ⟨ml0, g0, hSc, -⟩ := id hSb
  have hSo := hSc.1
  have hTb := totB_in hO.2.1
  obtain ⟨m91, hl91, -⟩ := id hL1
  obtain ⟨m92, hl92, -⟩ := id hL5
  refine j_iload_n 1 C dX6_gradeFor_0 rfl rfl rfl ?_
  refine j_iload_n 2 C dX6_gradeFor_1 rfl rfl rfl ?_
  refine j_callS (st' := []) (As := [vi (y), vi (z)]) C dX6_gradeFor_2 rfl m_X6_83 rfl rfl (c_cgB (kL κ) hfl (kD κ) (kc κ) σ y z hy hz h) rfl (by omega) (by omega) (by omega) (fun E9 σ9 hx => jx_out C E NH (by omega) (by omega) hx) (fun v2 τ1 hp3 => ?_)
  exact hp3.elim
set_option maxHeartbeats 4000000 in
set_option maxRecDepth 20000 in
theorem c_dryingCost (l : Launch) (hfl : l.stackTraces = false) (D : va_G) (cy : Nat → Nat) (σ : Wd) (tg ad : Nat → Nat) (bs : List Bn) (ru : Nat → Int × Int) (se : Int) (pf : Nat → Int) (hd : Hd) (ca : Int) (evs : List Evt) (ln : List Int) (hX0 : RX cy σ tg ad bs ru se pf hd ca evs ln) (i : Nat) (hi : i < bs.length) (z : Int) (hz : (-2147483648 ≤ z ∧ z < 2147483648)) (h : 80 ≤ z ∧ z ≤ 300) : Ct l yX6_dryingCost cX6_dryingCost 4 (some .int) 5 0 0 D cy [.ref (ad 0), vi ((i : Int)), vi (z)] σ (fun v σ' => v = some (vi (sumL (dryC z) (gB bs i).2.2)) ∧ σ' = σ) noX := by
  refine ct_start (by decide +kernel) hfl rfl (fun κ e1 e2 e3 C E NH => ?_)
  subst e1 e2 e3
  have C : Cx κ cX6_dryingCost 4 RX6 "dryingCost" 5 := C
  obtain ⟨-, -, -, -, hc, hs⟩ := id E
  show J κ σ [(0, .ref (ad 0)), (1, vi ((i : Int))), (2, vi (z))] 0 [] 0 0
  have hXX := hX0
  obtain ⟨⟨x1, x2⟩, hB, ⟨bsA, hA, hAe⟩, hEv, hX, hO⟩ := hXX
  obtain ⟨⟨hR, t7, t8, t9⟩, ⟨hPr, t10⟩, ⟨hH, t11, t12⟩, cap0, hSb, t13, t14⟩ := id hX
  have hL1 := hB.1.1
  have hL5 := hEv.1.1
  have hbl := bins_len ad 100 bs.length
  have hel9 := evl_len ad evs.length
  have h6 := hB.2.1
  obtain ⟨⟨hc1, hc2⟩, hc3, hc4⟩ := hO.2.2.2.1
  have hev80 := hO.2.2.1.2
  have hpr := hO.2.2.2.2.1
  have hRo := hR.1
  have hHo := hH.1
  obtain ⟨ml0, g0, hSc, -⟩ := id hSb
  have hSo := hSc.1
  have hTb := totB_in hO.2.1
  obtain ⟨m91, hl91, -⟩ := id hL1
  obtain ⟨m92, hl92, -⟩ := id hL5
  obtain ⟨⟨cap, mf, ly⟩, hg7⟩ : ∃ z, gB bs (i : Int) = z := ⟨_, rfl⟩
  have hb7 := hB.at hi hg7
  have hbk7 := hO.2.1 _ (gB_mem (bs := bs) (i := (i : Int)) (by omega) (by omega))
  rw [hg7] at hbk7
  obtain ⟨hcp7, hly7, htc7⟩ := hbk7
  dsimp only at hcp7 hly7 htc7
  have ht07 := tot_0 hly7
  obtain ⟨old7, ga7, gb7, gc7, gd7, ⟨hh7, -, -⟩, -, hcn7, -, hok7⟩ := id hb7
  dsimp only at hh7 hcn7 hok7
  refine j_aload_n 0 C dX6_dryingCost_0 rfl rfl rfl ?_
  refine j_get C dX6_dryingCost_1 rfl fg_X6_12 x1 rfl ?_
  refine j_iload_n 1 C dX6_dryingCost_4 rfl rfl rfl ?_
  refine j_callS (st' := []) (As := [.ref (ad 1), vi ((i : Int))]) C dX6_dryingCost_5 rfl m_X6_75 rfl rfl (c_biG (kL κ) hfl (kD κ) (kc κ) σ (ad 1) (ad 2) _ hL1 i _ (bins_at hi) _ hh7) rfl (by omega) (by omega) (by omega) (fun _ _ hx => hx.elim) (fun v2 τ1 hp3 => ?_)
  obtain ⟨rfl, hs9⟩ := hp3
  replace hs9 := hs9.symm
  subst hs9
  show J κ σ [(0, .ref (ad 0)), (1, vi ((i : Int))), (2, vi (z))] 8 [.ref (bq ad 100 i 0)] _ _
  refine j_astore_n (lv' := [(0, .ref (ad 0)), (1, vi ((i : Int))), (2, vi (z)), (3, .ref (bq ad 100 i 0))]) [1, 2, 3, 0] C dX6_dryingCost_8 rfl rfl rfl rfl ?_
  refine j_iload_n 2 C dX6_dryingCost_9 rfl rfl rfl ?_
  refine j_callS (st' := []) (As := [vi (z)]) C dX6_dryingCost_10 rfl m_X6_144 rfl rfl (c_cmG (kL κ) hfl (kD κ) (kc κ) σ z hz h) rfl (by omega) (by omega) (by omega) (fun _ _ hx => hx.elim) (fun v5 τ4 hp6 => ?_)
  obtain ⟨rfl, hs9⟩ := hp6
  replace hs9 := hs9.symm
  subst hs9
  show J κ σ [(0, .ref (ad 0)), (1, vi ((i : Int))), (2, vi (z)), (3, .ref (bq ad 100 i 0))] 13 [] _ _
  refine j_aload_n 3 C dX6_dryingCost_13 rfl rfl rfl ?_
  refine j_iload_n 2 C dX6_dryingCost_14 rfl rfl rfl ?_
  refine j_callV (st' := []) (As := [vi (z)]) C dX6_dryingCost_15 rfl m_X6_159 hh7 rfl rfl rfl (c_costOfDrying (kL κ) hfl (kD κ) (kc κ) σ (bq ad 100 i 0) (bq ad 100 i 1) (bq ad 100 i 2) (bq ad 100 i 3) (bq ad 100 i 4) cap mf ly hb7 z h) rfl (by omega) (by omega) (by omega) (fun _ _ hx => hx.elim) (fun v8 τ7 hp9 => ?_)
  obtain ⟨rfl, hs9⟩ := hp9
  replace hs9 := hs9.symm
  subst hs9
  show J κ σ [(0, .ref (ad 0)), (1, vi ((i : Int))), (2, vi (z)), (3, .ref (bq ad 100 i 0))] 18 [vi (sumL (dryC z) ly)] _ _
  exact j_iret C E dX6_dryingCost_18 (by omega) (by omega) ⟨by rw [hg7], rfl⟩
set_option maxHeartbeats 4000000 in
set_option maxRecDepth 20000 in
theorem c_dryingCostB (l : Launch) (hfl : l.stackTraces = false) (D : va_G) (cy : Nat → Nat) (σ : Wd) (tg ad : Nat → Nat) (bs : List Bn) (ru : Nat → Int × Int) (se : Int) (pf : Nat → Int) (hd : Hd) (ca : Int) (evs : List Evt) (ln : List Int) (hX0 : RX cy σ tg ad bs ru se pf hd ca evs ln) (i : Nat) (hi : i < bs.length) (z : Int) (hz : (-2147483648 ≤ z ∧ z < 2147483648)) (h : z < 80 ∨ 300 < z) : Ct l yX6_dryingCost cX6_dryingCost 4 (some .int) 5 1 6 D cy [.ref (ad 0), vi ((i : Int)), vi (z)] σ (fun v σ' => False) (fun E9 σ' => E9 = "java/lang/IllegalArgumentException" ∧ σ' = σ) := by
  refine ct_start (by decide +kernel) hfl rfl (fun κ e1 e2 e3 C E NH => ?_)
  subst e1 e2 e3
  have C : Cx κ cX6_dryingCost 4 RX6 "dryingCost" 5 := C
  obtain ⟨-, -, -, -, hc, hs⟩ := id E
  show J κ σ [(0, .ref (ad 0)), (1, vi ((i : Int))), (2, vi (z))] 0 [] 0 0
  have hXX := hX0
  obtain ⟨⟨x1, x2⟩, hB, ⟨bsA, hA, hAe⟩, hEv, hX, hO⟩ := hXX
  obtain ⟨⟨hR, t7, t8, t9⟩, ⟨hPr, t10⟩, ⟨hH, t11, t12⟩, cap0, hSb, t13, t14⟩ := id hX
  have hL1 := hB.1.1
  have hL5 := hEv.1.1
  have hbl := bins_len ad 100 bs.length
  have hel9 := evl_len ad evs.length
  have h6 := hB.2.1
  obtain ⟨⟨hc1, hc2⟩, hc3, hc4⟩ := hO.2.2.2.1
  have hev80 := hO.2.2.1.2
  have hpr := hO.2.2.2.2.1
  have hRo := hR.1
  have hHo := hH.1
  obtain ⟨ml0, g0, hSc, -⟩ := id hSb
  have hSo := hSc.1
  have hTb := totB_in hO.2.1
  obtain ⟨m91, hl91, -⟩ := id hL1
  obtain ⟨m92, hl92, -⟩ := id hL5
  obtain ⟨⟨cap, mf, ly⟩, hg7⟩ : ∃ z, gB bs (i : Int) = z := ⟨_, rfl⟩
  have hb7 := hB.at hi hg7
  have hbk7 := hO.2.1 _ (gB_mem (bs := bs) (i := (i : Int)) (by omega) (by omega))
  rw [hg7] at hbk7
  obtain ⟨hcp7, hly7, htc7⟩ := hbk7
  dsimp only at hcp7 hly7 htc7
  have ht07 := tot_0 hly7
  obtain ⟨old7, ga7, gb7, gc7, gd7, ⟨hh7, -, -⟩, -, hcn7, -, hok7⟩ := id hb7
  dsimp only at hh7 hcn7 hok7
  refine j_aload_n 0 C dX6_dryingCost_0 rfl rfl rfl ?_
  refine j_get C dX6_dryingCost_1 rfl fg_X6_12 x1 rfl ?_
  refine j_iload_n 1 C dX6_dryingCost_4 rfl rfl rfl ?_
  refine j_callS (st' := []) (As := [.ref (ad 1), vi ((i : Int))]) C dX6_dryingCost_5 rfl m_X6_75 rfl rfl (c_biG (kL κ) hfl (kD κ) (kc κ) σ (ad 1) (ad 2) _ hL1 i _ (bins_at hi) _ hh7) rfl (by omega) (by omega) (by omega) (fun _ _ hx => hx.elim) (fun v2 τ1 hp3 => ?_)
  obtain ⟨rfl, hs9⟩ := hp3
  replace hs9 := hs9.symm
  subst hs9
  show J κ σ [(0, .ref (ad 0)), (1, vi ((i : Int))), (2, vi (z))] 8 [.ref (bq ad 100 i 0)] _ _
  refine j_astore_n (lv' := [(0, .ref (ad 0)), (1, vi ((i : Int))), (2, vi (z)), (3, .ref (bq ad 100 i 0))]) [1, 2, 3, 0] C dX6_dryingCost_8 rfl rfl rfl rfl ?_
  refine j_iload_n 2 C dX6_dryingCost_9 rfl rfl rfl ?_
  refine j_callS (st' := []) (As := [vi (z)]) C dX6_dryingCost_10 rfl m_X6_144 rfl rfl (c_cmB (kL κ) hfl (kD κ) (kc κ) σ z hz h) rfl (by omega) (by omega) (by omega) (fun E9 σ9 hx => jx_out C E NH (by omega) (by omega) hx) (fun v5 τ4 hp6 => ?_)
  exact hp6.elim
set_option maxHeartbeats 4000000 in
set_option maxRecDepth 20000 in
theorem c_dryingCostB0 (l : Launch) (hfl : l.stackTraces = false) (D : va_G) (cy : Nat → Nat) (σ : Wd) (tg ad : Nat → Nat) (bs : List Bn) (ru : Nat → Int × Int) (se : Int) (pf : Nat → Int) (hd : Hd) (ca : Int) (evs : List Evt) (ln : List Int) (hX0 : RX cy σ tg ad bs ru se pf hd ca evs ln) (b : Int) (hb9 : (-2147483648 ≤ b ∧ b < 2147483648)) (hbad : b < 0 ∨ (bs.length : Int) ≤ b) (z : Int) (hz : (-2147483648 ≤ z ∧ z < 2147483648)) : Ct l yX6_dryingCost cX6_dryingCost 4 (some .int) 5 1 6 D cy [.ref (ad 0), vi (b), vi (z)] σ (fun v σ' => False) (fun E9 σ' => E9 = "java/lang/IndexOutOfBoundsException" ∧ σ' = σ) := by
  refine ct_start (by decide +kernel) hfl rfl (fun κ e1 e2 e3 C E NH => ?_)
  subst e1 e2 e3
  have C : Cx κ cX6_dryingCost 4 RX6 "dryingCost" 5 := C
  obtain ⟨-, -, -, -, hc, hs⟩ := id E
  show J κ σ [(0, .ref (ad 0)), (1, vi (b)), (2, vi (z))] 0 [] 0 0
  have hXX := hX0
  obtain ⟨⟨x1, x2⟩, hB, ⟨bsA, hA, hAe⟩, hEv, hX, hO⟩ := hXX
  obtain ⟨⟨hR, t7, t8, t9⟩, ⟨hPr, t10⟩, ⟨hH, t11, t12⟩, cap0, hSb, t13, t14⟩ := id hX
  have hL1 := hB.1.1
  have hL5 := hEv.1.1
  have hbl := bins_len ad 100 bs.length
  have hel9 := evl_len ad evs.length
  have h6 := hB.2.1
  obtain ⟨⟨hc1, hc2⟩, hc3, hc4⟩ := hO.2.2.2.1
  have hev80 := hO.2.2.1.2
  have hpr := hO.2.2.2.2.1
  have hRo := hR.1
  have hHo := hH.1
  obtain ⟨ml0, g0, hSc, -⟩ := id hSb
  have hSo := hSc.1
  have hTb := totB_in hO.2.1
  obtain ⟨m91, hl91, -⟩ := id hL1
  obtain ⟨m92, hl92, -⟩ := id hL5
  refine j_aload_n 0 C dX6_dryingCost_0 rfl rfl rfl ?_
  refine j_get C dX6_dryingCost_1 rfl fg_X6_12 x1 rfl ?_
  refine j_iload_n 1 C dX6_dryingCost_4 rfl rfl rfl ?_
  refine j_callS (st' := []) (As := [.ref (ad 1), vi (b)]) C dX6_dryingCost_5 rfl m_X6_75 rfl rfl (c_biB (kL κ) hfl (kD κ) (kc κ) σ (ad 1) (ad 2) _ hL1 b hb9 (by rw [hbl]; exact hbad)) rfl (by omega) (by omega) (by omega) (fun E9 σ9 hx => jx_out C E NH (by omega) (by omega) hx) (fun v2 τ1 hp3 => ?_)
  exact hp3.elim
set_option maxHeartbeats 4000000 in
set_option maxRecDepth 20000 in
theorem c_lineAt (l : Launch) (hfl : l.stackTraces = false) (D : va_G) (cy : Nat → Nat) (σ : Wd) (tg ad : Nat → Nat) (bs : List Bn) (ru : Nat → Int × Int) (se : Int) (pf : Nat → Int) (hd : Hd) (ca : Int) (evs : List Evt) (ln : List Int) (hX0 : RX cy σ tg ad bs ru se pf hd ca evs ln) (z : Int) (hz : (-2147483648 ≤ z ∧ z < 2147483648)) (h : 0 ≤ z ∧ z < (ln.length : Int)) : Ct l yX6_lineAt cX6_lineAt 2 (some .char) 5 0 0 D cy [.ref (ad 0), vi (z)] σ (fun v σ' => v = some (vi (ln.getD z.toNat 0)) ∧ σ' = σ) noX := by
  refine ct_start (by decide +kernel) hfl rfl (fun κ e1 e2 e3 C E NH => ?_)
  subst e1 e2 e3
  have C : Cx κ cX6_lineAt 2 RX6 "lineAt" 5 := C
  obtain ⟨-, -, -, -, hc, hs⟩ := id E
  show J κ σ [(0, .ref (ad 0)), (1, vi (z))] 0 [] 0 0
  have hln : ln.length ≤ 900 := hX0.2.2.2.2.2.2.2.2.2.2.1
  have hXX := hX0
  obtain ⟨⟨x1, x2⟩, hB, ⟨bsA, hA, hAe⟩, hEv, hX, hO⟩ := hXX
  obtain ⟨⟨hR, t7, t8, t9⟩, ⟨hPr, t10⟩, ⟨hH, t11, t12⟩, cap0, hSb, t13, t14⟩ := id hX
  have hL1 := hB.1.1
  have hL5 := hEv.1.1
  have hbl := bins_len ad 100 bs.length
  have hel9 := evl_len ad evs.length
  have h6 := hB.2.1
  obtain ⟨⟨hc1, hc2⟩, hc3, hc4⟩ := hO.2.2.2.1
  have hev80 := hO.2.2.1.2
  have hpr := hO.2.2.2.2.1
  have hRo := hR.1
  have hHo := hH.1
  obtain ⟨ml0, g0, hSc, -⟩ := id hSb
  have hSo := hSc.1
  have hTb := totB_in hO.2.1
  obtain ⟨m91, hl91, -⟩ := id hL1
  obtain ⟨m92, hl92, -⟩ := id hL5
  refine j_iload_n 1 C dX6_lineAt_0 rfl rfl rfl ?_
  refine j_if_lt (tgt := 15) C dX6_lineAt_1 rfl rfl ⟨by omega, by omega⟩ (fun cc1 => ?_) (fun cc1 => ?_)
  · exact absurd cc1 (by omega)
  · refine j_iload_n 1 C dX6_lineAt_4 rfl rfl rfl ?_
    refine j_aload_n 0 C dX6_lineAt_5 rfl rfl rfl ?_
    refine j_get C dX6_lineAt_6 rfl fg_X6_43 x1 rfl ?_
    refine j_callV (st' := [vi (z)]) (As := []) C dX6_lineAt_9 rfl m_X6_265 hSo rfl rfl rfl (c_sbLength (kL κ) hfl (kD κ) (kc κ) σ (ad 13) (ad 14) cap0 ln hSb) rfl (by omega) (by omega) (by omega) (fun _ _ hx => hx.elim) (fun v3 τ2 hp4 => ?_)
    obtain ⟨rfl, hs9⟩ := hp4
    replace hs9 := hs9.symm
    subst hs9
    show J κ σ [(0, .ref (ad 0)), (1, vi (z))] 12 [vi ((ln.length : Int)), vi (z)] _ _
    refine j_icmp_lt (tgt := 26) C dX6_lineAt_12 rfl rfl ⟨by omega, by omega⟩ ⟨by omega, by omega⟩ (fun cc5 => ?_) (fun cc5 => ?_)
    · refine j_aload_n 0 C dX6_lineAt_26 rfl rfl rfl ?_
      refine j_get C dX6_lineAt_27 rfl fg_X6_43 x1 rfl ?_
      refine j_iload_n 1 C dX6_lineAt_30 rfl rfl rfl ?_
      refine j_callV (st' := []) (As := [vi (z)]) C dX6_lineAt_31 rfl m_X6_270 hSo rfl rfl rfl (c_charAt (kL κ) hfl (kD κ) (kc κ) σ (ad 13) (ad 14) cap0 ln hSb z h) rfl (by omega) (by omega) (by omega) (fun _ _ hx => hx.elim) (fun v7 τ6 hp8 => ?_)
      obtain ⟨rfl, hs9⟩ := hp8
      replace hs9 := hs9.symm
      subst hs9
      show J κ σ [(0, .ref (ad 0)), (1, vi (z))] 34 [vi (ln.getD z.toNat 0)] _ _
      exact j_zret C E dX6_lineAt_34 (z_nc (hSb.ch (by omega))) (by omega) (by omega) ⟨rfl, rfl⟩
    · exact absurd cc5 (by omega)
set_option maxHeartbeats 4000000 in
set_option maxRecDepth 20000 in
theorem c_lineAtB (l : Launch) (hfl : l.stackTraces = false) (D : va_G) (cy : Nat → Nat) (σ : Wd) (tg ad : Nat → Nat) (bs : List Bn) (ru : Nat → Int × Int) (se : Int) (pf : Nat → Int) (hd : Hd) (ca : Int) (evs : List Evt) (ln : List Int) (hX0 : RX cy σ tg ad bs ru se pf hd ca evs ln) (z : Int) (hz : (-2147483648 ≤ z ∧ z < 2147483648)) (h : z < 0 ∨ (ln.length : Int) ≤ z) : Ct l yX6_lineAt cX6_lineAt 2 (some .char) 5 1 6 D cy [.ref (ad 0), vi (z)] σ (fun v σ' => False) (fun E9 σ' => E9 = "java/lang/IndexOutOfBoundsException" ∧ σ' = σ) := by
  refine ct_start (by decide +kernel) hfl rfl (fun κ e1 e2 e3 C E NH => ?_)
  subst e1 e2 e3
  have C : Cx κ cX6_lineAt 2 RX6 "lineAt" 5 := C
  obtain ⟨-, -, -, -, hc, hs⟩ := id E
  show J κ σ [(0, .ref (ad 0)), (1, vi (z))] 0 [] 0 0
  have hln : ln.length ≤ 900 := hX0.2.2.2.2.2.2.2.2.2.2.1
  have hXX := hX0
  obtain ⟨⟨x1, x2⟩, hB, ⟨bsA, hA, hAe⟩, hEv, hX, hO⟩ := hXX
  obtain ⟨⟨hR, t7, t8, t9⟩, ⟨hPr, t10⟩, ⟨hH, t11, t12⟩, cap0, hSb, t13, t14⟩ := id hX
  have hL1 := hB.1.1
  have hL5 := hEv.1.1
  have hbl := bins_len ad 100 bs.length
  have hel9 := evl_len ad evs.length
  have h6 := hB.2.1
  obtain ⟨⟨hc1, hc2⟩, hc3, hc4⟩ := hO.2.2.2.1
  have hev80 := hO.2.2.1.2
  have hpr := hO.2.2.2.2.1
  have hRo := hR.1
  have hHo := hH.1
  obtain ⟨ml0, g0, hSc, -⟩ := id hSb
  have hSo := hSc.1
  have hTb := totB_in hO.2.1
  obtain ⟨m91, hl91, -⟩ := id hL1
  obtain ⟨m92, hl92, -⟩ := id hL5
  refine j_iload_n 1 C dX6_lineAt_0 rfl rfl rfl ?_
  refine j_if_lt (tgt := 15) C dX6_lineAt_1 rfl rfl ⟨by omega, by omega⟩ (fun cc1 => ?_) (fun cc1 => ?_)
  · exact j_throwW C E NH tx_X6_237_241 (is := 268) (text := "there is no such character") (by decide) dX6_lineAt_15 dX6_lineAt_18 dX6_lineAt_19 dX6_lineAt_22 dX6_lineAt_25 rfl (by omega) (by omega) ⟨rfl, rfl⟩
  · refine j_iload_n 1 C dX6_lineAt_4 rfl rfl rfl ?_
    refine j_aload_n 0 C dX6_lineAt_5 rfl rfl rfl ?_
    refine j_get C dX6_lineAt_6 rfl fg_X6_43 x1 rfl ?_
    refine j_callV (st' := [vi (z)]) (As := []) C dX6_lineAt_9 rfl m_X6_265 hSo rfl rfl rfl (c_sbLength (kL κ) hfl (kD κ) (kc κ) σ (ad 13) (ad 14) cap0 ln hSb) rfl (by omega) (by omega) (by omega) (fun _ _ hx => hx.elim) (fun v3 τ2 hp4 => ?_)
    obtain ⟨rfl, hs9⟩ := hp4
    replace hs9 := hs9.symm
    subst hs9
    show J κ σ [(0, .ref (ad 0)), (1, vi (z))] 12 [vi ((ln.length : Int)), vi (z)] _ _
    refine j_icmp_lt (tgt := 26) C dX6_lineAt_12 rfl rfl ⟨by omega, by omega⟩ ⟨by omega, by omega⟩ (fun cc5 => ?_) (fun cc5 => ?_)
    · exact absurd cc5 (by omega)
    · exact j_throwW C E NH tx_X6_237_241 (is := 268) (text := "there is no such character") (by decide) dX6_lineAt_15 dX6_lineAt_18 dX6_lineAt_19 dX6_lineAt_22 dX6_lineAt_25 rfl (by omega) (by omega) ⟨rfl, rfl⟩
