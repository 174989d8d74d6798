/-! GrainElevator: load, sell, transfer, dry that throw -/
set_option maxHeartbeats 4000000 in
set_option maxRecDepth 20000 in
theorem c_loadB0 (l : Launch) (hfl : l.stackTraces = false) (D : va_G) (cy : Nat → Nat) (σ : Wd) (tg ad : Nat → Nat) (bs : List Bn) (ru : Nat → Int × Int) (se : Int) (pf : Nat → Int) (hd : Hd) (ca : Int) (evs : List Evt) (ln : List Int) (hX0 : RX cy σ tg ad bs ru se pf hd ca evs ln) (b : Int) (hb9 : (-2147483648 ≤ b ∧ b < 2147483648)) (hbad : b < 0 ∨ (bs.length : Int) ≤ b) (n x f : Int) (hn9 : (-2147483648 ≤ n ∧ n < 2147483648)) (hx8 : (-2147483648 ≤ x ∧ x < 2147483648)) (hf8 : (-2147483648 ≤ f ∧ f < 2147483648)) : Ct l yX6_load cX6_load 7 (some .int) 7 1 6 D cy [.ref (ad 0), vi (b), vi (n), vi (x), vi (f)] σ (fun v σ' => False) (fun E9 σ' => E9 = "java/lang/IndexOutOfBoundsException" ∧ σ' = σ) := by
  refine ct_start (by decide +kernel) hfl rfl (fun κ e1 e2 e3 C E NH => ?_)
  subst e1 e2 e3
  have C : Cx κ cX6_load 7 RX6 "load" 7 := C
  obtain ⟨-, -, -, -, hc, hs⟩ := id E
  show J κ σ [(0, .ref (ad 0)), (1, vi (b)), (2, vi (n)), (3, vi (x)), (4, vi (f))] 0 [] 0 0
  have hXX := hX0
  obtain ⟨⟨x1, x2⟩, hB, ⟨bsA, hA, hAe⟩, hEv, hX, hO⟩ := hXX
  obtain ⟨⟨hR, t7, t8, t9⟩, ⟨hPr, t10⟩, ⟨hH, t11, t12⟩, cap0, hSb, t13, t14⟩ := id hX
  have hL1 := hB.1.1
  have hL5 := hEv.1.1
  have hbl := bins_len ad 100 bs.length
  have hel9 := evl_len ad evs.length
  have h6 := hB.2.1
  obtain ⟨⟨hc1, hc2⟩, hc3, hc4⟩ := hO.2.2.2.1
  have hev80 := hO.2.2.1.2
  have hpr := hO.2.2.2.2.1
  have hRo := hR.1
  have hHo := hH.1
  obtain ⟨ml0, g0, hSc, -⟩ := id hSb
  have hSo := hSc.1
  have hTb := totB_in hO.2.1
  obtain ⟨m91, hl91, -⟩ := id hL1
  obtain ⟨m92, hl92, -⟩ := id hL5
  refine j_aload_n 0 C dX6_load_0 rfl rfl rfl ?_
  refine j_get C dX6_load_1 rfl fg_X6_12 x1 rfl ?_
  refine j_iload_n 1 C dX6_load_4 rfl rfl rfl ?_
  refine j_callS (st' := []) (As := [.ref (ad 1), vi (b)]) C dX6_load_5 rfl m_X6_75 rfl rfl (c_biB (kL κ) hfl (kD κ) (kc κ) σ (ad 1) (ad 2) _ hL1 b hb9 (by rw [hbl]; exact hbad)) rfl (by omega) (by omega) (by omega) (fun E9 σ9 hx => jx_out C E NH (by omega) (by omega) hx) (fun v2 τ1 hp3 => ?_)
  exact hp3.elim
set_option maxHeartbeats 4000000 in
set_option maxRecDepth 20000 in
theorem c_loadB1 (l : Launch) (hfl : l.stackTraces = false) (D : va_G) (cy : Nat → Nat) (σ : Wd) (tg ad : Nat → Nat) (bs : List Bn) (ru : Nat → Int × Int) (se : Int) (pf : Nat → Int) (hd : Hd) (ca : Int) (evs : List Evt) (ln : List Int) (hX0 : RX cy σ tg ad bs ru se pf hd ca evs ln) (i : Nat) (hi : i < bs.length) (n x f : Int) (hn9 : (-2147483648 ≤ n ∧ n < 2147483648)) (hx8 : (-2147483648 ≤ x ∧ x < 2147483648)) (hf8 : (-2147483648 ≤ f ∧ f < 2147483648)) (h : ¬ ((1 ≤ n ∧ n ≤ 2000) ∧ (80 ≤ x ∧ x ≤ 300) ∧ (0 ≤ f ∧ f ≤ 100))) : Ct l yX6_load cX6_load 7 (some .int) 7 1 6 D cy [.ref (ad 0), vi ((i : Int)), vi (n), vi (x), vi (f)] σ (fun v σ' => False) (fun E9 σ' => E9 = "java/lang/IllegalArgumentException" ∧ σ' = σ) := by
  refine ct_start (by decide +kernel) hfl rfl (fun κ e1 e2 e3 C E NH => ?_)
  subst e1 e2 e3
  have C : Cx κ cX6_load 7 RX6 "load" 7 := C
  obtain ⟨-, -, -, -, hc, hs⟩ := id E
  show J κ σ [(0, .ref (ad 0)), (1, vi ((i : Int))), (2, vi (n)), (3, vi (x)), (4, vi (f))] 0 [] 0 0
  have hXX := hX0
  obtain ⟨⟨x1, x2⟩, hB, ⟨bsA, hA, hAe⟩, hEv, hX, hO⟩ := hXX
  obtain ⟨⟨hR, t7, t8, t9⟩, ⟨hPr, t10⟩, ⟨hH, t11, t12⟩, cap0, hSb, t13, t14⟩ := id hX
  have hL1 := hB.1.1
  have hL5 := hEv.1.1
  have hbl := bins_len ad 100 bs.length
  have hel9 := evl_len ad evs.length
  have h6 := hB.2.1
  obtain ⟨⟨hc1, hc2⟩, hc3, hc4⟩ := hO.2.2.2.1
  have hev80 := hO.2.2.1.2
  have hpr := hO.2.2.2.2.1
  have hRo := hR.1
  have hHo := hH.1
  obtain ⟨ml0, g0, hSc, -⟩ := id hSb
  have hSo := hSc.1
  have hTb := totB_in hO.2.1
  obtain ⟨m91, hl91, -⟩ := id hL1
  obtain ⟨m92, hl92, -⟩ := id hL5
  obtain ⟨⟨cap, mf, ly⟩, hg7⟩ : ∃ z, gB bs (i : Int) = z := ⟨_, rfl⟩
  have hb7 := hB.at hi hg7
  have hbk7 := hO.2.1 _ (gB_mem (bs := bs) (i := (i : Int)) (by omega) (by omega))
  rw [hg7] at hbk7
  obtain ⟨hcp7, hly7, htc7⟩ := hbk7
  dsimp only at hcp7 hly7 htc7
  have ht07 := tot_0 hly7
  obtain ⟨old7, ga7, gb7, gc7, gd7, ⟨hh7, -, -⟩, -, hcn7, -, hok7⟩ := id hb7
  dsimp only at hh7 hcn7 hok7
  refine j_aload_n 0 C dX6_load_0 rfl rfl rfl ?_
  refine j_get C dX6_load_1 rfl fg_X6_12 x1 rfl ?_
  refine j_iload_n 1 C dX6_load_4 rfl rfl rfl ?_
  refine j_callS (st' := []) (As := [.ref (ad 1), vi ((i : Int))]) C dX6_load_5 rfl m_X6_75 rfl rfl (c_biG (kL κ) hfl (kD κ) (kc κ) σ (ad 1) (ad 2) _ hL1 i _ (bins_at hi) _ hh7) rfl (by omega) (by omega) (by omega) (fun _ _ hx => hx.elim) (fun v2 τ1 hp3 => ?_)
  obtain ⟨rfl, hs9⟩ := hp3
  replace hs9 := hs9.symm
  subst hs9
  show J κ σ [(0, .ref (ad 0)), (1, vi ((i : Int))), (2, vi (n)), (3, vi (x)), (4, vi (f))] 8 [.ref (bq ad 100 i 0)] _ _
  refine j_astore (lv' := [(0, .ref (ad 0)), (1, vi ((i : Int))), (2, vi (n)), (3, vi (x)), (4, vi (f)), (5, .ref (bq ad 100 i 0))]) [1, 2, 3, 4, 5, 0] C dX6_load_8 rfl rfl rfl ?_
  refine j_iload_n 2 C dX6_load_10 rfl rfl rfl ?_
  refine j_iconst C dX6_load_11 rfl ?_
  refine j_sipush C dX6_load_12 rfl (by decide) ?_
  by_cases hsp : 1 ≤ n ∧ n ≤ 2000
  · refine j_callS (st' := []) (As := [vi (n), vi (1), vi (2000)]) C dX6_load_15 rfl m_X6_51 rfl rfl (c_crG (kL κ) hfl (kD κ) (kc κ) σ n 1 2000 hn9 ⟨by omega, by omega⟩ hsp) rfl (by omega) (by omega) (by omega) (fun _ _ hx => hx.elim) (fun v5 τ4 hp6 => ?_)
    obtain ⟨rfl, hs9⟩ := hp6
    replace hs9 := hs9.symm
    subst hs9
    show J κ σ [(0, .ref (ad 0)), (1, vi ((i : Int))), (2, vi (n)), (3, vi (x)), (4, vi (f)), (5, .ref (bq ad 100 i 0))] 18 [] _ _
    refine j_iload_n 3 C dX6_load_18 rfl rfl rfl ?_
    refine j_iload 4 C dX6_load_19 rfl rfl ?_
    refine j_callS (st' := []) (As := [vi (x), vi (f)]) C dX6_load_21 rfl m_X6_83 rfl rfl (c_cgB (kL κ) hfl (kD κ) (kc κ) σ x f hx8 hf8 (fun q => h ⟨hsp, q⟩)) rfl (by omega) (by omega) (by omega) (fun E9 σ9 hx => jx_out C E NH (by omega) (by omega) hx) (fun v8 τ7 hp9 => ?_)
    exact hp9.elim
  · refine j_callS (st' := []) (As := [vi (n), vi (1), vi (2000)]) C dX6_load_15 rfl m_X6_51 rfl rfl (c_crB (kL κ) hfl (kD κ) (kc κ) σ n 1 2000 hn9 ⟨by omega, by omega⟩ (by omega)) rfl (by omega) (by omega) (by omega) (fun E9 σ9 hx => jx_out C E NH (by omega) (by omega) hx) (fun v11 τ10 hp12 => ?_)
    exact hp12.elim
set_option maxHeartbeats 4000000 in
set_option maxRecDepth 20000 in
theorem c_loadB2 (l : Launch) (hfl : l.stackTraces = false) (D : va_G) (cy : Nat → Nat) (σ : Wd) (tg ad : Nat → Nat) (bs : List Bn) (ru : Nat → Int × Int) (se : Int) (pf : Nat → Int) (hd : Hd) (ca : Int) (evs : List Evt) (ln : List Int) (hX0 : RX cy σ tg ad bs ru se pf hd ca evs ln) (i : Nat) (hi : i < bs.length) (n x f : Int) (hn9 : (-2147483648 ≤ n ∧ n < 2147483648)) (hx8 : (-2147483648 ≤ x ∧ x < 2147483648)) (hf8 : (-2147483648 ≤ f ∧ f < 2147483648)) (h : ((1 ≤ n ∧ n ≤ 2000) ∧ (80 ≤ x ∧ x ≤ 300) ∧ (0 ≤ f ∧ f ≤ 100))) (hbad : ¬ (n ≤ (gB bs i).1 - tot (gB bs i).2.2 ∧ evs.length < 80)) : Ct l yX6_load cX6_load 7 (some .int) 7 1 6 D cy [.ref (ad 0), vi ((i : Int)), vi (n), vi (x), vi (f)] σ (fun v σ' => False) (fun E9 σ' => E9 = "java/lang/IllegalStateException" ∧ σ' = σ) := by
  refine ct_start (by decide +kernel) hfl rfl (fun κ e1 e2 e3 C E NH => ?_)
  subst e1 e2 e3
  have C : Cx κ cX6_load 7 RX6 "load" 7 := C
  obtain ⟨-, -, -, -, hc, hs⟩ := id E
  show J κ σ [(0, .ref (ad 0)), (1, vi ((i : Int))), (2, vi (n)), (3, vi (x)), (4, vi (f))] 0 [] 0 0
  have hXX := hX0
  obtain ⟨⟨x1, x2⟩, hB, ⟨bsA, hA, hAe⟩, hEv, hX, hO⟩ := hXX
  obtain ⟨⟨hR, t7, t8, t9⟩, ⟨hPr, t10⟩, ⟨hH, t11, t12⟩, cap0, hSb, t13, t14⟩ := id hX
  have hL1 := hB.1.1
  have hL5 := hEv.1.1
  have hbl := bins_len ad 100 bs.length
  have hel9 := evl_len ad evs.length
  have h6 := hB.2.1
  obtain ⟨⟨hc1, hc2⟩, hc3, hc4⟩ := hO.2.2.2.1
  have hev80 := hO.2.2.1.2
  have hpr := hO.2.2.2.2.1
  have hRo := hR.1
  have hHo := hH.1
  obtain ⟨ml0, g0, hSc, -⟩ := id hSb
  have hSo := hSc.1
  have hTb := totB_in hO.2.1
  obtain ⟨m91, hl91, -⟩ := id hL1
  obtain ⟨m92, hl92, -⟩ := id hL5
  obtain ⟨⟨cap, mf, ly⟩, hg7⟩ : ∃ z, gB bs (i : Int) = z := ⟨_, rfl⟩
  have hb7 := hB.at hi hg7
  have hbk7 := hO.2.1 _ (gB_mem (bs := bs) (i := (i : Int)) (by omega) (by omega))
  rw [hg7] at hbk7
  obtain ⟨hcp7, hly7, htc7⟩ := hbk7
  dsimp only at hcp7 hly7 htc7
  have ht07 := tot_0 hly7
  obtain ⟨old7, ga7, gb7, gc7, gd7, ⟨hh7, -, -⟩, -, hcn7, -, hok7⟩ := id hb7
  dsimp only at hh7 hcn7 hok7
  rw [hg7] at hbad
  dsimp only at hbad
  obtain ⟨hn, hx9, hf9⟩ := h
  refine j_aload_n 0 C dX6_load_0 rfl rfl rfl ?_
  refine j_get C dX6_load_1 rfl fg_X6_12 x1 rfl ?_
  refine j_iload_n 1 C dX6_load_4 rfl rfl rfl ?_
  refine j_callS (st' := []) (As := [.ref (ad 1), vi ((i : Int))]) C dX6_load_5 rfl m_X6_75 rfl rfl (c_biG (kL κ) hfl (kD κ) (kc κ) σ (ad 1) (ad 2) _ hL1 i _ (bins_at hi) _ hh7) rfl (by omega) (by omega) (by omega) (fun _ _ hx => hx.elim) (fun v2 τ1 hp3 => ?_)
  obtain ⟨rfl, hs9⟩ := hp3
  replace hs9 := hs9.symm
  subst hs9
  show J κ σ [(0, .ref (ad 0)), (1, vi ((i : Int))), (2, vi (n)), (3, vi (x)), (4, vi (f))] 8 [.ref (bq ad 100 i 0)] _ _
  refine j_astore (lv' := [(0, .ref (ad 0)), (1, vi ((i : Int))), (2, vi (n)), (3, vi (x)), (4, vi (f)), (5, .ref (bq ad 100 i 0))]) [1, 2, 3, 4, 5, 0] C dX6_load_8 rfl rfl rfl ?_
  refine j_iload_n 2 C dX6_load_10 rfl rfl rfl ?_
  refine j_iconst C dX6_load_11 rfl ?_
  refine j_sipush C dX6_load_12 rfl (by decide) ?_
  refine j_callS (st' := []) (As := [vi (n), vi (1), vi (2000)]) C dX6_load_15 rfl m_X6_51 rfl rfl (c_crG (kL κ) hfl (kD κ) (kc κ) σ n 1 2000 hn9 ⟨by omega, by omega⟩ hn) rfl (by omega) (by omega) (by omega) (fun _ _ hx => hx.elim) (fun v5 τ4 hp6 => ?_)
  obtain ⟨rfl, hs9⟩ := hp6
  replace hs9 := hs9.symm
  subst hs9
  show J κ σ [(0, .ref (ad 0)), (1, vi ((i : Int))), (2, vi (n)), (3, vi (x)), (4, vi (f)), (5, .ref (bq ad 100 i 0))] 18 [] _ _
  refine j_iload_n 3 C dX6_load_18 rfl rfl rfl ?_
  refine j_iload 4 C dX6_load_19 rfl rfl ?_
  refine j_callS (st' := []) (As := [vi (x), vi (f)]) C dX6_load_21 rfl m_X6_83 rfl rfl (c_cgG (kL κ) hfl (kD κ) (kc κ) σ x f hx8 hf8 ⟨hx9, hf9⟩) rfl (by omega) (by omega) (by omega) (fun _ _ hx => hx.elim) (fun v8 τ7 hp9 => ?_)
  obtain ⟨rfl, hs9⟩ := hp9
  replace hs9 := hs9.symm
  subst hs9
  show J κ σ [(0, .ref (ad 0)), (1, vi ((i : Int))), (2, vi (n)), (3, vi (x)), (4, vi (f)), (5, .ref (bq ad 100 i 0))] 24 [] _ _
  refine j_aload 5 C dX6_load_24 rfl rfl ?_
  refine j_iload_n 2 C dX6_load_26 rfl rfl rfl ?_
  by_cases hsp : n ≤ cap - tot ly
  · refine j_callS (st' := []) (As := [.ref (bq ad 100 i 0), vi (n)]) C dX6_load_27 rfl m_X6_98 rfl rfl (c_croG (kL κ) hfl (kD κ) (kc κ) σ (bq ad 100 i 0) (bq ad 100 i 1) (bq ad 100 i 2) (bq ad 100 i 3) (bq ad 100 i 4) cap old7 ly.length (tot ly) (b01 mf) hh7 n ⟨⟨by omega, by omega⟩, ⟨by omega, by omega⟩, ⟨by omega, by omega⟩⟩ ⟨by omega, by omega⟩ hsp) rfl (by omega) (by omega) (by omega) (fun _ _ hx => hx.elim) (fun v11 τ10 hp12 => ?_)
    obtain ⟨rfl, hs9⟩ := hp12
    replace hs9 := hs9.symm
    subst hs9
    show J κ σ [(0, .ref (ad 0)), (1, vi ((i : Int))), (2, vi (n)), (3, vi (x)), (4, vi (f)), (5, .ref (bq ad 100 i 0))] 30 [] _ _
    refine j_aload_n 0 C dX6_load_30 rfl rfl rfl ?_
    refine j_callV (st' := []) (As := []) C dX6_load_31 rfl m_X6_102 x1 rfl rfl rfl (c_ceB (kL κ) hfl (kD κ) (kc κ) σ (ad 0) (ad 1) (ad 3) (ad 5) (ad 7) (ad 10) (ad 11) (ad 13) ca x1 (ad 6) _ hL5 ⟨by rw [hel9]; omega, by rw [hel9]; omega⟩) rfl (by omega) (by omega) (by omega) (fun E9 σ9 hx => jx_out C E NH (by omega) (by omega) hx) (fun v14 τ13 hp15 => ?_)
    exact hp15.elim
  · refine j_callS (st' := []) (As := [.ref (bq ad 100 i 0), vi (n)]) C dX6_load_27 rfl m_X6_98 rfl rfl (c_croB (kL κ) hfl (kD κ) (kc κ) σ (bq ad 100 i 0) (bq ad 100 i 1) (bq ad 100 i 2) (bq ad 100 i 3) (bq ad 100 i 4) cap old7 ly.length (tot ly) (b01 mf) hh7 n ⟨⟨by omega, by omega⟩, ⟨by omega, by omega⟩, ⟨by omega, by omega⟩⟩ ⟨by omega, by omega⟩ (by omega)) rfl (by omega) (by omega) (by omega) (fun E9 σ9 hx => jx_out C E NH (by omega) (by omega) hx) (fun v17 τ16 hp18 => ?_)
    exact hp18.elim
set_option maxHeartbeats 4000000 in
set_option maxRecDepth 20000 in
theorem c_sellB0 (l : Launch) (hfl : l.stackTraces = false) (D : va_G) (cy : Nat → Nat) (σ : Wd) (tg ad : Nat → Nat) (bs : List Bn) (ru : Nat → Int × Int) (se : Int) (pf : Nat → Int) (hd : Hd) (ca : Int) (evs : List Evt) (ln : List Int) (hX0 : RX cy σ tg ad bs ru se pf hd ca evs ln) (b : Int) (hb9 : (-2147483648 ≤ b ∧ b < 2147483648)) (hbad : b < 0 ∨ (bs.length : Int) ≤ b) (n : Int) (hn9 : (-2147483648 ≤ n ∧ n < 2147483648)) : Ct l yX6_sell cX6_sell 6 (some .int) 7 1 6 D cy [.ref (ad 0), vi (b), vi (n)] σ (fun v σ' => False) (fun E9 σ' => E9 = "java/lang/IndexOutOfBoundsException" ∧ σ' = σ) := by
  refine ct_start (by decide +kernel) hfl rfl (fun κ e1 e2 e3 C E NH => ?_)
  subst e1 e2 e3
  have C : Cx κ cX6_sell 6 RX6 "sell" 7 := C
  obtain ⟨-, -, -, -, hc, hs⟩ := id E
  show J κ σ [(0, .ref (ad 0)), (1, vi (b)), (2, vi (n))] 0 [] 0 0
  have hXX := hX0
  obtain ⟨⟨x1, x2⟩, hB, ⟨bsA, hA, hAe⟩, hEv, hX, hO⟩ := hXX
  obtain ⟨⟨hR, t7, t8, t9⟩, ⟨hPr, t10⟩, ⟨hH, t11, t12⟩, cap0, hSb, t13, t14⟩ := id hX
  have hL1 := hB.1.1
  have hL5 := hEv.1.1
  have hbl := bins_len ad 100 bs.length
  have hel9 := evl_len ad evs.length
  have h6 := hB.2.1
  obtain ⟨⟨hc1, hc2⟩, hc3, hc4⟩ := hO.2.2.2.1
  have hev80 := hO.2.2.1.2
  have hpr := hO.2.2.2.2.1
  have hRo := hR.1
  have hHo := hH.1
  obtain ⟨ml0, g0, hSc, -⟩ := id hSb
  have hSo := hSc.1
  have hTb := totB_in hO.2.1
  obtain ⟨m91, hl91, -⟩ := id hL1
  obtain ⟨m92, hl92, -⟩ := id hL5
  refine j_aload_n 0 C dX6_sell_0 rfl rfl rfl ?_
  refine j_get C dX6_sell_1 rfl fg_X6_12 x1 rfl ?_
  refine j_iload_n 1 C dX6_sell_4 rfl rfl rfl ?_
  refine j_callS (st' := []) (As := [.ref (ad 1), vi (b)]) C dX6_sell_5 rfl m_X6_75 rfl rfl (c_biB (kL κ) hfl (kD κ) (kc κ) σ (ad 1) (ad 2) _ hL1 b hb9 (by rw [hbl]; exact hbad)) rfl (by omega) (by omega) (by omega) (fun E9 σ9 hx => jx_out C E NH (by omega) (by omega) hx) (fun v2 τ1 hp3 => ?_)
  exact hp3.elim
set_option maxHeartbeats 4000000 in
set_option maxRecDepth 20000 in
theorem c_sellB1 (l : Launch) (hfl : l.stackTraces = false) (D : va_G) (cy : Nat → Nat) (σ : Wd) (tg ad : Nat → Nat) (bs : List Bn) (ru : Nat → Int × Int) (se : Int) (pf : Nat → Int) (hd : Hd) (ca : Int) (evs : List Evt) (ln : List Int) (hX0 : RX cy σ tg ad bs ru se pf hd ca evs ln) (i : Nat) (hi : i < bs.length) (n : Int) (hn9 : (-2147483648 ≤ n ∧ n < 2147483648)) (h : n < 1 ∨ 5000 < n) : Ct l yX6_sell cX6_sell 6 (some .int) 7 1 6 D cy [.ref (ad 0), vi ((i : Int)), vi (n)] σ (fun v σ' => False) (fun E9 σ' => E9 = "java/lang/IllegalArgumentException" ∧ σ' = σ) := by
  refine ct_start (by decide +kernel) hfl rfl (fun κ e1 e2 e3 C E NH => ?_)
  subst e1 e2 e3
  have C : Cx κ cX6_sell 6 RX6 "sell" 7 := C
  obtain ⟨-, -, -, -, hc, hs⟩ := id E
  show J κ σ [(0, .ref (ad 0)), (1, vi ((i : Int))), (2, vi (n))] 0 [] 0 0
  have hXX := hX0
  obtain ⟨⟨x1, x2⟩, hB, ⟨bsA, hA, hAe⟩, hEv, hX, hO⟩ := hXX
  obtain ⟨⟨hR, t7, t8, t9⟩, ⟨hPr, t10⟩, ⟨hH, t11, t12⟩, cap0, hSb, t13, t14⟩ := id hX
  have hL1 := hB.1.1
  have hL5 := hEv.1.1
  have hbl := bins_len ad 100 bs.length
  have hel9 := evl_len ad evs.length
  have h6 := hB.2.1
  obtain ⟨⟨hc1, hc2⟩, hc3, hc4⟩ := hO.2.2.2.1
  have hev80 := hO.2.2.1.2
  have hpr := hO.2.2.2.2.1
  have hRo := hR.1
  have hHo := hH.1
  obtain ⟨ml0, g0, hSc, -⟩ := id hSb
  have hSo := hSc.1
  have hTb := totB_in hO.2.1
  obtain ⟨m91, hl91, -⟩ := id hL1
  obtain ⟨m92, hl92, -⟩ := id hL5
  obtain ⟨⟨cap, mf, ly⟩, hg7⟩ : ∃ z, gB bs (i : Int) = z := ⟨_, rfl⟩
  have hb7 := hB.at hi hg7
  have hbk7 := hO.2.1 _ (gB_mem (bs := bs) (i := (i : Int)) (by omega) (by omega))
  rw [hg7] at hbk7
  obtain ⟨hcp7, hly7, htc7⟩ := hbk7
  dsimp only at hcp7 hly7 htc7
  have ht07 := tot_0 hly7
  obtain ⟨old7, ga7, gb7, gc7, gd7, ⟨hh7, -, -⟩, -, hcn7, -, hok7⟩ := id hb7
  dsimp only at hh7 hcn7 hok7
  refine j_aload_n 0 C dX6_sell_0 rfl rfl rfl ?_
  refine j_get C dX6_sell_1 rfl fg_X6_12 x1 rfl ?_
  refine j_iload_n 1 C dX6_sell_4 rfl rfl rfl ?_
  refine j_callS (st' := []) (As := [.ref (ad 1), vi ((i : Int))]) C dX6_sell_5 rfl m_X6_75 rfl rfl (c_biG (kL κ) hfl (kD κ) (kc κ) σ (ad 1) (ad 2) _ hL1 i _ (bins_at hi) _ hh7) rfl (by omega) (by omega) (by omega) (fun _ _ hx => hx.elim) (fun v2 τ1 hp3 => ?_)
  obtain ⟨rfl, hs9⟩ := hp3
  replace hs9 := hs9.symm
  subst hs9
  show J κ σ [(0, .ref (ad 0)), (1, vi ((i : Int))), (2, vi (n))] 8 [.ref (bq ad 100 i 0)] _ _
  refine j_astore_n (lv' := [(0, .ref (ad 0)), (1, vi ((i : Int))), (2, vi (n)), (3, .ref (bq ad 100 i 0))]) [1, 2, 3, 0] C dX6_sell_8 rfl rfl rfl rfl ?_
  refine j_iload_n 2 C dX6_sell_9 rfl rfl rfl ?_
  refine j_iconst C dX6_sell_10 rfl ?_
  refine j_sipush C dX6_sell_11 rfl (by decide) ?_
  refine j_callS (st' := []) (As := [vi (n), vi (1), vi (5000)]) C dX6_sell_14 rfl m_X6_51 rfl rfl (c_crB (kL κ) hfl (kD κ) (kc κ) σ n 1 5000 hn9 ⟨by omega, by omega⟩ h) rfl (by omega) (by omega) (by omega) (fun E9 σ9 hx => jx_out C E NH (by omega) (by omega) hx) (fun v5 τ4 hp6 => ?_)
  exact hp6.elim
set_option maxHeartbeats 4000000 in
set_option maxRecDepth 20000 in
theorem c_sellB2 (l : Launch) (hfl : l.stackTraces = false) (D : va_G) (cy : Nat → Nat) (σ : Wd) (tg ad : Nat → Nat) (bs : List Bn) (ru : Nat → Int × Int) (se : Int) (pf : Nat → Int) (hd : Hd) (ca : Int) (evs : List Evt) (ln : List Int) (hX0 : RX cy σ tg ad bs ru se pf hd ca evs ln) (i : Nat) (hi : i < bs.length) (n : Int) (hn9 : (-2147483648 ≤ n ∧ n < 2147483648)) (h : 1 ≤ n ∧ n ≤ 5000) (hbad : ¬ (n ≤ tot (gB bs i).2.2 ∧ evs.length < 80)) : Ct l yX6_sell cX6_sell 6 (some .int) 7 1 6 D cy [.ref (ad 0), vi ((i : Int)), vi (n)] σ (fun v σ' => False) (fun E9 σ' => E9 = "java/lang/IllegalStateException" ∧ σ' = σ) := by
  refine ct_start (by decide +kernel) hfl rfl (fun κ e1 e2 e3 C E NH => ?_)
  subst e1 e2 e3
  have C : Cx κ cX6_sell 6 RX6 "sell" 7 := C
  obtain ⟨-, -, -, -, hc, hs⟩ := id E
  show J κ σ [(0, .ref (ad 0)), (1, vi ((i : Int))), (2, vi (n))] 0 [] 0 0
  have hXX := hX0
  obtain ⟨⟨x1, x2⟩, hB, ⟨bsA, hA, hAe⟩, hEv, hX, hO⟩ := hXX
  obtain ⟨⟨hR, t7, t8, t9⟩, ⟨hPr, t10⟩, ⟨hH, t11, t12⟩, cap0, hSb, t13, t14⟩ := id hX
  have hL1 := hB.1.1
  have hL5 := hEv.1.1
  have hbl := bins_len ad 100 bs.length
  have hel9 := evl_len ad evs.length
  have h6 := hB.2.1
  obtain ⟨⟨hc1, hc2⟩, hc3, hc4⟩ := hO.2.2.2.1
  have hev80 := hO.2.2.1.2
  have hpr := hO.2.2.2.2.1
  have hRo := hR.1
  have hHo := hH.1
  obtain ⟨ml0, g0, hSc, -⟩ := id hSb
  have hSo := hSc.1
  have hTb := totB_in hO.2.1
  obtain ⟨m91, hl91, -⟩ := id hL1
  obtain ⟨m92, hl92, -⟩ := id hL5
  obtain ⟨⟨cap, mf, ly⟩, hg7⟩ : ∃ z, gB bs (i : Int) = z := ⟨_, rfl⟩
  have hb7 := hB.at hi hg7
  have hbk7 := hO.2.1 _ (gB_mem (bs := bs) (i := (i : Int)) (by omega) (by omega))
  rw [hg7] at hbk7
  obtain ⟨hcp7, hly7, htc7⟩ := hbk7
  dsimp only at hcp7 hly7 htc7
  have ht07 := tot_0 hly7
  obtain ⟨old7, ga7, gb7, gc7, gd7, ⟨hh7, -, -⟩, -, hcn7, -, hok7⟩ := id hb7
  dsimp only at hh7 hcn7 hok7
  rw [hg7] at hbad
  dsimp only at hbad
  refine j_aload_n 0 C dX6_sell_0 rfl rfl rfl ?_
  refine j_get C dX6_sell_1 rfl fg_X6_12 x1 rfl ?_
  refine j_iload_n 1 C dX6_sell_4 rfl rfl rfl ?_
  refine j_callS (st' := []) (As := [.ref (ad 1), vi ((i : Int))]) C dX6_sell_5 rfl m_X6_75 rfl rfl (c_biG (kL κ) hfl (kD κ) (kc κ) σ (ad 1) (ad 2) _ hL1 i _ (bins_at hi) _ hh7) rfl (by omega) (by omega) (by omega) (fun _ _ hx => hx.elim) (fun v2 τ1 hp3 => ?_)
  obtain ⟨rfl, hs9⟩ := hp3
  replace hs9 := hs9.symm
  subst hs9
  show J κ σ [(0, .ref (ad 0)), (1, vi ((i : Int))), (2, vi (n))] 8 [.ref (bq ad 100 i 0)] _ _
  refine j_astore_n (lv' := [(0, .ref (ad 0)), (1, vi ((i : Int))), (2, vi (n)), (3, .ref (bq ad 100 i 0))]) [1, 2, 3, 0] C dX6_sell_8 rfl rfl rfl rfl ?_
  refine j_iload_n 2 C dX6_sell_9 rfl rfl rfl ?_
  refine j_iconst C dX6_sell_10 rfl ?_
  refine j_sipush C dX6_sell_11 rfl (by decide) ?_
  refine j_callS (st' := []) (As := [vi (n), vi (1), vi (5000)]) C dX6_sell_14 rfl m_X6_51 rfl rfl (c_crG (kL κ) hfl (kD κ) (kc κ) σ n 1 5000 hn9 ⟨by omega, by omega⟩ h) rfl (by omega) (by omega) (by omega) (fun _ _ hx => hx.elim) (fun v5 τ4 hp6 => ?_)
  obtain ⟨rfl, hs9⟩ := hp6
  replace hs9 := hs9.symm
  subst hs9
  show J κ σ [(0, .ref (ad 0)), (1, vi ((i : Int))), (2, vi (n)), (3, .ref (bq ad 100 i 0))] 17 [] _ _
  refine j_aload_n 3 C dX6_sell_17 rfl rfl rfl ?_
  refine j_iload_n 2 C dX6_sell_18 rfl rfl rfl ?_
  by_cases hsp : n ≤ tot ly
  · refine j_callS (st' := []) (As := [.ref (bq ad 100 i 0), vi (n)]) C dX6_sell_19 rfl m_X6_115 rfl rfl (c_csG (kL κ) hfl (kD κ) (kc κ) σ (bq ad 100 i 0) (bq ad 100 i 1) (bq ad 100 i 2) (bq ad 100 i 3) (bq ad 100 i 4) cap old7 ly.length (tot ly) (b01 mf) hh7 n ⟨⟨by omega, by omega⟩, ⟨by omega, by omega⟩, ⟨by omega, by omega⟩⟩ ⟨by omega, by omega⟩ hsp) rfl (by omega) (by omega) (by omega) (fun _ _ hx => hx.elim) (fun v8 τ7 hp9 => ?_)
    obtain ⟨rfl, hs9⟩ := hp9
    replace hs9 := hs9.symm
    subst hs9
    show J κ σ [(0, .ref (ad 0)), (1, vi ((i : Int))), (2, vi (n)), (3, .ref (bq ad 100 i 0))] 22 [] _ _
    refine j_aload_n 0 C dX6_sell_22 rfl rfl rfl ?_
    refine j_callV (st' := []) (As := []) C dX6_sell_23 rfl m_X6_102 x1 rfl rfl rfl (c_ceB (kL κ) hfl (kD κ) (kc κ) σ (ad 0) (ad 1) (ad 3) (ad 5) (ad 7) (ad 10) (ad 11) (ad 13) ca x1 (ad 6) _ hL5 ⟨by rw [hel9]; omega, by rw [hel9]; omega⟩) rfl (by omega) (by omega) (by omega) (fun E9 σ9 hx => jx_out C E NH (by omega) (by omega) hx) (fun v11 τ10 hp12 => ?_)
    exact hp12.elim
  · refine j_callS (st' := []) (As := [.ref (bq ad 100 i 0), vi (n)]) C dX6_sell_19 rfl m_X6_115 rfl rfl (c_csB (kL κ) hfl (kD κ) (kc κ) σ (bq ad 100 i 0) (bq ad 100 i 1) (bq ad 100 i 2) (bq ad 100 i 3) (bq ad 100 i 4) cap old7 ly.length (tot ly) (b01 mf) hh7 n ⟨⟨by omega, by omega⟩, ⟨by omega, by omega⟩, ⟨by omega, by omega⟩⟩ ⟨by omega, by omega⟩ (by omega)) rfl (by omega) (by omega) (by omega) (fun E9 σ9 hx => jx_out C E NH (by omega) (by omega) hx) (fun v14 τ13 hp15 => ?_)
    exact hp15.elim
set_option maxHeartbeats 4000000 in
set_option maxRecDepth 20000 in
theorem c_transferB0 (l : Launch) (hfl : l.stackTraces = false) (D : va_G) (cy : Nat → Nat) (σ : Wd) (tg ad : Nat → Nat) (bs : List Bn) (ru : Nat → Int × Int) (se : Int) (pf : Nat → Int) (hd : Hd) (ca : Int) (evs : List Evt) (ln : List Int) (hX0 : RX cy σ tg ad bs ru se pf hd ca evs ln) (a b : Int) (ha9 : (-2147483648 ≤ a ∧ a < 2147483648)) (hb9 : (-2147483648 ≤ b ∧ b < 2147483648)) (n : Int) (hn9 : (-2147483648 ≤ n ∧ n < 2147483648)) (h : ¬ ((0 ≤ a ∧ a < (bs.length : Int)) ∧ (0 ≤ b ∧ b < (bs.length : Int)))) : Ct l yX6_transfer cX6_transfer 7 (some .int) 7 1 6 D cy [.ref (ad 0), vi (a), vi (b), vi (n)] σ (fun v σ' => False) (fun E9 σ' => E9 = "java/lang/IndexOutOfBoundsException" ∧ σ' = σ) := by
  refine ct_start (by decide +kernel) hfl rfl (fun κ e1 e2 e3 C E NH => ?_)
  subst e1 e2 e3
  have C : Cx κ cX6_transfer 7 RX6 "transfer" 7 := C
  obtain ⟨-, -, -, -, hc, hs⟩ := id E
  show J κ σ [(0, .ref (ad 0)), (1, vi (a)), (2, vi (b)), (3, vi (n))] 0 [] 0 0
  have hXX := hX0
  obtain ⟨⟨x1, x2⟩, hB, ⟨bsA, hA, hAe⟩, hEv, hX, hO⟩ := hXX
  obtain ⟨⟨hR, t7, t8, t9⟩, ⟨hPr, t10⟩, ⟨hH, t11, t12⟩, cap0, hSb, t13, t14⟩ := id hX
  have hL1 := hB.1.1
  have hL5 := hEv.1.1
  have hbl := bins_len ad 100 bs.length
  have hel9 := evl_len ad evs.length
  have h6 := hB.2.1
  obtain ⟨⟨hc1, hc2⟩, hc3, hc4⟩ := hO.2.2.2.1
  have hev80 := hO.2.2.1.2
  have hpr := hO.2.2.2.2.1
  have hRo := hR.1
  have hHo := hH.1
  obtain ⟨ml0, g0, hSc, -⟩ := id hSb
  have hSo := hSc.1
  have hTb := totB_in hO.2.1
  obtain ⟨m91, hl91, -⟩ := id hL1
  obtain ⟨m92, hl92, -⟩ := id hL5
  refine j_aload_n 0 C dX6_transfer_0 rfl rfl rfl ?_
  refine j_get C dX6_transfer_1 rfl fg_X6_12 x1 rfl ?_
  refine j_iload_n 1 C dX6_transfer_4 rfl rfl rfl ?_
  by_cases hsp : 0 ≤ a ∧ a < (bs.length : Int)
  · obtain ⟨i, hi9⟩ : ∃ i : Nat, a = (i : Int) := ⟨a.toNat, by omega⟩
    subst hi9
    have hi : i < bs.length := by omega
    obtain ⟨⟨cap, mf, ly⟩, hg7⟩ : ∃ z, gB bs (i : Int) = z := ⟨_, rfl⟩
    have hb7 := hB.at hi hg7
    have hbk7 := hO.2.1 _ (gB_mem (bs := bs) (i := (i : Int)) (by omega) (by omega))
    rw [hg7] at hbk7
    obtain ⟨hcp7, hly7, htc7⟩ := hbk7
    dsimp only at hcp7 hly7 htc7
    have ht07 := tot_0 hly7
    obtain ⟨old7, ga7, gb7, gc7, gd7, ⟨hh7, -, -⟩, -, hcn7, -, hok7⟩ := id hb7
    dsimp only at hh7 hcn7 hok7
    refine j_callS (st' := []) (As := [.ref (ad 1), vi ((i : Int))]) C dX6_transfer_5 rfl m_X6_75 rfl rfl (c_biG (kL κ) hfl (kD κ) (kc κ) σ (ad 1) (ad 2) _ hL1 i _ (bins_at hi) _ hh7) rfl (by omega) (by omega) (by omega) (fun _ _ hx => hx.elim) (fun v2 τ1 hp3 => ?_)
    obtain ⟨rfl, hs9⟩ := hp3
    replace hs9 := hs9.symm
    subst hs9
    show J κ σ [(0, .ref (ad 0)), (1, vi ((i : Int))), (2, vi (b)), (3, vi (n))] 8 [.ref (bq ad 100 i 0)] _ _
    refine j_astore (lv' := [(0, .ref (ad 0)), (1, vi ((i : Int))), (2, vi (b)), (3, vi (n)), (4, .ref (bq ad 100 i 0))]) [1, 2, 3, 4, 0] C dX6_transfer_8 rfl rfl rfl ?_
    refine j_aload_n 0 C dX6_transfer_10 rfl rfl rfl ?_
    refine j_get C dX6_transfer_11 rfl fg_X6_12 x1 rfl ?_
    refine j_iload_n 2 C dX6_transfer_14 rfl rfl rfl ?_
    have hbad : b < 0 ∨ (bs.length : Int) ≤ b := by omega
    refine j_callS (st' := []) (As := [.ref (ad 1), vi (b)]) C dX6_transfer_15 rfl m_X6_75 rfl rfl (c_biB (kL κ) hfl (kD κ) (kc κ) σ (ad 1) (ad 2) _ hL1 b hb9 (by rw [hbl]; exact hbad)) rfl (by omega) (by omega) (by omega) (fun E9 σ9 hx => jx_out C E NH (by omega) (by omega) hx) (fun v5 τ4 hp6 => ?_)
    exact hp6.elim
  · have hb9a := ha9
    refine j_callS (st' := []) (As := [.ref (ad 1), vi (a)]) C dX6_transfer_5 rfl m_X6_75 rfl rfl (c_biB (kL κ) hfl (kD κ) (kc κ) σ (ad 1) (ad 2) _ hL1 a ha9 (by rw [hbl]; omega)) rfl (by omega) (by omega) (by omega) (fun E9 σ9 hx => jx_out C E NH (by omega) (by omega) hx) (fun v8 τ7 hp9 => ?_)
    exact hp9.elim
set_option maxHeartbeats 4000000 in
set_option maxRecDepth 20000 in
theorem c_transferB1 (l : Launch) (hfl : l.stackTraces = false) (D : va_G) (cy : Nat → Nat) (σ : Wd) (tg ad : Nat → Nat) (bs : List Bn) (ru : Nat → Int × Int) (se : Int) (pf : Nat → Int) (hd : Hd) (ca : Int) (evs : List Evt) (ln : List Int) (hX0 : RX cy σ tg ad bs ru se pf hd ca evs ln) (i : Nat) (hi : i < bs.length) (j : Nat) (hj : j < bs.length) (n : Int) (hn9 : (-2147483648 ≤ n ∧ n < 2147483648)) (h : ¬ (i ≠ j ∧ (1 ≤ n ∧ n ≤ 5000))) : Ct l yX6_transfer cX6_transfer 7 (some .int) 7 1 6 D cy [.ref (ad 0), vi ((i : Int)), vi ((j : Int)), vi (n)] σ (fun v σ' => False) (fun E9 σ' => E9 = "java/lang/IllegalArgumentException" ∧ σ' = σ) := by
  refine ct_start (by decide +kernel) hfl rfl (fun κ e1 e2 e3 C E NH => ?_)
  subst e1 e2 e3
  have C : Cx κ cX6_transfer 7 RX6 "transfer" 7 := C
  obtain ⟨-, -, -, -, hc, hs⟩ := id E
  show J κ σ [(0, .ref (ad 0)), (1, vi ((i : Int))), (2, vi ((j : Int))), (3, vi (n))] 0 [] 0 0
  have hXX := hX0
  obtain ⟨⟨x1, x2⟩, hB, ⟨bsA, hA, hAe⟩, hEv, hX, hO⟩ := hXX
  obtain ⟨⟨hR, t7, t8, t9⟩, ⟨hPr, t10⟩, ⟨hH, t11, t12⟩, cap0, hSb, t13, t14⟩ := id hX
  have hL1 := hB.1.1
  have hL5 := hEv.1.1
  have hbl := bins_len ad 100 bs.length
  have hel9 := evl_len ad evs.length
  have h6 := hB.2.1
  obtain ⟨⟨hc1, hc2⟩, hc3, hc4⟩ := hO.2.2.2.1
  have hev80 := hO.2.2.1.2
  have hpr := hO.2.2.2.2.1
  have hRo := hR.1
  have hHo := hH.1
  obtain ⟨ml0, g0, hSc, -⟩ := id hSb
  have hSo := hSc.1
  have hTb := totB_in hO.2.1
  obtain ⟨m91, hl91, -⟩ := id hL1
  obtain ⟨m92, hl92, -⟩ := id hL5
  obtain ⟨⟨cap, mf, ly⟩, hg7⟩ : ∃ z, gB bs (i : Int) = z := ⟨_, rfl⟩
  have hb7 := hB.at hi hg7
  have hbk7 := hO.2.1 _ (gB_mem (bs := bs) (i := (i : Int)) (by omega) (by omega))
  rw [hg7] at hbk7
  obtain ⟨hcp7, hly7, htc7⟩ := hbk7
  dsimp only at hcp7 hly7 htc7
  have ht07 := tot_0 hly7
  obtain ⟨old7, ga7, gb7, gc7, gd7, ⟨hh7, -, -⟩, -, hcn7, -, hok7⟩ := id hb7
  dsimp only at hh7 hcn7 hok7
  obtain ⟨⟨cap', mf', lz⟩, hg8⟩ : ∃ z, gB bs (j : Int) = z := ⟨_, rfl⟩
  have hb8 := hB.at hj hg8
  have hbk8 := hO.2.1 _ (gB_mem (bs := bs) (i := (j : Int)) (by omega) (by omega))
  rw [hg8] at hbk8
  obtain ⟨hcp8, hly8, htc8⟩ := hbk8
  dsimp only at hcp8 hly8 htc8
  have ht08 := tot_0 hly8
  obtain ⟨old8, ga8, gb8, gc8, gd8, ⟨hh8, -, -⟩, -, hcn8, -, hok8⟩ := id hb8
  dsimp only at hh8 hcn8 hok8
  refine j_aload_n 0 C dX6_transfer_0 rfl rfl rfl ?_
  refine j_get C dX6_transfer_1 rfl fg_X6_12 x1 rfl ?_
  refine j_iload_n 1 C dX6_transfer_4 rfl rfl rfl ?_
  refine j_callS (st' := []) (As := [.ref (ad 1), vi ((i : Int))]) C dX6_transfer_5 rfl m_X6_75 rfl rfl (c_biG (kL κ) hfl (kD κ) (kc κ) σ (ad 1) (ad 2) _ hL1 i _ (bins_at hi) _ hh7) rfl (by omega) (by omega) (by omega) (fun _ _ hx => hx.elim) (fun v2 τ1 hp3 => ?_)
  obtain ⟨rfl, hs9⟩ := hp3
  replace hs9 := hs9.symm
  subst hs9
  show J κ σ [(0, .ref (ad 0)), (1, vi ((i : Int))), (2, vi ((j : Int))), (3, vi (n))] 8 [.ref (bq ad 100 i 0)] _ _
  refine j_astore (lv' := [(0, .ref (ad 0)), (1, vi ((i : Int))), (2, vi ((j : Int))), (3, vi (n)), (4, .ref (bq ad 100 i 0))]) [1, 2, 3, 4, 0] C dX6_transfer_8 rfl rfl rfl ?_
  refine j_aload_n 0 C dX6_transfer_10 rfl rfl rfl ?_
  refine j_get C dX6_transfer_11 rfl fg_X6_12 x1 rfl ?_
  refine j_iload_n 2 C dX6_transfer_14 rfl rfl rfl ?_
  refine j_callS (st' := []) (As := [.ref (ad 1), vi ((j : Int))]) C dX6_transfer_15 rfl m_X6_75 rfl rfl (c_biG (kL κ) hfl (kD κ) (kc κ) σ (ad 1) (ad 2) _ hL1 j _ (bins_at hj) _ hh8) rfl (by omega) (by omega) (by omega) (fun _ _ hx => hx.elim) (fun v5 τ4 hp6 => ?_)
  obtain ⟨rfl, hs9⟩ := hp6
  replace hs9 := hs9.symm
  subst hs9
  show J κ σ [(0, .ref (ad 0)), (1, vi ((i : Int))), (2, vi ((j : Int))), (3, vi (n)), (4, .ref (bq ad 100 i 0))] 18 [.ref (bq ad 100 j 0)] _ _
  refine j_astore (lv' := [(0, .ref (ad 0)), (1, vi ((i : Int))), (2, vi ((j : Int))), (3, vi (n)), (4, .ref (bq ad 100 i 0)), (5, .ref (bq ad 100 j 0))]) [1, 2, 3, 4, 5, 0] C dX6_transfer_18 rfl rfl rfl ?_
  refine j_iload_n 1 C dX6_transfer_20 rfl rfl rfl ?_
  refine j_iload_n 2 C dX6_transfer_21 rfl rfl rfl ?_
  by_cases hsp : i = j
  · refine j_callS (st' := []) (As := [vi ((i : Int)), vi ((j : Int))]) C dX6_transfer_22 rfl m_X6_134 rfl rfl (c_cdB (kL κ) hfl (kD κ) (kc κ) σ (i : Int) (j : Int) ⟨by omega, by omega⟩ ⟨by omega, by omega⟩ (by omega)) rfl (by omega) (by omega) (by omega) (fun E9 σ9 hx => jx_out C E NH (by omega) (by omega) hx) (fun v8 τ7 hp9 => ?_)
    exact hp9.elim
  · refine j_callS (st' := []) (As := [vi ((i : Int)), vi ((j : Int))]) C dX6_transfer_22 rfl m_X6_134 rfl rfl (c_cdG (kL κ) hfl (kD κ) (kc κ) σ (i : Int) (j : Int) ⟨by omega, by omega⟩ ⟨by omega, by omega⟩ (by omega)) rfl (by omega) (by omega) (by omega) (fun _ _ hx => hx.elim) (fun v11 τ10 hp12 => ?_)
    obtain ⟨rfl, hs9⟩ := hp12
    replace hs9 := hs9.symm
    subst hs9
    show J κ σ [(0, .ref (ad 0)), (1, vi ((i : Int))), (2, vi ((j : Int))), (3, vi (n)), (4, .ref (bq ad 100 i 0)), (5, .ref (bq ad 100 j 0))] 25 [] _ _
    refine j_iload_n 3 C dX6_transfer_25 rfl rfl rfl ?_
    refine j_iconst C dX6_transfer_26 rfl ?_
    refine j_sipush C dX6_transfer_27 rfl (by decide) ?_
    refine j_callS (st' := []) (As := [vi (n), vi (1), vi (5000)]) C dX6_transfer_30 rfl m_X6_51 rfl rfl (c_crB (kL κ) hfl (kD κ) (kc κ) σ n 1 5000 hn9 ⟨by omega, by omega⟩ (by omega)) rfl (by omega) (by omega) (by omega) (fun E9 σ9 hx => jx_out C E NH (by omega) (by omega) hx) (fun v14 τ13 hp15 => ?_)
    exact hp15.elim
set_option maxHeartbeats 4000000 in
set_option maxRecDepth 20000 in
theorem c_transferB2 (l : Launch) (hfl : l.stackTraces = false) (D : va_G) (cy : Nat → Nat) (σ : Wd) (tg ad : Nat → Nat) (bs : List Bn) (ru : Nat → Int × Int) (se : Int) (pf : Nat → Int) (hd : Hd) (ca : Int) (evs : List Evt) (ln : List Int) (hX0 : RX cy σ tg ad bs ru se pf hd ca evs ln) (i : Nat) (hi : i < bs.length) (j : Nat) (hj : j < bs.length) (n : Int) (hn9 : (-2147483648 ≤ n ∧ n < 2147483648)) (h : i ≠ j ∧ (1 ≤ n ∧ n ≤ 5000)) (hbad : ¬ (n ≤ tot (gB bs i).2.2 ∧ n ≤ (gB bs j).1 - tot (gB bs j).2.2 ∧ evs.length < 80)) : Ct l yX6_transfer cX6_transfer 7 (some .int) 7 1 6 D cy [.ref (ad 0), vi ((i : Int)), vi ((j : Int)), vi (n)] σ (fun v σ' => False) (fun E9 σ' => E9 = "java/lang/IllegalStateException" ∧ σ' = σ) := by
  refine ct_start (by decide +kernel) hfl rfl (fun κ e1 e2 e3 C E NH => ?_)
  subst e1 e2 e3
  have C : Cx κ cX6_transfer 7 RX6 "transfer" 7 := C
  obtain ⟨-, -, -, -, hc, hs⟩ := id E
  show J κ σ [(0, .ref (ad 0)), (1, vi ((i : Int))), (2, vi ((j : Int))), (3, vi (n))] 0 [] 0 0
  have hXX := hX0
  obtain ⟨⟨x1, x2⟩, hB, ⟨bsA, hA, hAe⟩, hEv, hX, hO⟩ := hXX
  obtain ⟨⟨hR, t7, t8, t9⟩, ⟨hPr, t10⟩, ⟨hH, t11, t12⟩, cap0, hSb, t13, t14⟩ := id hX
  have hL1 := hB.1.1
  have hL5 := hEv.1.1
  have hbl := bins_len ad 100 bs.length
  have hel9 := evl_len ad evs.length
  have h6 := hB.2.1
  obtain ⟨⟨hc1, hc2⟩, hc3, hc4⟩ := hO.2.2.2.1
  have hev80 := hO.2.2.1.2
  have hpr := hO.2.2.2.2.1
  have hRo := hR.1
  have hHo := hH.1
  obtain ⟨ml0, g0, hSc, -⟩ := id hSb
  have hSo := hSc.1
  have hTb := totB_in hO.2.1
  obtain ⟨m91, hl91, -⟩ := id hL1
  obtain ⟨m92, hl92, -⟩ := id hL5
  obtain ⟨⟨cap, mf, ly⟩, hg7⟩ : ∃ z, gB bs (i : Int) = z := ⟨_, rfl⟩
  have hb7 := hB.at hi hg7
  have hbk7 := hO.2.1 _ (gB_mem (bs := bs) (i := (i : Int)) (by omega) (by omega))
  rw [hg7] at hbk7
  obtain ⟨hcp7, hly7, htc7⟩ := hbk7
  dsimp only at hcp7 hly7 htc7
  have ht07 := tot_0 hly7
  obtain ⟨old7, ga7, gb7, gc7, gd7, ⟨hh7, -, -⟩, -, hcn7, -, hok7⟩ := id hb7
  dsimp only at hh7 hcn7 hok7
  obtain ⟨⟨cap', mf', lz⟩, hg8⟩ : ∃ z, gB bs (j : Int) = z := ⟨_, rfl⟩
  have hb8 := hB.at hj hg8
  have hbk8 := hO.2.1 _ (gB_mem (bs := bs) (i := (j : Int)) (by omega) (by omega))
  rw [hg8] at hbk8
  obtain ⟨hcp8, hly8, htc8⟩ := hbk8
  dsimp only at hcp8 hly8 htc8
  have ht08 := tot_0 hly8
  obtain ⟨old8, ga8, gb8, gc8, gd8, ⟨hh8, -, -⟩, -, hcn8, -, hok8⟩ := id hb8
  dsimp only at hh8 hcn8 hok8
  rw [hg7, hg8] at hbad
  dsimp only at hbad
  refine j_aload_n 0 C dX6_transfer_0 rfl rfl rfl ?_
  refine j_get C dX6_transfer_1 rfl fg_X6_12 x1 rfl ?_
  refine j_iload_n 1 C dX6_transfer_4 rfl rfl rfl ?_
  refine j_callS (st' := []) (As := [.ref (ad 1), vi ((i : Int))]) C dX6_transfer_5 rfl m_X6_75 rfl rfl (c_biG (kL κ) hfl (kD κ) (kc κ) σ (ad 1) (ad 2) _ hL1 i _ (bins_at hi) _ hh7) rfl (by omega) (by omega) (by omega) (fun _ _ hx => hx.elim) (fun v2 τ1 hp3 => ?_)
  obtain ⟨rfl, hs9⟩ := hp3
  replace hs9 := hs9.symm
  subst hs9
  show J κ σ [(0, .ref (ad 0)), (1, vi ((i : Int))), (2, vi ((j : Int))), (3, vi (n))] 8 [.ref (bq ad 100 i 0)] _ _
  refine j_astore (lv' := [(0, .ref (ad 0)), (1, vi ((i : Int))), (2, vi ((j : Int))), (3, vi (n)), (4, .ref (bq ad 100 i 0))]) [1, 2, 3, 4, 0] C dX6_transfer_8 rfl rfl rfl ?_
  refine j_aload_n 0 C dX6_transfer_10 rfl rfl rfl ?_
  refine j_get C dX6_transfer_11 rfl fg_X6_12 x1 rfl ?_
  refine j_iload_n 2 C dX6_transfer_14 rfl rfl rfl ?_
  refine j_callS (st' := []) (As := [.ref (ad 1), vi ((j : Int))]) C dX6_transfer_15 rfl m_X6_75 rfl rfl (c_biG (kL κ) hfl (kD κ) (kc κ) σ (ad 1) (ad 2) _ hL1 j _ (bins_at hj) _ hh8) rfl (by omega) (by omega) (by omega) (fun _ _ hx => hx.elim) (fun v5 τ4 hp6 => ?_)
  obtain ⟨rfl, hs9⟩ := hp6
  replace hs9 := hs9.symm
  subst hs9
  show J κ σ [(0, .ref (ad 0)), (1, vi ((i : Int))), (2, vi ((j : Int))), (3, vi (n)), (4, .ref (bq ad 100 i 0))] 18 [.ref (bq ad 100 j 0)] _ _
  refine j_astore (lv' := [(0, .ref (ad 0)), (1, vi ((i : Int))), (2, vi ((j : Int))), (3, vi (n)), (4, .ref (bq ad 100 i 0)), (5, .ref (bq ad 100 j 0))]) [1, 2, 3, 4, 5, 0] C dX6_transfer_18 rfl rfl rfl ?_
  refine j_iload_n 1 C dX6_transfer_20 rfl rfl rfl ?_
  refine j_iload_n 2 C dX6_transfer_21 rfl rfl rfl ?_
  refine j_callS (st' := []) (As := [vi ((i : Int)), vi ((j : Int))]) C dX6_transfer_22 rfl m_X6_134 rfl rfl (c_cdG (kL κ) hfl (kD κ) (kc κ) σ (i : Int) (j : Int) ⟨by omega, by omega⟩ ⟨by omega, by omega⟩ (by omega)) rfl (by omega) (by omega) (by omega) (fun _ _ hx => hx.elim) (fun v8 τ7 hp9 => ?_)
  obtain ⟨rfl, hs9⟩ := hp9
  replace hs9 := hs9.symm
  subst hs9
  show J κ σ [(0, .ref (ad 0)), (1, vi ((i : Int))), (2, vi ((j : Int))), (3, vi (n)), (4, .ref (bq ad 100 i 0)), (5, .ref (bq ad 100 j 0))] 25 [] _ _
  refine j_iload_n 3 C dX6_transfer_25 rfl rfl rfl ?_
  refine j_iconst C dX6_transfer_26 rfl ?_
  refine j_sipush C dX6_transfer_27 rfl (by decide) ?_
  refine j_callS (st' := []) (As := [vi (n), vi (1), vi (5000)]) C dX6_transfer_30 rfl m_X6_51 rfl rfl (c_crG (kL κ) hfl (kD κ) (kc κ) σ n 1 5000 hn9 ⟨by omega, by omega⟩ h.2) rfl (by omega) (by omega) (by omega) (fun _ _ hx => hx.elim) (fun v11 τ10 hp12 => ?_)
  obtain ⟨rfl, hs9⟩ := hp12
  replace hs9 := hs9.symm
  subst hs9
  show J κ σ [(0, .ref (ad 0)), (1, vi ((i : Int))), (2, vi ((j : Int))), (3, vi (n)), (4, .ref (bq ad 100 i 0)), (5, .ref (bq ad 100 j 0))] 33 [] _ _
  refine j_aload 4 C dX6_transfer_33 rfl rfl ?_
  refine j_iload_n 3 C dX6_transfer_35 rfl rfl rfl ?_
  by_cases hsp : n ≤ tot ly
  · refine j_callS (st' := []) (As := [.ref (bq ad 100 i 0), vi (n)]) C dX6_transfer_36 rfl m_X6_115 rfl rfl (c_csG (kL κ) hfl (kD κ) (kc κ) σ (bq ad 100 i 0) (bq ad 100 i 1) (bq ad 100 i 2) (bq ad 100 i 3) (bq ad 100 i 4) cap old7 ly.length (tot ly) (b01 mf) hh7 n ⟨⟨by omega, by omega⟩, ⟨by omega, by omega⟩, ⟨by omega, by omega⟩⟩ ⟨by omega, by omega⟩ hsp) rfl (by omega) (by omega) (by omega) (fun _ _ hx => hx.elim) (fun v17 τ16 hp18 => ?_)
    obtain ⟨rfl, hs9⟩ := hp18
    replace hs9 := hs9.symm
    subst hs9
    show J κ σ [(0, .ref (ad 0)), (1, vi ((i : Int))), (2, vi ((j : Int))), (3, vi (n)), (4, .ref (bq ad 100 i 0)), (5, .ref (bq ad 100 j 0))] 39 [] _ _
    refine j_aload 5 C dX6_transfer_39 rfl rfl ?_
    refine j_iload_n 3 C dX6_transfer_41 rfl rfl rfl ?_
    by_cases hsp2 : n ≤ cap' - tot lz
    · refine j_callS (st' := []) (As := [.ref (bq ad 100 j 0), vi (n)]) C dX6_transfer_42 rfl m_X6_98 rfl rfl (c_croG (kL κ) hfl (kD κ) (kc κ) σ (bq ad 100 j 0) (bq ad 100 j 1) (bq ad 100 j 2) (bq ad 100 j 3) (bq ad 100 j 4) cap' old8 lz.length (tot lz) (b01 mf') hh8 n ⟨⟨by omega, by omega⟩, ⟨by omega, by omega⟩, ⟨by omega, by omega⟩⟩ ⟨by omega, by omega⟩ hsp2) rfl (by omega) (by omega) (by omega) (fun _ _ hx => hx.elim) (fun v20 τ19 hp21 => ?_)
      obtain ⟨rfl, hs9⟩ := hp21
      replace hs9 := hs9.symm
      subst hs9
      show J κ σ [(0, .ref (ad 0)), (1, vi ((i : Int))), (2, vi ((j : Int))), (3, vi (n)), (4, .ref (bq ad 100 i 0)), (5, .ref (bq ad 100 j 0))] 45 [] _ _
      refine j_aload_n 0 C dX6_transfer_45 rfl rfl rfl ?_
      refine j_callV (st' := []) (As := []) C dX6_transfer_46 rfl m_X6_102 x1 rfl rfl rfl (c_ceB (kL κ) hfl (kD κ) (kc κ) σ (ad 0) (ad 1) (ad 3) (ad 5) (ad 7) (ad 10) (ad 11) (ad 13) ca x1 (ad 6) _ hL5 ⟨by rw [hel9]; omega, by rw [hel9]; omega⟩) rfl (by omega) (by omega) (by omega) (fun E9 σ9 hx => jx_out C E NH (by omega) (by omega) hx) (fun v23 τ22 hp24 => ?_)
      exact hp24.elim
    · refine j_callS (st' := []) (As := [.ref (bq ad 100 j 0), vi (n)]) C dX6_transfer_42 rfl m_X6_98 rfl rfl (c_croB (kL κ) hfl (kD κ) (kc κ) σ (bq ad 100 j 0) (bq ad 100 j 1) (bq ad 100 j 2) (bq ad 100 j 3) (bq ad 100 j 4) cap' old8 lz.length (tot lz) (b01 mf') hh8 n ⟨⟨by omega, by omega⟩, ⟨by omega, by omega⟩, ⟨by omega, by omega⟩⟩ ⟨by omega, by omega⟩ (by omega)) rfl (by omega) (by omega) (by omega) (fun E9 σ9 hx => jx_out C E NH (by omega) (by omega) hx) (fun v26 τ25 hp27 => ?_)
      exact hp27.elim
  · refine j_callS (st' := []) (As := [.ref (bq ad 100 i 0), vi (n)]) C dX6_transfer_36 rfl m_X6_115 rfl rfl (c_csB (kL κ) hfl (kD κ) (kc κ) σ (bq ad 100 i 0) (bq ad 100 i 1) (bq ad 100 i 2) (bq ad 100 i 3) (bq ad 100 i 4) cap old7 ly.length (tot ly) (b01 mf) hh7 n ⟨⟨by omega, by omega⟩, ⟨by omega, by omega⟩, ⟨by omega, by omega⟩⟩ ⟨by omega, by omega⟩ (by omega)) rfl (by omega) (by omega) (by omega) (fun E9 σ9 hx => jx_out C E NH (by omega) (by omega) hx) (fun v14 τ13 hp15 => ?_)
    exact hp15.elim
set_option maxHeartbeats 4000000 in
set_option maxRecDepth 20000 in
theorem c_dryB0 (l : Launch) (hfl : l.stackTraces = false) (D : va_G) (cy : Nat → Nat) (σ : Wd) (tg ad : Nat → Nat) (bs : List Bn) (ru : Nat → Int × Int) (se : Int) (pf : Nat → Int) (hd : Hd) (ca : Int) (evs : List Evt) (ln : List Int) (hX0 : RX cy σ tg ad bs ru se pf hd ca evs ln) (b : Int) (hb9 : (-2147483648 ≤ b ∧ b < 2147483648)) (hbad : b < 0 ∨ (bs.length : Int) ≤ b) (x : Int) (hx8 : (-2147483648 ≤ x ∧ x < 2147483648)) : Ct l yX6_dry cX6_dry 5 (some .int) 7 1 6 D cy [.ref (ad 0), vi (b), vi (x)] σ (fun v σ' => False) (fun E9 σ' => E9 = "java/lang/IndexOutOfBoundsException" ∧ σ' = σ) := by
  refine ct_start (by decide +kernel) hfl rfl (fun κ e1 e2 e3 C E NH => ?_)
  subst e1 e2 e3
  have C : Cx κ cX6_dry 5 RX6 "dry" 7 := C
  obtain ⟨-, -, -, -, hc, hs⟩ := id E
  show J κ σ [(0, .ref (ad 0)), (1, vi (b)), (2, vi (x))] 0 [] 0 0
  have hXX := hX0
  obtain ⟨⟨x1, x2⟩, hB, ⟨bsA, hA, hAe⟩, hEv, hX, hO⟩ := hXX
  obtain ⟨⟨hR, t7, t8, t9⟩, ⟨hPr, t10⟩, ⟨hH, t11, t12⟩, cap0, hSb, t13, t14⟩ := id hX
  have hL1 := hB.1.1
  have hL5 := hEv.1.1
  have hbl := bins_len ad 100 bs.length
  have hel9 := evl_len ad evs.length
  have h6 := hB.2.1
  obtain ⟨⟨hc1, hc2⟩, hc3, hc4⟩ := hO.2.2.2.1
  have hev80 := hO.2.2.1.2
  have hpr := hO.2.2.2.2.1
  have hRo := hR.1
  have hHo := hH.1
  obtain ⟨ml0, g0, hSc, -⟩ := id hSb
  have hSo := hSc.1
  have hTb := totB_in hO.2.1
  obtain ⟨m91, hl91, -⟩ := id hL1
  obtain ⟨m92, hl92, -⟩ := id hL5
  refine j_aload_n 0 C dX6_dry_0 rfl rfl rfl ?_
  refine j_get C dX6_dry_1 rfl fg_X6_12 x1 rfl ?_
  refine j_iload_n 1 C dX6_dry_4 rfl rfl rfl ?_
  refine j_callS (st' := []) (As := [.ref (ad 1), vi (b)]) C dX6_dry_5 rfl m_X6_75 rfl rfl (c_biB (kL κ) hfl (kD κ) (kc κ) σ (ad 1) (ad 2) _ hL1 b hb9 (by rw [hbl]; exact hbad)) rfl (by omega) (by omega) (by omega) (fun E9 σ9 hx => jx_out C E NH (by omega) (by omega) hx) (fun v2 τ1 hp3 => ?_)
  exact hp3.elim
set_option maxHeartbeats 4000000 in
set_option maxRecDepth 20000 in
theorem c_dryB1 (l : Launch) (hfl : l.stackTraces = false) (D : va_G) (cy : Nat → Nat) (σ : Wd) (tg ad : Nat → Nat) (bs : List Bn) (ru : Nat → Int × Int) (se : Int) (pf : Nat → Int) (hd : Hd) (ca : Int) (evs : List Evt) (ln : List Int) (hX0 : RX cy σ tg ad bs ru se pf hd ca evs ln) (i : Nat) (hi : i < bs.length) (x : Int) (hx8 : (-2147483648 ≤ x ∧ x < 2147483648)) (h : x < 80 ∨ 300 < x) : Ct l yX6_dry cX6_dry 5 (some .int) 7 1 6 D cy [.ref (ad 0), vi ((i : Int)), vi (x)] σ (fun v σ' => False) (fun E9 σ' => E9 = "java/lang/IllegalArgumentException" ∧ σ' = σ) := by
  refine ct_start (by decide +kernel) hfl rfl (fun κ e1 e2 e3 C E NH => ?_)
  subst e1 e2 e3
  have C : Cx κ cX6_dry 5 RX6 "dry" 7 := C
  obtain ⟨-, -, -, -, hc, hs⟩ := id E
  show J κ σ [(0, .ref (ad 0)), (1, vi ((i : Int))), (2, vi (x))] 0 [] 0 0
  have hXX := hX0
  obtain ⟨⟨x1, x2⟩, hB, ⟨bsA, hA, hAe⟩, hEv, hX, hO⟩ := hXX
  obtain ⟨⟨hR, t7, t8, t9⟩, ⟨hPr, t10⟩, ⟨hH, t11, t12⟩, cap0, hSb, t13, t14⟩ := id hX
  have hL1 := hB.1.1
  have hL5 := hEv.1.1
  have hbl := bins_len ad 100 bs.length
  have hel9 := evl_len ad evs.length
  have h6 := hB.2.1
  obtain ⟨⟨hc1, hc2⟩, hc3, hc4⟩ := hO.2.2.2.1
  have hev80 := hO.2.2.1.2
  have hpr := hO.2.2.2.2.1
  have hRo := hR.1
  have hHo := hH.1
  obtain ⟨ml0, g0, hSc, -⟩ := id hSb
  have hSo := hSc.1
  have hTb := totB_in hO.2.1
  obtain ⟨m91, hl91, -⟩ := id hL1
  obtain ⟨m92, hl92, -⟩ := id hL5
  obtain ⟨⟨cap, mf, ly⟩, hg7⟩ : ∃ z, gB bs (i : Int) = z := ⟨_, rfl⟩
  have hb7 := hB.at hi hg7
  have hbk7 := hO.2.1 _ (gB_mem (bs := bs) (i := (i : Int)) (by omega) (by omega))
  rw [hg7] at hbk7
  obtain ⟨hcp7, hly7, htc7⟩ := hbk7
  dsimp only at hcp7 hly7 htc7
  have ht07 := tot_0 hly7
  obtain ⟨old7, ga7, gb7, gc7, gd7, ⟨hh7, -, -⟩, -, hcn7, -, hok7⟩ := id hb7
  dsimp only at hh7 hcn7 hok7
  refine j_aload_n 0 C dX6_dry_0 rfl rfl rfl ?_
  refine j_get C dX6_dry_1 rfl fg_X6_12 x1 rfl ?_
  refine j_iload_n 1 C dX6_dry_4 rfl rfl rfl ?_
  refine j_callS (st' := []) (As := [.ref (ad 1), vi ((i : Int))]) C dX6_dry_5 rfl m_X6_75 rfl rfl (c_biG (kL κ) hfl (kD κ) (kc κ) σ (ad 1) (ad 2) _ hL1 i _ (bins_at hi) _ hh7) rfl (by omega) (by omega) (by omega) (fun _ _ hx => hx.elim) (fun v2 τ1 hp3 => ?_)
  obtain ⟨rfl, hs9⟩ := hp3
  replace hs9 := hs9.symm
  subst hs9
  show J κ σ [(0, .ref (ad 0)), (1, vi ((i : Int))), (2, vi (x))] 8 [.ref (bq ad 100 i 0)] _ _
  refine j_astore_n (lv' := [(0, .ref (ad 0)), (1, vi ((i : Int))), (2, vi (x)), (3, .ref (bq ad 100 i 0))]) [1, 2, 3, 0] C dX6_dry_8 rfl rfl rfl rfl ?_
  refine j_iload_n 2 C dX6_dry_9 rfl rfl rfl ?_
  refine j_callS (st' := []) (As := [vi (x)]) C dX6_dry_10 rfl m_X6_144 rfl rfl (c_cmB (kL κ) hfl (kD κ) (kc κ) σ x hx8 h) rfl (by omega) (by omega) (by omega) (fun E9 σ9 hx => jx_out C E NH (by omega) (by omega) hx) (fun v5 τ4 hp6 => ?_)
  exact hp6.elim
set_option maxHeartbeats 4000000 in
set_option maxRecDepth 20000 in
theorem c_dryB2 (l : Launch) (hfl : l.stackTraces = false) (D : va_G) (cy : Nat → Nat) (σ : Wd) (tg ad : Nat → Nat) (bs : List Bn) (ru : Nat → Int × Int) (se : Int) (pf : Nat → Int) (hd : Hd) (ca : Int) (evs : List Evt) (ln : List Int) (hX0 : RX cy σ tg ad bs ru se pf hd ca evs ln) (i : Nat) (hi : i < bs.length) (x : Int) (hx8 : (-2147483648 ≤ x ∧ x < 2147483648)) (h : 80 ≤ x ∧ x ≤ 300) (hbad : ¬ (¬ sumL (wetF x) (gB bs i).2.2 = 0 ∧ evs.length < 80)) : Ct l yX6_dry cX6_dry 5 (some .int) 7 1 6 D cy [.ref (ad 0), vi ((i : Int)), vi (x)] σ (fun v σ' => False) (fun E9 σ' => E9 = "java/lang/IllegalStateException" ∧ σ' = σ) := by
  refine ct_start (by decide +kernel) hfl rfl (fun κ e1 e2 e3 C E NH => ?_)
  subst e1 e2 e3
  have C : Cx κ cX6_dry 5 RX6 "dry" 7 := C
  obtain ⟨-, -, -, -, hc, hs⟩ := id E
  show J κ σ [(0, .ref (ad 0)), (1, vi ((i : Int))), (2, vi (x))] 0 [] 0 0
  have hXX := hX0
  obtain ⟨⟨x1, x2⟩, hB, ⟨bsA, hA, hAe⟩, hEv, hX, hO⟩ := hXX
  obtain ⟨⟨hR, t7, t8, t9⟩, ⟨hPr, t10⟩, ⟨hH, t11, t12⟩, cap0, hSb, t13, t14⟩ := id hX
  have hL1 := hB.1.1
  have hL5 := hEv.1.1
  have hbl := bins_len ad 100 bs.length
  have hel9 := evl_len ad evs.length
  have h6 := hB.2.1
  obtain ⟨⟨hc1, hc2⟩, hc3, hc4⟩ := hO.2.2.2.1
  have hev80 := hO.2.2.1.2
  have hpr := hO.2.2.2.2.1
  have hRo := hR.1
  have hHo := hH.1
  obtain ⟨ml0, g0, hSc, -⟩ := id hSb
  have hSo := hSc.1
  have hTb := totB_in hO.2.1
  obtain ⟨m91, hl91, -⟩ := id hL1
  obtain ⟨m92, hl92, -⟩ := id hL5
  obtain ⟨⟨cap, mf, ly⟩, hg7⟩ : ∃ z, gB bs (i : Int) = z := ⟨_, rfl⟩
  have hb7 := hB.at hi hg7
  have hbk7 := hO.2.1 _ (gB_mem (bs := bs) (i := (i : Int)) (by omega) (by omega))
  rw [hg7] at hbk7
  obtain ⟨hcp7, hly7, htc7⟩ := hbk7
  dsimp only at hcp7 hly7 htc7
  have ht07 := tot_0 hly7
  obtain ⟨old7, ga7, gb7, gc7, gd7, ⟨hh7, -, -⟩, -, hcn7, -, hok7⟩ := id hb7
  dsimp only at hh7 hcn7 hok7
  rw [hg7] at hbad
  dsimp only at hbad
  have hwi := wet_tot x hly7
  refine j_aload_n 0 C dX6_dry_0 rfl rfl rfl ?_
  refine j_get C dX6_dry_1 rfl fg_X6_12 x1 rfl ?_
  refine j_iload_n 1 C dX6_dry_4 rfl rfl rfl ?_
  refine j_callS (st' := []) (As := [.ref (ad 1), vi ((i : Int))]) C dX6_dry_5 rfl m_X6_75 rfl rfl (c_biG (kL κ) hfl (kD κ) (kc κ) σ (ad 1) (ad 2) _ hL1 i _ (bins_at hi) _ hh7) rfl (by omega) (by omega) (by omega) (fun _ _ hx => hx.elim) (fun v2 τ1 hp3 => ?_)
  obtain ⟨rfl, hs9⟩ := hp3
  replace hs9 := hs9.symm
  subst hs9
  show J κ σ [(0, .ref (ad 0)), (1, vi ((i : Int))), (2, vi (x))] 8 [.ref (bq ad 100 i 0)] _ _
  refine j_astore_n (lv' := [(0, .ref (ad 0)), (1, vi ((i : Int))), (2, vi (x)), (3, .ref (bq ad 100 i 0))]) [1, 2, 3, 0] C dX6_dry_8 rfl rfl rfl rfl ?_
  refine j_iload_n 2 C dX6_dry_9 rfl rfl rfl ?_
  refine j_callS (st' := []) (As := [vi (x)]) C dX6_dry_10 rfl m_X6_144 rfl rfl (c_cmG (kL κ) hfl (kD κ) (kc κ) σ x hx8 h) rfl (by omega) (by omega) (by omega) (fun _ _ hx => hx.elim) (fun v5 τ4 hp6 => ?_)
  obtain ⟨rfl, hs9⟩ := hp6
  replace hs9 := hs9.symm
  subst hs9
  show J κ σ [(0, .ref (ad 0)), (1, vi ((i : Int))), (2, vi (x)), (3, .ref (bq ad 100 i 0))] 13 [] _ _
  refine j_aload_n 3 C dX6_dry_13 rfl rfl rfl ?_
  refine j_iload_n 2 C dX6_dry_14 rfl rfl rfl ?_
  refine j_callV (st' := []) (As := [vi (x)]) C dX6_dry_15 rfl m_X6_147 hh7 rfl rfl rfl (c_wetterThan (kL κ) hfl (kD κ) (kc κ) σ (bq ad 100 i 0) (bq ad 100 i 1) (bq ad 100 i 2) (bq ad 100 i 3) (bq ad 100 i 4) cap mf ly hb7 x ⟨by omega, by omega⟩) rfl (by omega) (by omega) (by omega) (fun _ _ hx => hx.elim) (fun v8 τ7 hp9 => ?_)
  obtain ⟨rfl, hs9⟩ := hp9
  replace hs9 := hs9.symm
  subst hs9
  show J κ σ [(0, .ref (ad 0)), (1, vi ((i : Int))), (2, vi (x)), (3, .ref (bq ad 100 i 0))] 18 [vi (sumL (wetF x) ly)] _ _
  refine j_if_ne (tgt := 31) C dX6_dry_18 rfl rfl ⟨by omega, by omega⟩ (fun cc10 => ?_) (fun cc10 => ?_)
  · have hl8 : ¬ evs.length < 80 := fun q => hbad ⟨cc10, q⟩
    refine j_aload_n 0 C dX6_dry_31 rfl rfl rfl ?_
    refine j_callV (st' := []) (As := []) C dX6_dry_32 rfl m_X6_102 x1 rfl rfl rfl (c_ceB (kL κ) hfl (kD κ) (kc κ) σ (ad 0) (ad 1) (ad 3) (ad 5) (ad 7) (ad 10) (ad 11) (ad 13) ca x1 (ad 6) _ hL5 ⟨by rw [hel9]; omega, by rw [hel9]; omega⟩) rfl (by omega) (by omega) (by omega) (fun E9 σ9 hx => jx_out C E NH (by omega) (by omega) hx) (fun v12 τ11 hp13 => ?_)
    exact hp13.elim
  · exact j_throw C E NH tx_X6_59_63 (is := 151) (text := "no layer has a greater moisture") (by decide) dX6_dry_21 dX6_dry_24 dX6_dry_25 dX6_dry_27 dX6_dry_30 rfl (by omega) (by omega) ⟨rfl, rfl⟩
