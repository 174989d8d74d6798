/-! GrainElevator: changing rules, season, prices, futures -/
theorem FxR.rules {cy : Nat → Nat} {σ σ' : Wd} {tg ad : Nat → Nat} {ru : Nat → Int × Int} {se : Int} {pf : Nat → Int} {hd : Hd} {ln : List Int} {F : Nat → Prop} (h : FxR cy σ tg ad ru se pf hd ln) (hk : Keep σ σ' F) (hF : ∀ y, y ∈ σ.1 → F y → 7 ≤ tg y ∧ tg y ≤ 9) {ru' : Nat → Int × Int} {se' : Int} (hn : RuleR cy σ' (ad 7) (ad 8) (ad 9) ru' se') : FxR cy σ' tg ad ru' se' pf hd ln := by
  obtain ⟨⟨-, t7, t8, t9⟩, ⟨p1, t10⟩, ⟨⟨d1, d2⟩, t11, t12⟩, cap, ⟨ml, g, ⟨s1, s2, s3⟩, s4⟩, t13, t14⟩ := h
  have z : ∀ {y : Nat} {x : va_E}, has σ y x → 10 ≤ tg y → has σ' y x := fun hy a => hk _ _ hy (fun q => by have := hF _ hy.1 q; omega)
  exact ⟨⟨hn, t7, t8, t9⟩, ⟨z p1 (by omega), t10⟩, ⟨⟨z d1 (by omega), z d2 (by omega)⟩, t11, t12⟩, cap, ⟨ml, g, ⟨z s1 (by omega), z s2 (by omega), s3⟩, s4⟩, t13, t14⟩
theorem FxR.price {cy : Nat → Nat} {σ σ' : Wd} {tg ad : Nat → Nat} {ru : Nat → Int × Int} {se : Int} {pf : Nat → Int} {hd : Hd} {ln : List Int} {F : Nat → Prop} (h : FxR cy σ tg ad ru se pf hd ln) (hk : Keep σ σ' F) (hF : ∀ y, y ∈ σ.1 → F y → tg y = 10) {pf' : Nat → Int} (hn : has σ' (ad 10) (iA cy 5 pf')) : FxR cy σ' tg ad ru se pf' hd ln := by
  obtain ⟨⟨⟨r1, r2, r3, r4⟩, t7, t8, t9⟩, ⟨p1, t10⟩, ⟨⟨d1, d2⟩, t11, t12⟩, cap, ⟨ml, g, ⟨s1, s2, s3⟩, s4⟩, t13, t14⟩ := h
  have z : ∀ {y : Nat} {x : va_E}, has σ y x → tg y ≠ 10 → has σ' y x := fun hy a => hk _ _ hy (fun q => by have := hF _ hy.1 q; omega)
  exact ⟨⟨⟨z r1 (by omega), z r2 (by omega), z r3 (by omega), r4⟩, t7, t8, t9⟩, ⟨hn, t10⟩, ⟨⟨z d1 (by omega), z d2 (by omega)⟩, t11, t12⟩, cap, ⟨ml, g, ⟨z s1 (by omega), z s2 (by omega), s3⟩, s4⟩, t13, t14⟩
theorem FxR.hedge {cy : Nat → Nat} {σ σ' : Wd} {tg ad : Nat → Nat} {ru : Nat → Int × Int} {se : Int} {pf : Nat → Int} {hd : Hd} {ln : List Int} {F : Nat → Prop} (h : FxR cy σ tg ad ru se pf hd ln) (hk : Keep σ σ' F) (hF : ∀ y, y ∈ σ.1 → F y → tg y = 11 ∨ tg y = 12) {hd' : Hd} (hn : HedR cy σ' (ad 11) (ad 12) hd') : FxR cy σ' tg ad ru se pf hd' ln := by
  obtain ⟨⟨⟨r1, r2, r3, r4⟩, t7, t8, t9⟩, ⟨p1, t10⟩, ⟨-, t11, t12⟩, cap, ⟨ml, g, ⟨s1, s2, s3⟩, s4⟩, t13, t14⟩ := h
  have z : ∀ {y : Nat} {x : va_E}, has σ y x → tg y ≠ 11 → tg y ≠ 12 → has σ' y x := fun hy a b => hk _ _ hy (fun q => by have := hF _ hy.1 q; omega)
  exact ⟨⟨⟨z r1 (by omega) (by omega), z r2 (by omega) (by omega), z r3 (by omega) (by omega), r4⟩, t7, t8, t9⟩, ⟨z p1 (by omega) (by omega), t10⟩, ⟨hn, t11, t12⟩, cap, ⟨ml, g, ⟨z s1 (by omega) (by omega), z s2 (by omega) (by omega), s3⟩, s4⟩, t13, t14⟩
theorem RX.fx {cy : Nat → Nat} {σ σ' : Wd} {tg ad : Nat → Nat} {bs : List Bn} {ca : Int} {evs : List Evt} {ru : Nat → Int × Int} {se : Int} {pf : Nat → Int} {hd : Hd} {ln : List Int} {F : Nat → Prop} (h : RX cy σ tg ad bs ru se pf hd ca evs ln) (hk : Keep σ σ' F) (hF : ∀ y, y ∈ σ.1 → F y → 7 ≤ tg y ∧ tg y ≤ 14) {ru' : Nat → Int × Int} {se' : Int} {pf' : Nat → Int} {hd' : Hd} {ln' : List Int} (hX : FxR cy σ' tg ad ru' se' pf' hd' ln') (hO : Ok bs ru' se' pf' hd' evs ln') : RX cy σ' tg ad bs ru' se' pf' hd' ca evs ln' := by
  obtain ⟨⟨x1, x2⟩, hB, ⟨bsA, hA, hAe⟩, hE, -, hO1⟩ := h
  exact ⟨⟨hk _ _ x1 (fun z => by have := hF _ x1.1 z; omega), x2⟩, hB.keep hk (fun y hy z => by have := hF y hy z; omega), ⟨bsA, hA.keep hk (fun y hy z => by have := hF y hy z; omega), hAe⟩, hE.keep hk (fun y hy z => by have := hF y hy z; omega) hO1.2.2.1.2, hX, hO⟩
set_option maxHeartbeats 4000000 in
set_option maxRecDepth 20000 in
theorem c_setRule (l : Launch) (hfl : l.stackTraces = false) (D : va_G) (cy : Nat → Nat) (σ : Wd) (tg ad : Nat → Nat) (bs : List Bn) (ru : Nat → Int × Int) (se : Int) (pf : Nat → Int) (hd : Hd) (ca : Int) (evs : List Evt) (ln : List Int) (hX0 : RX cy σ tg ad bs ru se pf hd ca evs ln) (s g y z : Int) (hs9 : (-2147483648 ≤ s ∧ s < 2147483648)) (hg9 : (-2147483648 ≤ g ∧ g < 2147483648)) (hy : (-2147483648 ≤ y ∧ y < 2147483648)) (hz : (-2147483648 ≤ z ∧ z < 2147483648)) (hq1 : 0 ≤ s ∧ s ≤ 3) (hg : 1 ≤ g ∧ g ≤ 3) (h : ((80 ≤ y ∧ y ≤ 300) ∧ (0 ≤ z ∧ z ≤ 100))) : Ct l yX6_setRule cX6_setRule 5 (some .int) 4 0 0 D cy [.ref (ad 0), vi (s), vi (g), vi (y), vi (z)] σ (fun v σ' => v = some (vi (rAt ru s g).1) ∧ RX cy σ' tg ad bs (ruU ru (s * 3 + g - 1).toNat y z) se pf hd ca evs ln ∧ Keep σ σ' (fun y => tg y < 1000) ∧ σ'.1 = σ.1) noX := by
  refine ct_start (by decide +kernel) hfl rfl (fun κ e1 e2 e3 C E NH => ?_)
  subst e1 e2 e3
  have C : Cx κ cX6_setRule 5 RX6 "setRule" 4 := C
  obtain ⟨-, -, -, -, hc, hs⟩ := id E
  show J κ σ [(0, .ref (ad 0)), (1, vi (s)), (2, vi (g)), (3, vi (y)), (4, vi (z))] 0 [] 0 0
  have hXX := hX0
  obtain ⟨⟨x1, x2⟩, hB, ⟨bsA, hA, hAe⟩, hEv, hX, hO⟩ := hXX
  obtain ⟨⟨hR, t7, t8, t9⟩, ⟨hPr, t10⟩, ⟨hH, t11, t12⟩, cap0, hSb, t13, t14⟩ := id hX
  have hL1 := hB.1.1
  have hL5 := hEv.1.1
  have hbl := bins_len ad 100 bs.length
  have hel9 := evl_len ad evs.length
  have h6 := hB.2.1
  obtain ⟨⟨hc1, hc2⟩, hc3, hc4⟩ := hO.2.2.2.1
  have hev80 := hO.2.2.1.2
  have hpr := hO.2.2.2.2.1
  have hRo := hR.1
  have hHo := hH.1
  obtain ⟨ml0, g0, hSc, -⟩ := id hSb
  have hSo := hSc.1
  have hTb := totB_in hO.2.1
  obtain ⟨m91, hl91, -⟩ := id hL1
  obtain ⟨m92, hl92, -⟩ := id hL5
  refine j_iload_n 1 C dX6_setRule_0 rfl rfl rfl ?_
  refine j_iconst C dX6_setRule_1 rfl ?_
  refine j_iconst C dX6_setRule_2 rfl ?_
  refine j_callS (st' := []) (As := [vi (s), vi (0), vi (3)]) C dX6_setRule_3 rfl m_X6_51 rfl rfl (c_crG (kL κ) hfl (kD κ) (kc κ) σ s 0 3 hs9 ⟨by omega, by omega⟩ hq1) rfl (by omega) (by omega) (by omega) (fun _ _ hx => hx.elim) (fun v2 τ1 hp3 => ?_)
  obtain ⟨rfl, hs9⟩ := hp3
  replace hs9 := hs9.symm
  subst hs9
  show J κ σ [(0, .ref (ad 0)), (1, vi (s)), (2, vi (g)), (3, vi (y)), (4, vi (z))] 6 [] _ _
  refine j_iload_n 2 C dX6_setRule_6 rfl rfl rfl ?_
  refine j_iconst C dX6_setRule_7 rfl ?_
  refine j_iconst C dX6_setRule_8 rfl ?_
  refine j_callS (st' := []) (As := [vi (g), vi (1), vi (3)]) C dX6_setRule_9 rfl m_X6_51 rfl rfl (c_crG (kL κ) hfl (kD κ) (kc κ) σ g 1 3 hg9 ⟨by omega, by omega⟩ hg) rfl (by omega) (by omega) (by omega) (fun _ _ hx => hx.elim) (fun v5 τ4 hp6 => ?_)
  obtain ⟨rfl, hs9⟩ := hp6
  replace hs9 := hs9.symm
  subst hs9
  show J κ σ [(0, .ref (ad 0)), (1, vi (s)), (2, vi (g)), (3, vi (y)), (4, vi (z))] 12 [] _ _
  refine j_iload_n 3 C dX6_setRule_12 rfl rfl rfl ?_
  refine j_iload 4 C dX6_setRule_13 rfl rfl ?_
  refine j_callS (st' := []) (As := [vi (y), vi (z)]) C dX6_setRule_15 rfl m_X6_83 rfl rfl (c_cgG (kL κ) hfl (kD κ) (kc κ) σ y z hy hz h) rfl (by omega) (by omega) (by omega) (fun _ _ hx => hx.elim) (fun v8 τ7 hp9 => ?_)
  obtain ⟨rfl, hs9⟩ := hp9
  replace hs9 := hs9.symm
  subst hs9
  show J κ σ [(0, .ref (ad 0)), (1, vi (s)), (2, vi (g)), (3, vi (y)), (4, vi (z))] 18 [] _ _
  refine j_aload_n 0 C dX6_setRule_18 rfl rfl rfl ?_
  refine j_get C dX6_setRule_19 rfl fg_X6_25 x1 rfl ?_
  refine j_iload_n 1 C dX6_setRule_22 rfl rfl rfl ?_
  refine j_iload_n 2 C dX6_setRule_23 rfl rfl rfl ?_
  refine j_iload_n 3 C dX6_setRule_24 rfl rfl rfl ?_
  refine j_iload 4 C dX6_setRule_25 rfl rfl ?_
  refine j_callV (st' := []) (As := [vi (s), vi (g), vi (y), vi (z)]) C dX6_setRule_27 rfl m_X6_87 hRo rfl rfl rfl (c_change (kL κ) hfl (kD κ) (kc κ) σ (ad 7) (ad 8) (ad 9) ru se s g y z hR ⟨by omega, by omega⟩ h.1 h.2) rfl (by omega) (by omega) (by omega) (fun _ _ hx => hx.elim) (fun v11 τ10 hp12 => ?_)
  obtain ⟨rfl, hR1, hk1, hd1⟩ := hp12
  show J κ τ10 [(0, .ref (ad 0)), (1, vi (s)), (2, vi (g)), (3, vi (y)), (4, vi (z))] 30 [vi ((rAt ru s g).1)] _ _
  have hF : ∀ q, q ∈ σ.1 → (q = ad 8 ∨ q = ad 9) → 7 ≤ tg q ∧ tg q ≤ 9 := fun q _ hq => by rcases hq with rfl | rfl <;> omega
  exact j_iret C E dX6_setRule_30 (by omega) (by omega) ⟨rfl, hX0.fx hk1 (fun q hq hf => by have := hF q hq hf; omega) (hX.rules hk1 hF hR1) hO, hk1.mono (fun q hq => by show tg q < 1000; rcases hq with rfl | rfl <;> omega), hd1⟩
set_option maxHeartbeats 4000000 in
set_option maxRecDepth 20000 in
theorem c_setRuleB (l : Launch) (hfl : l.stackTraces = false) (D : va_G) (cy : Nat → Nat) (σ : Wd) (tg ad : Nat → Nat) (bs : List Bn) (ru : Nat → Int × Int) (se : Int) (pf : Nat → Int) (hd : Hd) (ca : Int) (evs : List Evt) (ln : List Int) (hX0 : RX cy σ tg ad bs ru se pf hd ca evs ln) (s g y z : Int) (hs9 : (-2147483648 ≤ s ∧ s < 2147483648)) (hg9 : (-2147483648 ≤ g ∧ g < 2147483648)) (hy : (-2147483648 ≤ y ∧ y < 2147483648)) (hz : (-2147483648 ≤ z ∧ z < 2147483648)) (h : ¬ ((0 ≤ s ∧ s ≤ 3) ∧ (1 ≤ g ∧ g ≤ 3) ∧ ((80 ≤ y ∧ y ≤ 300) ∧ (0 ≤ z ∧ z ≤ 100)))) : Ct l yX6_setRule cX6_setRule 5 (some .int) 4 1 6 D cy [.ref (ad 0), vi (s), vi (g), vi (y), vi (z)] σ (fun v σ' => False) (fun E9 σ' => E9 = "java/lang/IllegalArgumentException" ∧ σ' = σ) := by
  refine ct_start (by decide +kernel) hfl rfl (fun κ e1 e2 e3 C E NH => ?_)
  subst e1 e2 e3
  have C : Cx κ cX6_setRule 5 RX6 "setRule" 4 := C
  obtain ⟨-, -, -, -, hc, hs⟩ := id E
  show J κ σ [(0, .ref (ad 0)), (1, vi (s)), (2, vi (g)), (3, vi (y)), (4, vi (z))] 0 [] 0 0
  have hXX := hX0
  obtain ⟨⟨x1, x2⟩, hB, ⟨bsA, hA, hAe⟩, hEv, hX, hO⟩ := hXX
  obtain ⟨⟨hR, t7, t8, t9⟩, ⟨hPr, t10⟩, ⟨hH, t11, t12⟩, cap0, hSb, t13, t14⟩ := id hX
  have hL1 := hB.1.1
  have hL5 := hEv.1.1
  have hbl := bins_len ad 100 bs.length
  have hel9 := evl_len ad evs.length
  have h6 := hB.2.1
  obtain ⟨⟨hc1, hc2⟩, hc3, hc4⟩ := hO.2.2.2.1
  have hev80 := hO.2.2.1.2
  have hpr := hO.2.2.2.2.1
  have hRo := hR.1
  have hHo := hH.1
  obtain ⟨ml0, g0, hSc, -⟩ := id hSb
  have hSo := hSc.1
  have hTb := totB_in hO.2.1
  obtain ⟨m91, hl91, -⟩ := id hL1
  obtain ⟨m92, hl92, -⟩ := id hL5
  refine j_iload_n 1 C dX6_setRule_0 rfl rfl rfl ?_
  refine j_iconst C dX6_setRule_1 rfl ?_
  refine j_iconst C dX6_setRule_2 rfl ?_
  by_cases hq1 : 0 ≤ s ∧ s ≤ 3
  · refine j_callS (st' := []) (As := [vi (s), vi (0), vi (3)]) C dX6_setRule_3 rfl m_X6_51 rfl rfl (c_crG (kL κ) hfl (kD κ) (kc κ) σ s 0 3 hs9 ⟨by omega, by omega⟩ hq1) rfl (by omega) (by omega) (by omega) (fun _ _ hx => hx.elim) (fun v5 τ4 hp6 => ?_)
    obtain ⟨rfl, hs9⟩ := hp6
    replace hs9 := hs9.symm
    subst hs9
    show J κ σ [(0, .ref (ad 0)), (1, vi (s)), (2, vi (g)), (3, vi (y)), (4, vi (z))] 6 [] _ _
    refine j_iload_n 2 C dX6_setRule_6 rfl rfl rfl ?_
    refine j_iconst C dX6_setRule_7 rfl ?_
    refine j_iconst C dX6_setRule_8 rfl ?_
    by_cases hg : 1 ≤ g ∧ g ≤ 3
    · refine j_callS (st' := []) (As := [vi (g), vi (1), vi (3)]) C dX6_setRule_9 rfl m_X6_51 rfl rfl (c_crG (kL κ) hfl (kD κ) (kc κ) σ g 1 3 hg9 ⟨by omega, by omega⟩ hg) rfl (by omega) (by omega) (by omega) (fun _ _ hx => hx.elim) (fun v11 τ10 hp12 => ?_)
      obtain ⟨rfl, hs9⟩ := hp12
      replace hs9 := hs9.symm
      subst hs9
      show J κ σ [(0, .ref (ad 0)), (1, vi (s)), (2, vi (g)), (3, vi (y)), (4, vi (z))] 12 [] _ _
      refine j_iload_n 3 C dX6_setRule_12 rfl rfl rfl ?_
      refine j_iload 4 C dX6_setRule_13 rfl rfl ?_
      refine j_callS (st' := []) (As := [vi (y), vi (z)]) C dX6_setRule_15 rfl m_X6_83 rfl rfl (c_cgB (kL κ) hfl (kD κ) (kc κ) σ y z hy hz (fun q => h ⟨hq1, hg, q⟩)) rfl (by omega) (by omega) (by omega) (fun E9 σ9 hx => jx_out C E NH (by omega) (by omega) hx) (fun v14 τ13 hp15 => ?_)
      exact hp15.elim
    · refine j_callS (st' := []) (As := [vi (g), vi (1), vi (3)]) C dX6_setRule_9 rfl m_X6_51 rfl rfl (c_crB (kL κ) hfl (kD κ) (kc κ) σ g 1 3 hg9 ⟨by omega, by omega⟩ (by omega)) rfl (by omega) (by omega) (by omega) (fun E9 σ9 hx => jx_out C E NH (by omega) (by omega) hx) (fun v8 τ7 hp9 => ?_)
      exact hp9.elim
  · refine j_callS (st' := []) (As := [vi (s), vi (0), vi (3)]) C dX6_setRule_3 rfl m_X6_51 rfl rfl (c_crB (kL κ) hfl (kD κ) (kc κ) σ s 0 3 hs9 ⟨by omega, by omega⟩ (by omega)) rfl (by omega) (by omega) (by omega) (fun E9 σ9 hx => jx_out C E NH (by omega) (by omega) hx) (fun v2 τ1 hp3 => ?_)
    exact hp3.elim
set_option maxHeartbeats 4000000 in
set_option maxRecDepth 20000 in
theorem c_setSeason (l : Launch) (hfl : l.stackTraces = false) (D : va_G) (cy : Nat → Nat) (σ : Wd) (tg ad : Nat → Nat) (bs : List Bn) (ru : Nat → Int × Int) (se : Int) (pf : Nat → Int) (hd : Hd) (ca : Int) (evs : List Evt) (ln : List Int) (hX0 : RX cy σ tg ad bs ru se pf hd ca evs ln) (z : Int) (hz : (-2147483648 ≤ z ∧ z < 2147483648)) (h : 0 ≤ z ∧ z ≤ 3) : Ct l yX6_setSeason cX6_setSeason 3 (some .int) 4 0 0 D cy [.ref (ad 0), vi (z)] σ (fun v σ' => v = some (vi se) ∧ RX cy σ' tg ad bs ru z pf hd ca evs ln ∧ Keep σ σ' (fun y => tg y < 1000) ∧ σ'.1 = σ.1) noX := by
  refine ct_start (by decide +kernel) hfl rfl (fun κ e1 e2 e3 C E NH => ?_)
  subst e1 e2 e3
  have C : Cx κ cX6_setSeason 3 RX6 "setSeason" 4 := C
  obtain ⟨-, -, -, -, hc, hs⟩ := id E
  show J κ σ [(0, .ref (ad 0)), (1, vi (z))] 0 [] 0 0
  have hXX := hX0
  obtain ⟨⟨x1, x2⟩, hB, ⟨bsA, hA, hAe⟩, hEv, hX, hO⟩ := hXX
  obtain ⟨⟨hR, t7, t8, t9⟩, ⟨hPr, t10⟩, ⟨hH, t11, t12⟩, cap0, hSb, t13, t14⟩ := id hX
  have hL1 := hB.1.1
  have hL5 := hEv.1.1
  have hbl := bins_len ad 100 bs.length
  have hel9 := evl_len ad evs.length
  have h6 := hB.2.1
  obtain ⟨⟨hc1, hc2⟩, hc3, hc4⟩ := hO.2.2.2.1
  have hev80 := hO.2.2.1.2
  have hpr := hO.2.2.2.2.1
  have hRo := hR.1
  have hHo := hH.1
  obtain ⟨ml0, g0, hSc, -⟩ := id hSb
  have hSo := hSc.1
  have hTb := totB_in hO.2.1
  obtain ⟨m91, hl91, -⟩ := id hL1
  obtain ⟨m92, hl92, -⟩ := id hL5
  refine j_iload_n 1 C dX6_setSeason_0 rfl rfl rfl ?_
  refine j_iconst C dX6_setSeason_1 rfl ?_
  refine j_iconst C dX6_setSeason_2 rfl ?_
  refine j_callS (st' := []) (As := [vi (z), vi (0), vi (3)]) C dX6_setSeason_3 rfl m_X6_51 rfl rfl (c_crG (kL κ) hfl (kD κ) (kc κ) σ z 0 3 hz ⟨by omega, by omega⟩ h) rfl (by omega) (by omega) (by omega) (fun _ _ hx => hx.elim) (fun v2 τ1 hp3 => ?_)
  obtain ⟨rfl, hs9⟩ := hp3
  replace hs9 := hs9.symm
  subst hs9
  show J κ σ [(0, .ref (ad 0)), (1, vi (z))] 6 [] _ _
  have kp0 : Keep σ σ (fun y => y = ad 7) := Keep.rf
  have dm0 : σ.1 = σ.1 := rfl
  obtain ⟨-, hm8, hf8, hmf, hse, hru⟩ := id hR
  refine j_aload_n 0 C dX6_setSeason_6 rfl rfl rfl ?_
  refine j_get C dX6_setSeason_7 rfl fg_X6_25 x1 rfl ?_
  refine j_get C dX6_setSeason_10 rfl fg_X6_91 hRo rfl ?_
  refine j_istore_n (lv' := [(0, .ref (ad 0)), (1, vi (z)), (2, vi (se))]) [1, 2, 0] C dX6_setSeason_13 rfl rfl rfl rfl ?_
  refine j_aload_n 0 C dX6_setSeason_14 rfl rfl rfl ?_
  refine j_get C dX6_setSeason_15 rfl fg_X6_25 x1 rfl ?_
  refine j_iload_n 1 C dX6_setSeason_18 rfl rfl rfl ?_
  refine j_put (fs' := [.ref (ad 8), .ref (ad 9), vi (z)]) C dX6_setSeason_19 rfl fa_X6_91 hRo rfl rfl rfl rfl (fun τ4 ee5 => ?_)
  have u6 := x1.ne' ee5 (x1.nk hRo rfl)
  have u7 : has τ4 (ad 7) (.inr (5, [.ref (ad 8), .ref (ad 9), vi (z)])) := hRo.self' ee5
  have u8 := hm8.ne' ee5 (hm8.nk hRo rfl)
  have u9 := hf8.ne' ee5 (hf8.nk hRo rfl)
  have kp10 := kp0.put ee5 rfl
  have dm11 := (dom_put ee5).trans dm0
  refine j_iload_n 2 C dX6_setSeason_22 rfl rfl rfl ?_
  exact j_iret C E dX6_setSeason_23 (by omega) (by omega) ⟨rfl, hX0.fx kp10 (fun q _ hq => by rw [show q = ad 7 from hq]; omega) (hX.rules kp10 (fun q _ hq => by rw [show q = ad 7 from hq]; omega) ⟨u7, u8, u9, hmf, h, hru⟩) hO, kp10.mono (fun q hq => by show tg q < 1000; rw [show q = ad 7 from hq]; omega), dm11⟩
set_option maxHeartbeats 4000000 in
set_option maxRecDepth 20000 in
theorem c_setSeasonB (l : Launch) (hfl : l.stackTraces = false) (D : va_G) (cy : Nat → Nat) (σ : Wd) (tg ad : Nat → Nat) (bs : List Bn) (ru : Nat → Int × Int) (se : Int) (pf : Nat → Int) (hd : Hd) (ca : Int) (evs : List Evt) (ln : List Int) (hX0 : RX cy σ tg ad bs ru se pf hd ca evs ln) (z : Int) (hz : (-2147483648 ≤ z ∧ z < 2147483648)) (h : z < 0 ∨ 3 < z) : Ct l yX6_setSeason cX6_setSeason 3 (some .int) 4 1 6 D cy [.ref (ad 0), vi (z)] σ (fun v σ' => False) (fun E9 σ' => E9 = "java/lang/IllegalArgumentException" ∧ σ' = σ) := by
  refine ct_start (by decide +kernel) hfl rfl (fun κ e1 e2 e3 C E NH => ?_)
  subst e1 e2 e3
  have C : Cx κ cX6_setSeason 3 RX6 "setSeason" 4 := C
  obtain ⟨-, -, -, -, hc, hs⟩ := id E
  show J κ σ [(0, .ref (ad 0)), (1, vi (z))] 0 [] 0 0
  have hXX := hX0
  obtain ⟨⟨x1, x2⟩, hB, ⟨bsA, hA, hAe⟩, hEv, hX, hO⟩ := hXX
  obtain ⟨⟨hR, t7, t8, t9⟩, ⟨hPr, t10⟩, ⟨hH, t11, t12⟩, cap0, hSb, t13, t14⟩ := id hX
  have hL1 := hB.1.1
  have hL5 := hEv.1.1
  have hbl := bins_len ad 100 bs.length
  have hel9 := evl_len ad evs.length
  have h6 := hB.2.1
  obtain ⟨⟨hc1, hc2⟩, hc3, hc4⟩ := hO.2.2.2.1
  have hev80 := hO.2.2.1.2
  have hpr := hO.2.2.2.2.1
  have hRo := hR.1
  have hHo := hH.1
  obtain ⟨ml0, g0, hSc, -⟩ := id hSb
  have hSo := hSc.1
  have hTb := totB_in hO.2.1
  obtain ⟨m91, hl91, -⟩ := id hL1
  obtain ⟨m92, hl92, -⟩ := id hL5
  refine j_iload_n 1 C dX6_setSeason_0 rfl rfl rfl ?_
  refine j_iconst C dX6_setSeason_1 rfl ?_
  refine j_iconst C dX6_setSeason_2 rfl ?_
  refine j_callS (st' := []) (As := [vi (z), vi (0), vi (3)]) C dX6_setSeason_3 rfl m_X6_51 rfl rfl (c_crB (kL κ) hfl (kD κ) (kc κ) σ z 0 3 hz ⟨by omega, by omega⟩ h) rfl (by omega) (by omega) (by omega) (fun E9 σ9 hx => jx_out C E NH (by omega) (by omega) hx) (fun v2 τ1 hp3 => ?_)
  exact hp3.elim
set_option maxHeartbeats 4000000 in
set_option maxRecDepth 20000 in
theorem c_setPrice (l : Launch) (hfl : l.stackTraces = false) (D : va_G) (cy : Nat → Nat) (σ : Wd) (tg ad : Nat → Nat) (bs : List Bn) (ru : Nat → Int × Int) (se : Int) (pf : Nat → Int) (hd : Hd) (ca : Int) (evs : List Evt) (ln : List Int) (hX0 : RX cy σ tg ad bs ru se pf hd ca evs ln) (z y : Int) (hz : (-2147483648 ≤ z ∧ z < 2147483648)) (hy : (-2147483648 ≤ y ∧ y < 2147483648)) (h : 1 ≤ z ∧ z ≤ 4) (h2 : 0 ≤ y ∧ y ≤ 2000) : Ct l yX6_setPrice cX6_setPrice 4 (some .int) 4 0 0 D cy [.ref (ad 0), vi (z), vi (y)] σ (fun v σ' => v = some (vi (pf z.toNat)) ∧ RX cy σ' tg ad bs ru se (ups pf z.toNat y) hd ca evs ln ∧ Keep σ σ' (fun y => tg y < 1000) ∧ σ'.1 = σ.1) noX := by
  refine ct_start (by decide +kernel) hfl rfl (fun κ e1 e2 e3 C E NH => ?_)
  subst e1 e2 e3
  have C : Cx κ cX6_setPrice 4 RX6 "setPrice" 4 := C
  obtain ⟨-, -, -, -, hc, hs⟩ := id E
  show J κ σ [(0, .ref (ad 0)), (1, vi (z)), (2, vi (y))] 0 [] 0 0
  have hXX := hX0
  obtain ⟨⟨x1, x2⟩, hB, ⟨bsA, hA, hAe⟩, hEv, hX, hO⟩ := hXX
  obtain ⟨⟨hR, t7, t8, t9⟩, ⟨hPr, t10⟩, ⟨hH, t11, t12⟩, cap0, hSb, t13, t14⟩ := id hX
  have hL1 := hB.1.1
  have hL5 := hEv.1.1
  have hbl := bins_len ad 100 bs.length
  have hel9 := evl_len ad evs.length
  have h6 := hB.2.1
  obtain ⟨⟨hc1, hc2⟩, hc3, hc4⟩ := hO.2.2.2.1
  have hev80 := hO.2.2.1.2
  have hpr := hO.2.2.2.2.1
  have hRo := hR.1
  have hHo := hH.1
  obtain ⟨ml0, g0, hSc, -⟩ := id hSb
  have hSo := hSc.1
  have hTb := totB_in hO.2.1
  obtain ⟨m91, hl91, -⟩ := id hL1
  obtain ⟨m92, hl92, -⟩ := id hL5
  refine j_iload_n 1 C dX6_setPrice_0 rfl rfl rfl ?_
  refine j_iconst C dX6_setPrice_1 rfl ?_
  refine j_iconst C dX6_setPrice_2 rfl ?_
  refine j_callS (st' := []) (As := [vi (z), vi (1), vi (4)]) C dX6_setPrice_3 rfl m_X6_51 rfl rfl (c_crG (kL κ) hfl (kD κ) (kc κ) σ z 1 4 hz ⟨by omega, by omega⟩ h) rfl (by omega) (by omega) (by omega) (fun _ _ hx => hx.elim) (fun v2 τ1 hp3 => ?_)
  obtain ⟨rfl, hs9⟩ := hp3
  replace hs9 := hs9.symm
  subst hs9
  show J κ σ [(0, .ref (ad 0)), (1, vi (z)), (2, vi (y))] 6 [] _ _
  refine j_iload_n 2 C dX6_setPrice_6 rfl rfl rfl ?_
  refine j_iconst C dX6_setPrice_7 rfl ?_
  refine j_sipush C dX6_setPrice_8 rfl (by decide) ?_
  refine j_callS (st' := []) (As := [vi (y), vi (0), vi (2000)]) C dX6_setPrice_11 rfl m_X6_51 rfl rfl (c_crG (kL κ) hfl (kD κ) (kc κ) σ y 0 2000 hy ⟨by omega, by omega⟩ h2) rfl (by omega) (by omega) (by omega) (fun _ _ hx => hx.elim) (fun v5 τ4 hp6 => ?_)
  obtain ⟨rfl, hs9⟩ := hp6
  replace hs9 := hs9.symm
  subst hs9
  show J κ σ [(0, .ref (ad 0)), (1, vi (z)), (2, vi (y))] 14 [] _ _
  have kp0 : Keep σ σ (fun y => y = ad 10) := Keep.rf
  have dm0 : σ.1 = σ.1 := rfl
  refine j_aload_n 0 C dX6_setPrice_14 rfl rfl rfl ?_
  refine j_get C dX6_setPrice_15 rfl fg_X6_29 x1 rfl ?_
  refine j_iload_n 1 C dX6_setPrice_18 rfl rfl rfl ?_
  obtain ⟨y7, hy7⟩ : ∃ y : Int, pf z.toNat = y := ⟨_, rfl⟩
  refine j_iald C dX6_setPrice_19 rfl hPr ⟨by omega, by omega⟩ (by omega) hy7 ?_
  refine j_istore_n (lv' := [(0, .ref (ad 0)), (1, vi (z)), (2, vi (y)), (3, vi (y7))]) [1, 2, 3, 0] C dX6_setPrice_20 rfl rfl rfl rfl ?_
  refine j_aload_n 0 C dX6_setPrice_21 rfl rfl rfl ?_
  refine j_get C dX6_setPrice_22 rfl fg_X6_29 x1 rfl ?_
  refine j_iload_n 1 C dX6_setPrice_25 rfl rfl rfl ?_
  refine j_iload_n 2 C dX6_setPrice_26 rfl rfl rfl ?_
  refine j_iast C dX6_setPrice_27 rfl hPr ⟨by omega, by omega⟩ (by omega) (fun τ8 ee9 => ?_)
  have u10 := x1.ne' ee9 (x1.nk hPr rfl)
  have u11 : has τ8 (ad 10) (iA (kc κ) 5 (ups pf z.toNat y)) := hPr.self' ee9
  have kp12 := kp0.put ee9 rfl
  have dm13 := (dom_put ee9).trans dm0
  refine j_iload_n 3 C dX6_setPrice_28 rfl rfl rfl ?_
  exact j_iret C E dX6_setPrice_29 (by omega) (by omega) ⟨congrArg some (congrArg vi hy7.symm), hX0.fx kp12 (fun q _ hq => by rw [show q = ad 10 from hq]; omega) (hX.price kp12 (fun q _ hq => by rw [show q = ad 10 from hq]; omega) u11) ⟨hO.1, hO.2.1, hO.2.2.1, hO.2.2.2.1, fun i hi => by (unfold ups; split); exact h2; exact hpr i hi, hO.2.2.2.2.2⟩, kp12.mono (fun q hq => by show tg q < 1000; rw [show q = ad 10 from hq]; omega), dm13⟩
set_option maxHeartbeats 4000000 in
set_option maxRecDepth 20000 in
theorem c_setPriceB (l : Launch) (hfl : l.stackTraces = false) (D : va_G) (cy : Nat → Nat) (σ : Wd) (tg ad : Nat → Nat) (bs : List Bn) (ru : Nat → Int × Int) (se : Int) (pf : Nat → Int) (hd : Hd) (ca : Int) (evs : List Evt) (ln : List Int) (hX0 : RX cy σ tg ad bs ru se pf hd ca evs ln) (z y : Int) (hz : (-2147483648 ≤ z ∧ z < 2147483648)) (hy : (-2147483648 ≤ y ∧ y < 2147483648)) (h : ¬ ((1 ≤ z ∧ z ≤ 4) ∧ (0 ≤ y ∧ y ≤ 2000))) : Ct l yX6_setPrice cX6_setPrice 4 (some .int) 4 1 6 D cy [.ref (ad 0), vi (z), vi (y)] σ (fun v σ' => False) (fun E9 σ' => E9 = "java/lang/IllegalArgumentException" ∧ σ' = σ) := by
  refine ct_start (by decide +kernel) hfl rfl (fun κ e1 e2 e3 C E NH => ?_)
  subst e1 e2 e3
  have C : Cx κ cX6_setPrice 4 RX6 "setPrice" 4 := C
  obtain ⟨-, -, -, -, hc, hs⟩ := id E
  show J κ σ [(0, .ref (ad 0)), (1, vi (z)), (2, vi (y))] 0 [] 0 0
  have hXX := hX0
  obtain ⟨⟨x1, x2⟩, hB, ⟨bsA, hA, hAe⟩, hEv, hX, hO⟩ := hXX
  obtain ⟨⟨hR, t7, t8, t9⟩, ⟨hPr, t10⟩, ⟨hH, t11, t12⟩, cap0, hSb, t13, t14⟩ := id hX
  have hL1 := hB.1.1
  have hL5 := hEv.1.1
  have hbl := bins_len ad 100 bs.length
  have hel9 := evl_len ad evs.length
  have h6 := hB.2.1
  obtain ⟨⟨hc1, hc2⟩, hc3, hc4⟩ := hO.2.2.2.1
  have hev80 := hO.2.2.1.2
  have hpr := hO.2.2.2.2.1
  have hRo := hR.1
  have hHo := hH.1
  obtain ⟨ml0, g0, hSc, -⟩ := id hSb
  have hSo := hSc.1
  have hTb := totB_in hO.2.1
  obtain ⟨m91, hl91, -⟩ := id hL1
  obtain ⟨m92, hl92, -⟩ := id hL5
  refine j_iload_n 1 C dX6_setPrice_0 rfl rfl rfl ?_
  refine j_iconst C dX6_setPrice_1 rfl ?_
  refine j_iconst C dX6_setPrice_2 rfl ?_
  by_cases h1 : 1 ≤ z ∧ z ≤ 4
  · refine j_callS (st' := []) (As := [vi (z), vi (1), vi (4)]) C dX6_setPrice_3 rfl m_X6_51 rfl rfl (c_crG (kL κ) hfl (kD κ) (kc κ) σ z 1 4 hz ⟨by omega, by omega⟩ h1) rfl (by omega) (by omega) (by omega) (fun _ _ hx => hx.elim) (fun v2 τ1 hp3 => ?_)
    obtain ⟨rfl, hs9⟩ := hp3
    replace hs9 := hs9.symm
    subst hs9
    show J κ σ [(0, .ref (ad 0)), (1, vi (z)), (2, vi (y))] 6 [] _ _
    refine j_iload_n 2 C dX6_setPrice_6 rfl rfl rfl ?_
    refine j_iconst C dX6_setPrice_7 rfl ?_
    refine j_sipush C dX6_setPrice_8 rfl (by decide) ?_
    refine j_callS (st' := []) (As := [vi (y), vi (0), vi (2000)]) C dX6_setPrice_11 rfl m_X6_51 rfl rfl (c_crB (kL κ) hfl (kD κ) (kc κ) σ y 0 2000 hy ⟨by omega, by omega⟩ (by omega)) rfl (by omega) (by omega) (by omega) (fun E9 σ9 hx => jx_out C E NH (by omega) (by omega) hx) (fun v5 τ4 hp6 => ?_)
    exact hp6.elim
  · refine j_callS (st' := []) (As := [vi (z), vi (1), vi (4)]) C dX6_setPrice_3 rfl m_X6_51 rfl rfl (c_crB (kL κ) hfl (kD κ) (kc κ) σ z 1 4 hz ⟨by omega, by omega⟩ (by omega)) rfl (by omega) (by omega) (by omega) (fun E9 σ9 hx => jx_out C E NH (by omega) (by omega) hx) (fun v8 τ7 hp9 => ?_)
    exact hp9.elim
set_option maxHeartbeats 4000000 in
set_option maxRecDepth 20000 in
theorem c_setFutures (l : Launch) (hfl : l.stackTraces = false) (D : va_G) (cy : Nat → Nat) (σ : Wd) (tg ad : Nat → Nat) (bs : List Bn) (ru : Nat → Int × Int) (se : Int) (pf : Nat → Int) (hd : Hd) (ca : Int) (evs : List Evt) (ln : List Int) (hX0 : RX cy σ tg ad bs ru se pf hd ca evs ln) (z : Int) (hz : (-2147483648 ≤ z ∧ z < 2147483648)) (h : 0 ≤ z ∧ z ≤ 2000) : Ct l yX6_setFutures cX6_setFutures 2 (some .int) 4 0 0 D cy [.ref (ad 0), vi (z)] σ (fun v σ' => v = some (vi hd.2.2.2.1) ∧ RX cy σ' tg ad bs ru se pf (hdP hd z) ca evs ln ∧ Keep σ σ' (fun y => tg y < 1000) ∧ σ'.1 = σ.1) noX := by
  refine ct_start (by decide +kernel) hfl rfl (fun κ e1 e2 e3 C E NH => ?_)
  subst e1 e2 e3
  have C : Cx κ cX6_setFutures 2 RX6 "setFutures" 4 := C
  obtain ⟨-, -, -, -, hc, hs⟩ := id E
  show J κ σ [(0, .ref (ad 0)), (1, vi (z))] 0 [] 0 0
  have hXX := hX0
  obtain ⟨⟨x1, x2⟩, hB, ⟨bsA, hA, hAe⟩, hEv, hX, hO⟩ := hXX
  obtain ⟨⟨hR, t7, t8, t9⟩, ⟨hPr, t10⟩, ⟨hH, t11, t12⟩, cap0, hSb, t13, t14⟩ := id hX
  have hL1 := hB.1.1
  have hL5 := hEv.1.1
  have hbl := bins_len ad 100 bs.length
  have hel9 := evl_len ad evs.length
  have h6 := hB.2.1
  obtain ⟨⟨hc1, hc2⟩, hc3, hc4⟩ := hO.2.2.2.1
  have hev80 := hO.2.2.1.2
  have hpr := hO.2.2.2.2.1
  have hRo := hR.1
  have hHo := hH.1
  obtain ⟨ml0, g0, hSc, -⟩ := id hSb
  have hSo := hSc.1
  have hTb := totB_in hO.2.1
  obtain ⟨m91, hl91, -⟩ := id hL1
  obtain ⟨m92, hl92, -⟩ := id hL5
  refine j_iload_n 1 C dX6_setFutures_0 rfl rfl rfl ?_
  refine j_iconst C dX6_setFutures_1 rfl ?_
  refine j_sipush C dX6_setFutures_2 rfl (by decide) ?_
  refine j_callS (st' := []) (As := [vi (z), vi (0), vi (2000)]) C dX6_setFutures_5 rfl m_X6_51 rfl rfl (c_crG (kL κ) hfl (kD κ) (kc κ) σ z 0 2000 hz ⟨by omega, by omega⟩ h) rfl (by omega) (by omega) (by omega) (fun _ _ hx => hx.elim) (fun v2 τ1 hp3 => ?_)
  obtain ⟨rfl, hs9⟩ := hp3
  replace hs9 := hs9.symm
  subst hs9
  show J κ σ [(0, .ref (ad 0)), (1, vi (z))] 8 [] _ _
  refine j_aload_n 0 C dX6_setFutures_8 rfl rfl rfl ?_
  refine j_get C dX6_setFutures_9 rfl fg_X6_36 x1 rfl ?_
  refine j_iload_n 1 C dX6_setFutures_12 rfl rfl rfl ?_
  refine j_callV (st' := []) (As := [vi (z)]) C dX6_setFutures_13 rfl m_X6_227 hHo rfl rfl rfl (c_reprice (kL κ) hfl (kD κ) (kc κ) σ (ad 11) (ad 12) hd z hH ⟨⟨by rw [hc3]; omega, by rw [hc3]; omega⟩, hc4⟩ h) rfl (by omega) (by omega) (by omega) (fun _ _ hx => hx.elim) (fun v5 τ4 hp6 => ?_)
  obtain ⟨rfl, hH1, hk1, hd1⟩ := hp6
  show J κ τ4 [(0, .ref (ad 0)), (1, vi (z))] 16 [vi (hd.2.2.2.1)] _ _
  exact j_iret C E dX6_setFutures_16 (by omega) (by omega) ⟨rfl, hX0.fx hk1 (fun q _ hq => by rw [show q = ad 11 from hq]; omega) (hX.hedge hk1 (fun q _ hq => by rw [show q = ad 11 from hq]; omega) hH1) ⟨hO.1, hO.2.1, hO.2.2.1, ⟨⟨hc1, hc2⟩, hc3, h⟩, hO.2.2.2.2⟩, hk1.mono (fun q hq => by show tg q < 1000; rw [show q = ad 11 from hq]; omega), hd1⟩
set_option maxHeartbeats 4000000 in
set_option maxRecDepth 20000 in
theorem c_setFuturesB (l : Launch) (hfl : l.stackTraces = false) (D : va_G) (cy : Nat → Nat) (σ : Wd) (tg ad : Nat → Nat) (bs : List Bn) (ru : Nat → Int × Int) (se : Int) (pf : Nat → Int) (hd : Hd) (ca : Int) (evs : List Evt) (ln : List Int) (hX0 : RX cy σ tg ad bs ru se pf hd ca evs ln) (z : Int) (hz : (-2147483648 ≤ z ∧ z < 2147483648)) (h : z < 0 ∨ 2000 < z) : Ct l yX6_setFutures cX6_setFutures 2 (some .int) 4 1 6 D cy [.ref (ad 0), vi (z)] σ (fun v σ' => False) (fun E9 σ' => E9 = "java/lang/IllegalArgumentException" ∧ σ' = σ) := by
  refine ct_start (by decide +kernel) hfl rfl (fun κ e1 e2 e3 C E NH => ?_)
  subst e1 e2 e3
  have C : Cx κ cX6_setFutures 2 RX6 "setFutures" 4 := C
  obtain ⟨-, -, -, -, hc, hs⟩ := id E
  show J κ σ [(0, .ref (ad 0)), (1, vi (z))] 0 [] 0 0
  have hXX := hX0
  obtain ⟨⟨x1, x2⟩, hB, ⟨bsA, hA, hAe⟩, hEv, hX, hO⟩ := hXX
  obtain ⟨⟨hR, t7, t8, t9⟩, ⟨hPr, t10⟩, ⟨hH, t11, t12⟩, cap0, hSb, t13, t14⟩ := id hX
  have hL1 := hB.1.1
  have hL5 := hEv.1.1
  have hbl := bins_len ad 100 bs.length
  have hel9 := evl_len ad evs.length
  have h6 := hB.2.1
  obtain ⟨⟨hc1, hc2⟩, hc3, hc4⟩ := hO.2.2.2.1
  have hev80 := hO.2.2.1.2
  have hpr := hO.2.2.2.2.1
  have hRo := hR.1
  have hHo := hH.1
  obtain ⟨ml0, g0, hSc, -⟩ := id hSb
  have hSo := hSc.1
  have hTb := totB_in hO.2.1
  obtain ⟨m91, hl91, -⟩ := id hL1
  obtain ⟨m92, hl92, -⟩ := id hL5
  refine j_iload_n 1 C dX6_setFutures_0 rfl rfl rfl ?_
  refine j_iconst C dX6_setFutures_1 rfl ?_
  refine j_sipush C dX6_setFutures_2 rfl (by decide) ?_
  refine j_callS (st' := []) (As := [vi (z), vi (0), vi (2000)]) C dX6_setFutures_5 rfl m_X6_51 rfl rfl (c_crB (kL κ) hfl (kD κ) (kc κ) σ z 0 2000 hz ⟨by omega, by omega⟩ h) rfl (by omega) (by omega) (by omega) (fun E9 σ9 hx => jx_out C E NH (by omega) (by omega) hx) (fun v2 τ1 hp3 => ?_)
  exact hp3.elim
