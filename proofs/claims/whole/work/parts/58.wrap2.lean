/-! the law's calls: blends -/
set_option maxHeartbeats 8000000 in
set_option maxRecDepth 20000 in
theorem W_blendCost (l : Launch) (hfl : l.stackTraces = false) (D : va_G) (cy : Nat → Nat) (σ : Wd) (tg ad : Nat → Nat) (bs : List Bn) (ru : Nat → Int × Int) (se : Int) (pf : Nat → Int) (hd : Hd) (ca : Int) (evs : List Evt) (ln : List Int) (hX0 : RX cy σ tg ad bs ru se pf hd ca evs ln) (o : Nat) (g0 : Nat → Int) (hout : has σ o (lA cy 1 g0)) (hot : 1000 ≤ tg o) (a : Int) (ha9 : (-2147483648 ≤ a ∧ a < 2147483648)) (b : Int) (hb9 : (-2147483648 ≤ b ∧ b < 2147483648)) (n : Int) (hn9 : (-2147483648 ≤ n ∧ n < 2147483648)) (x : Int) (hx9 : (-2147483648 ≤ x ∧ x < 2147483648)) : CtN l yL_blendCost cL_blendCost 7 (some .int) [(0, 14, 17, 21), (0, 14, 21, 13), (0, 14, 25, 90)] 8 250 7604 D cy [.ref (ad 0), vi (a), vi (b), vi (n), vi (x), .ref o] σ (fun v σ' => v = some (vi (o_blendCost bs ru se pf hd ca evs ln a b n x).1) ∧ (∃ tg' ad' : Nat → Nat, RXs cy σ' tg' ad' (o_blendCost bs ru se pf hd ca evs ln a b n x).2.2 ∧ (∀ y, y ∈ σ.1 → tg' y = tg y) ∧ ad' 0 = ad 0) ∧ (∃ g' : Nat → Int, has σ' o (lA cy 1 g') ∧ ((o_blendCost bs ru se pf hd ca evs ln a b n x).1 = 0 → g' 0 = w32 (o_blendCost bs ru se pf hd ca evs ln a b n x).2.1)) ∧ Keep σ σ' (fun y => tg y < 1000 ∨ y = o) ∧ ∀ y, y ∈ σ.1 → y ∈ σ'.1) noX := by
  refine cth_start (by decide +kernel) hfl rfl (fun κ e1 e2 e3 C E HH HN => ?_)
  subst e1 e2 e3
  have C : Cx κ cL_blendCost 7 RL "blendCost" 8 := C
  obtain ⟨-, -, -, -, hc, hs⟩ := id E
  show J κ σ [(0, .ref (ad 0)), (1, vi (a)), (2, vi (b)), (3, vi (n)), (4, vi (x)), (5, .ref o)] 0 [] 0 0
  have hXX := hX0
  obtain ⟨⟨x1, x2⟩, -, -, -, -, hO⟩ := hXX
  have h6 := hO.1
  have hlb := hO.2.2.1
  refine j_aload 5 C dL_blendCost_0 rfl rfl ?_
  refine j_iconst C dL_blendCost_2 rfl ?_
  refine j_aload_n 0 C dL_blendCost_3 rfl rfl rfl ?_
  refine j_iload_n 1 C dL_blendCost_4 rfl rfl rfl ?_
  refine j_iload_n 2 C dL_blendCost_5 rfl rfl rfl ?_
  refine j_iload_n 3 C dL_blendCost_6 rfl rfl rfl ?_
  refine j_iload 4 C dL_blendCost_7 rfl rfl ?_
  rcases Classical.em (a < 0 ∨ (bs.length : Int) ≤ a ∨ b < 0 ∨ (bs.length : Int) ≤ b) with hq | hq
  · have ho : o_blendCost bs ru se pf hd ca evs ln a b n x = (1, 0, (bs, ru, se, pf, hd, ca, evs, ln)) := by unfold o_blendCost; rw [if_pos (by omega)]
    refine j_callV (st' := [vi (0), .ref o]) (As := [vi (a), vi (b), vi (n), vi (x)]) C dL_blendCost_9 rfl m_L_87 x1 rfl rfl rfl (c_blendCostB0 (kL κ) hfl (kD κ) (kc κ) σ tg ad bs ru se pf hd ca evs ln hX0 a b ha9 hb9 n x hn9 hx9 (by omega)) rfl (by omega) (by omega) (by omega) (fun E9 τ2 hx => ?_) (fun _ _ hx => hx.elim)
    obtain ⟨rfl, hs9⟩ := hx
    replace hs9 := hs9.symm
    subst hs9
    refine j_catch [] (0, 14, 17, 21) [(0, 14, 21, 13), (0, 14, 25, 90)] C HH HN rfl (fun z hz => absurd hz List.not_mem_nil) ⟨by decide, by decide⟩ (by decide) hl_21 hc_21 (fun q9 => ?_)
    refine j_astore (lv' := [(0, .ref (ad 0)), (1, vi (a)), (2, vi (b)), (3, vi (n)), (4, vi (x)), (5, .ref o), (6, .ref q9)]) [1, 2, 3, 4, 5, 6, 0] C dL_blendCost_17 rfl rfl rfl ?_
    refine j_iconst C dL_blendCost_19 rfl ?_
    exact j_iret C E dL_blendCost_20 (by omega) (by omega) ⟨by rw [ho], ⟨tg, ad, by rw [ho]; exact hX0, fun _ _ => rfl, rfl⟩, ⟨g0, hout, fun h9 => by rw [ho] at h9; exact absurd (show (1 : Int) = 0 from h9) (by decide)⟩, Keep.rf, fun _ hy => hy⟩
  · obtain ⟨i, hi, rfl⟩ : ∃ i : Nat, i < bs.length ∧ a = (i : Int) := ⟨a.toNat, by omega, by omega⟩
    obtain ⟨j, hj, rfl⟩ : ∃ j : Nat, j < bs.length ∧ b = (j : Int) := ⟨b.toNat, by omega, by omega⟩
    rcases Classical.em ((i : Int) = (j : Int) ∨ n < 1 ∨ 500 < n ∨ x < 80 ∨ 300 < x) with hq2 | hq2
    · have ho : o_blendCost bs ru se pf hd ca evs ln (i : Int) (j : Int) n x = (2, 0, (bs, ru, se, pf, hd, ca, evs, ln)) := by unfold o_blendCost; rw [if_neg (by omega), if_pos (by omega)]
      refine j_callV (st' := [vi (0), .ref o]) (As := [vi ((i : Int)), vi ((j : Int)), vi (n), vi (x)]) C dL_blendCost_9 rfl m_L_87 x1 rfl rfl rfl (c_blendCostB1 (kL κ) hfl (kD κ) (kc κ) σ tg ad bs ru se pf hd ca evs ln hX0 i hi j hj n x hn9 hx9 (by omega)) rfl (by omega) (by omega) (by omega) (fun E9 τ5 hx => ?_) (fun _ _ hx => hx.elim)
      obtain ⟨rfl, hs9⟩ := hx
      replace hs9 := hs9.symm
      subst hs9
      refine j_catch [(0, 14, 17, 21)] (0, 14, 21, 13) [(0, 14, 25, 90)] C HH HN rfl (List.forall_mem_cons.mpr ⟨⟨by decide, "java/lang/IndexOutOfBoundsException", hl_21, by decide⟩, fun z hz => absurd hz List.not_mem_nil⟩) ⟨by decide, by decide⟩ (by decide) hl_13 hc_13 (fun q9 => ?_)
      refine j_astore (lv' := [(0, .ref (ad 0)), (1, vi ((i : Int))), (2, vi ((j : Int))), (3, vi (n)), (4, vi (x)), (5, .ref o), (6, .ref q9)]) [1, 2, 3, 4, 5, 6, 0] C dL_blendCost_21 rfl rfl rfl ?_
      refine j_iconst C dL_blendCost_23 rfl ?_
      exact j_iret C E dL_blendCost_24 (by omega) (by omega) ⟨by rw [ho], ⟨tg, ad, by rw [ho]; exact hX0, fun _ _ => rfl, rfl⟩, ⟨g0, hout, fun h9 => by rw [ho] at h9; exact absurd (show (2 : Int) = 0 from h9) (by decide)⟩, Keep.rf, fun _ hy => hy⟩
    · rcases Classical.em (¬ (bestF pf (fl (gB bs (i : Int))) (fl (gB bs (j : Int))) n (n * x)).1 = true) with hq3 | hq3
      · have ho : o_blendCost bs ru se pf hd ca evs ln (i : Int) (j : Int) n x = (3, 0, (bs, ru, se, pf, hd, ca, evs, ln)) := by unfold o_blendCost; rw [if_neg (by omega), if_neg (by omega), if_pos hq3]
        refine j_callV (st' := [vi (0), .ref o]) (As := [vi ((i : Int)), vi ((j : Int)), vi (n), vi (x)]) C dL_blendCost_9 rfl m_L_87 x1 rfl rfl rfl (c_blendCostB2 (kL κ) hfl (kD κ) (kc κ) σ tg ad bs ru se pf hd ca evs ln hX0 i hi j hj (by omega) n x hn9 hx9 ⟨by omega, by omega⟩ ⟨by omega, by omega⟩ hq3) rfl (by omega) (by omega) (by omega) (fun E9 τ8 hx => ?_) (fun _ _ hx => hx.elim)
        obtain ⟨rfl, hK1⟩ := hx
        have hR1 := hX0.keep0 hK1
        refine j_catch [(0, 14, 17, 21), (0, 14, 21, 13)] (0, 14, 25, 90) [] C HH HN rfl (List.forall_mem_cons.mpr ⟨⟨by decide, "java/lang/IndexOutOfBoundsException", hl_21, by decide⟩, List.forall_mem_cons.mpr ⟨⟨by decide, "java/lang/IllegalArgumentException", hl_13, by decide⟩, fun z hz => absurd hz List.not_mem_nil⟩⟩) ⟨by decide, by decide⟩ (by decide) hl_90 hc_90 (fun q9 => ?_)
        refine j_astore (lv' := [(0, .ref (ad 0)), (1, vi ((i : Int))), (2, vi ((j : Int))), (3, vi (n)), (4, vi (x)), (5, .ref o), (6, .ref q9)]) [1, 2, 3, 4, 5, 6, 0] C dL_blendCost_25 rfl rfl rfl ?_
        refine j_iconst C dL_blendCost_27 rfl ?_
        exact j_iret C E dL_blendCost_28 (by omega) (by omega) ⟨by rw [ho], ⟨tg, ad, by rw [ho]; exact hR1, fun _ _ => rfl, rfl⟩, ⟨g0, hK1 _ _ hout (fun z => z), fun h9 => by rw [ho] at h9; exact absurd (show (3 : Int) = 0 from h9) (by decide)⟩, hK1.mono (fun _ z => z.elim), fun y hy => hK1.mem hy (fun z => z)⟩
      · have ho : o_blendCost bs ru se pf hd ca evs ln (i : Int) (j : Int) n x = (0, (bestF pf (fl (gB bs (i : Int))) (fl (gB bs (j : Int))) n (n * x)).2.2, (bs, ru, se, pf, hd, ca, evs, ln)) := by unfold o_blendCost; rw [if_neg (by omega), if_neg (by omega), if_neg hq3]
        refine j_callV (st' := [vi (0), .ref o]) (As := [vi ((i : Int)), vi ((j : Int)), vi (n), vi (x)]) C dL_blendCost_9 rfl m_L_87 x1 rfl rfl rfl (c_blendCost (kL κ) hfl (kD κ) (kc κ) σ tg ad bs ru se pf hd ca evs ln hX0 i hi j hj (by omega) n x hn9 hx9 ⟨by omega, by omega⟩ ⟨by omega, by omega⟩ (Classical.not_not.mp hq3)) rfl (by omega) (by omega) (by omega) (fun _ _ hx => hx.elim) (fun v11 τ10 hp12 => ?_)
        obtain ⟨rfl, hK1⟩ := hp12
        have hR1 := hX0.keep0 hK1
        have ho1 := hK1 _ _ hout (fun z => z)
        have hmm1 : ∀ y, y ∈ σ.1 → y ∈ τ10.1 := fun y hy => hK1.mem hy (fun z => z)
        show J κ τ10 [(0, .ref (ad 0)), (1, vi ((i : Int))), (2, vi ((j : Int))), (3, vi (n)), (4, vi (x)), (5, .ref o)] 12 [vi ((bestF pf (fl (gB bs (i : Int))) (fl (gB bs (j : Int))) n (n * x)).2.2), vi (0), .ref o] _ _
        rw [vi_w ((bestF pf (fl (gB bs (i : Int))) (fl (gB bs (j : Int))) n (n * x)).2.2)]
        refine j_i2l C dL_blendCost_12 rfl (w32_in _) ?_
        refine j_last C dL_blendCost_13 rfl ho1 ⟨by omega, by omega⟩ (by omega) (fun τ13 ee14 => ?_)
        have u15 : has τ13 o (lA (kc κ) 1 (ups g0 0 (w32 ((bestF pf (fl (gB bs (i : Int))) (fl (gB bs (j : Int))) n (n * x)).2.2)))) := ho1.self' ee14
        refine j_goto (tgt := 29) C dL_blendCost_14 rfl ?_
        refine j_iconst C dL_blendCost_29 rfl ?_
        exact j_iret C E dL_blendCost_30 (by omega) (by omega) ⟨by rw [ho], ⟨tg, ad, by rw [ho]; exact hR1.keepO ee14 hot, (fun _ _ => rfl), rfl⟩, ⟨_, u15, fun _ => by rw [ho]; exact ups_u rfl⟩, (hK1.mono (fun _ z => z.elim) : Keep σ τ10 (fun y => tg y < 1000 ∨ y = o)).put ee14 (Or.inr rfl), fun y hy => by rw [dom_put ee14]; exact hmm1 y hy⟩
set_option maxHeartbeats 8000000 in
set_option maxRecDepth 20000 in
theorem W_blendCostByTrying (l : Launch) (hfl : l.stackTraces = false) (D : va_G) (cy : Nat → Nat) (σ : Wd) (tg ad : Nat → Nat) (bs : List Bn) (ru : Nat → Int × Int) (se : Int) (pf : Nat → Int) (hd : Hd) (ca : Int) (evs : List Evt) (ln : List Int) (hX0 : RX cy σ tg ad bs ru se pf hd ca evs ln) (o : Nat) (g0 : Nat → Int) (hout : has σ o (lA cy 1 g0)) (hot : 1000 ≤ tg o) (a : Int) (ha9 : (-2147483648 ≤ a ∧ a < 2147483648)) (b : Int) (hb9 : (-2147483648 ≤ b ∧ b < 2147483648)) (n : Int) (hn9 : (-2147483648 ≤ n ∧ n < 2147483648)) (x : Int) (hx9 : (-2147483648 ≤ x ∧ x < 2147483648)) : CtN l yL_blendCostByTrying cL_blendCostByTrying 7 (some .int) [(0, 14, 17, 21), (0, 14, 21, 13), (0, 14, 25, 90)] 8 250 7604 D cy [.ref (ad 0), vi (a), vi (b), vi (n), vi (x), .ref o] σ (fun v σ' => v = some (vi (o_blendCost bs ru se pf hd ca evs ln a b n x).1) ∧ (∃ tg' ad' : Nat → Nat, RXs cy σ' tg' ad' (o_blendCost bs ru se pf hd ca evs ln a b n x).2.2 ∧ (∀ y, y ∈ σ.1 → tg' y = tg y) ∧ ad' 0 = ad 0) ∧ (∃ g' : Nat → Int, has σ' o (lA cy 1 g') ∧ ((o_blendCost bs ru se pf hd ca evs ln a b n x).1 = 0 → g' 0 = w32 (o_blendCost bs ru se pf hd ca evs ln a b n x).2.1)) ∧ Keep σ σ' (fun y => tg y < 1000 ∨ y = o) ∧ ∀ y, y ∈ σ.1 → y ∈ σ'.1) noX := by
  refine cth_start (by decide +kernel) hfl rfl (fun κ e1 e2 e3 C E HH HN => ?_)
  subst e1 e2 e3
  have C : Cx κ cL_blendCostByTrying 7 RL "blendCostByTrying" 8 := C
  obtain ⟨-, -, -, -, hc, hs⟩ := id E
  show J κ σ [(0, .ref (ad 0)), (1, vi (a)), (2, vi (b)), (3, vi (n)), (4, vi (x)), (5, .ref o)] 0 [] 0 0
  have hXX := hX0
  obtain ⟨⟨x1, x2⟩, -, -, -, -, hO⟩ := hXX
  have h6 := hO.1
  have hlb := hO.2.2.1
  refine j_aload 5 C dL_blendCostByTrying_0 rfl rfl ?_
  refine j_iconst C dL_blendCostByTrying_2 rfl ?_
  refine j_aload_n 0 C dL_blendCostByTrying_3 rfl rfl rfl ?_
  refine j_iload_n 1 C dL_blendCostByTrying_4 rfl rfl rfl ?_
  refine j_iload_n 2 C dL_blendCostByTrying_5 rfl rfl rfl ?_
  refine j_iload_n 3 C dL_blendCostByTrying_6 rfl rfl rfl ?_
  refine j_iload 4 C dL_blendCostByTrying_7 rfl rfl ?_
  rcases Classical.em (a < 0 ∨ (bs.length : Int) ≤ a ∨ b < 0 ∨ (bs.length : Int) ≤ b) with hq | hq
  · have ho : o_blendCost bs ru se pf hd ca evs ln a b n x = (1, 0, (bs, ru, se, pf, hd, ca, evs, ln)) := by unfold o_blendCost; rw [if_pos (by omega)]
    refine j_callV (st' := [vi (0), .ref o]) (As := [vi (a), vi (b), vi (n), vi (x)]) C dL_blendCostByTrying_9 rfl m_L_92 x1 rfl rfl rfl (c_blendCostTryB0 (kL κ) hfl (kD κ) (kc κ) σ tg ad bs ru se pf hd ca evs ln hX0 a b ha9 hb9 n x hn9 hx9 (by omega)) rfl (by omega) (by omega) (by omega) (fun E9 τ2 hx => ?_) (fun _ _ hx => hx.elim)
    obtain ⟨rfl, hs9⟩ := hx
    replace hs9 := hs9.symm
    subst hs9
    refine j_catch [] (0, 14, 17, 21) [(0, 14, 21, 13), (0, 14, 25, 90)] C HH HN rfl (fun z hz => absurd hz List.not_mem_nil) ⟨by decide, by decide⟩ (by decide) hl_21 hc_21 (fun q9 => ?_)
    refine j_astore (lv' := [(0, .ref (ad 0)), (1, vi (a)), (2, vi (b)), (3, vi (n)), (4, vi (x)), (5, .ref o), (6, .ref q9)]) [1, 2, 3, 4, 5, 6, 0] C dL_blendCostByTrying_17 rfl rfl rfl ?_
    refine j_iconst C dL_blendCostByTrying_19 rfl ?_
    exact j_iret C E dL_blendCostByTrying_20 (by omega) (by omega) ⟨by rw [ho], ⟨tg, ad, by rw [ho]; exact hX0, fun _ _ => rfl, rfl⟩, ⟨g0, hout, fun h9 => by rw [ho] at h9; exact absurd (show (1 : Int) = 0 from h9) (by decide)⟩, Keep.rf, fun _ hy => hy⟩
  · obtain ⟨i, hi, rfl⟩ : ∃ i : Nat, i < bs.length ∧ a = (i : Int) := ⟨a.toNat, by omega, by omega⟩
    obtain ⟨j, hj, rfl⟩ : ∃ j : Nat, j < bs.length ∧ b = (j : Int) := ⟨b.toNat, by omega, by omega⟩
    rcases Classical.em ((i : Int) = (j : Int) ∨ n < 1 ∨ 500 < n ∨ x < 80 ∨ 300 < x) with hq2 | hq2
    · have ho : o_blendCost bs ru se pf hd ca evs ln (i : Int) (j : Int) n x = (2, 0, (bs, ru, se, pf, hd, ca, evs, ln)) := by unfold o_blendCost; rw [if_neg (by omega), if_pos (by omega)]
      refine j_callV (st' := [vi (0), .ref o]) (As := [vi ((i : Int)), vi ((j : Int)), vi (n), vi (x)]) C dL_blendCostByTrying_9 rfl m_L_92 x1 rfl rfl rfl (c_blendCostTryB1 (kL κ) hfl (kD κ) (kc κ) σ tg ad bs ru se pf hd ca evs ln hX0 i hi j hj n x hn9 hx9 (by omega)) rfl (by omega) (by omega) (by omega) (fun E9 τ5 hx => ?_) (fun _ _ hx => hx.elim)
      obtain ⟨rfl, hs9⟩ := hx
      replace hs9 := hs9.symm
      subst hs9
      refine j_catch [(0, 14, 17, 21)] (0, 14, 21, 13) [(0, 14, 25, 90)] C HH HN rfl (List.forall_mem_cons.mpr ⟨⟨by decide, "java/lang/IndexOutOfBoundsException", hl_21, by decide⟩, fun z hz => absurd hz List.not_mem_nil⟩) ⟨by decide, by decide⟩ (by decide) hl_13 hc_13 (fun q9 => ?_)
      refine j_astore (lv' := [(0, .ref (ad 0)), (1, vi ((i : Int))), (2, vi ((j : Int))), (3, vi (n)), (4, vi (x)), (5, .ref o), (6, .ref q9)]) [1, 2, 3, 4, 5, 6, 0] C dL_blendCostByTrying_21 rfl rfl rfl ?_
      refine j_iconst C dL_blendCostByTrying_23 rfl ?_
      exact j_iret C E dL_blendCostByTrying_24 (by omega) (by omega) ⟨by rw [ho], ⟨tg, ad, by rw [ho]; exact hX0, fun _ _ => rfl, rfl⟩, ⟨g0, hout, fun h9 => by rw [ho] at h9; exact absurd (show (2 : Int) = 0 from h9) (by decide)⟩, Keep.rf, fun _ hy => hy⟩
    · rcases Classical.em (¬ (bestF pf (fl (gB bs (i : Int))) (fl (gB bs (j : Int))) n (n * x)).1 = true) with hq3 | hq3
      · have ho : o_blendCost bs ru se pf hd ca evs ln (i : Int) (j : Int) n x = (3, 0, (bs, ru, se, pf, hd, ca, evs, ln)) := by unfold o_blendCost; rw [if_neg (by omega), if_neg (by omega), if_pos hq3]
        refine j_callV (st' := [vi (0), .ref o]) (As := [vi ((i : Int)), vi ((j : Int)), vi (n), vi (x)]) C dL_blendCostByTrying_9 rfl m_L_92 x1 rfl rfl rfl (c_blendCostTryB2 (kL κ) hfl (kD κ) (kc κ) σ tg ad bs ru se pf hd ca evs ln hX0 i hi j hj (by omega) n x hn9 hx9 ⟨by omega, by omega⟩ ⟨by omega, by omega⟩ hq3) rfl (by omega) (by omega) (by omega) (fun E9 τ8 hx => ?_) (fun _ _ hx => hx.elim)
        obtain ⟨rfl, hK1⟩ := hx
        have hR1 := hX0.keep0 hK1
        refine j_catch [(0, 14, 17, 21), (0, 14, 21, 13)] (0, 14, 25, 90) [] C HH HN rfl (List.forall_mem_cons.mpr ⟨⟨by decide, "java/lang/IndexOutOfBoundsException", hl_21, by decide⟩, List.forall_mem_cons.mpr ⟨⟨by decide, "java/lang/IllegalArgumentException", hl_13, by decide⟩, fun z hz => absurd hz List.not_mem_nil⟩⟩) ⟨by decide, by decide⟩ (by decide) hl_90 hc_90 (fun q9 => ?_)
        refine j_astore (lv' := [(0, .ref (ad 0)), (1, vi ((i : Int))), (2, vi ((j : Int))), (3, vi (n)), (4, vi (x)), (5, .ref o), (6, .ref q9)]) [1, 2, 3, 4, 5, 6, 0] C dL_blendCostByTrying_25 rfl rfl rfl ?_
        refine j_iconst C dL_blendCostByTrying_27 rfl ?_
        exact j_iret C E dL_blendCostByTrying_28 (by omega) (by omega) ⟨by rw [ho], ⟨tg, ad, by rw [ho]; exact hR1, fun _ _ => rfl, rfl⟩, ⟨g0, hK1 _ _ hout (fun z => z), fun h9 => by rw [ho] at h9; exact absurd (show (3 : Int) = 0 from h9) (by decide)⟩, hK1.mono (fun _ z => z.elim), fun y hy => hK1.mem hy (fun z => z)⟩
      · have ho : o_blendCost bs ru se pf hd ca evs ln (i : Int) (j : Int) n x = (0, (bestF pf (fl (gB bs (i : Int))) (fl (gB bs (j : Int))) n (n * x)).2.2, (bs, ru, se, pf, hd, ca, evs, ln)) := by unfold o_blendCost; rw [if_neg (by omega), if_neg (by omega), if_neg hq3]
        refine j_callV (st' := [vi (0), .ref o]) (As := [vi ((i : Int)), vi ((j : Int)), vi (n), vi (x)]) C dL_blendCostByTrying_9 rfl m_L_92 x1 rfl rfl rfl (c_blendCostTry (kL κ) hfl (kD κ) (kc κ) σ tg ad bs ru se pf hd ca evs ln hX0 i hi j hj (by omega) n x hn9 hx9 ⟨by omega, by omega⟩ ⟨by omega, by omega⟩ (Classical.not_not.mp hq3)) rfl (by omega) (by omega) (by omega) (fun _ _ hx => hx.elim) (fun v11 τ10 hp12 => ?_)
        obtain ⟨rfl, hK1⟩ := hp12
        have hR1 := hX0.keep0 hK1
        have ho1 := hK1 _ _ hout (fun z => z)
        have hmm1 : ∀ y, y ∈ σ.1 → y ∈ τ10.1 := fun y hy => hK1.mem hy (fun z => z)
        show J κ τ10 [(0, .ref (ad 0)), (1, vi ((i : Int))), (2, vi ((j : Int))), (3, vi (n)), (4, vi (x)), (5, .ref o)] 12 [vi ((bestF pf (fl (gB bs (i : Int))) (fl (gB bs (j : Int))) n (n * x)).2.2), vi (0), .ref o] _ _
        rw [vi_w ((bestF pf (fl (gB bs (i : Int))) (fl (gB bs (j : Int))) n (n * x)).2.2)]
        refine j_i2l C dL_blendCostByTrying_12 rfl (w32_in _) ?_
        refine j_last C dL_blendCostByTrying_13 rfl ho1 ⟨by omega, by omega⟩ (by omega) (fun τ13 ee14 => ?_)
        have u15 : has τ13 o (lA (kc κ) 1 (ups g0 0 (w32 ((bestF pf (fl (gB bs (i : Int))) (fl (gB bs (j : Int))) n (n * x)).2.2)))) := ho1.self' ee14
        refine j_goto (tgt := 29) C dL_blendCostByTrying_14 rfl ?_
        refine j_iconst C dL_blendCostByTrying_29 rfl ?_
        exact j_iret C E dL_blendCostByTrying_30 (by omega) (by omega) ⟨by rw [ho], ⟨tg, ad, by rw [ho]; exact hR1.keepO ee14 hot, (fun _ _ => rfl), rfl⟩, ⟨_, u15, fun _ => by rw [ho]; exact ups_u rfl⟩, (hK1.mono (fun _ z => z.elim) : Keep σ τ10 (fun y => tg y < 1000 ∨ y = o)).put ee14 (Or.inr rfl), fun y hy => by rw [dom_put ee14]; exact hmm1 y hy⟩
set_option maxHeartbeats 8000000 in
set_option maxRecDepth 20000 in
theorem W_blendShare (l : Launch) (hfl : l.stackTraces = false) (D : va_G) (cy : Nat → Nat) (σ : Wd) (tg ad : Nat → Nat) (bs : List Bn) (ru : Nat → Int × Int) (se : Int) (pf : Nat → Int) (hd : Hd) (ca : Int) (evs : List Evt) (ln : List Int) (hX0 : RX cy σ tg ad bs ru se pf hd ca evs ln) (o : Nat) (g0 : Nat → Int) (hout : has σ o (lA cy 1 g0)) (hot : 1000 ≤ tg o) (a : Int) (ha9 : (-2147483648 ≤ a ∧ a < 2147483648)) (b : Int) (hb9 : (-2147483648 ≤ b ∧ b < 2147483648)) (n : Int) (hn9 : (-2147483648 ≤ n ∧ n < 2147483648)) (x : Int) (hx9 : (-2147483648 ≤ x ∧ x < 2147483648)) : CtN l yL_blendShare cL_blendShare 7 (some .int) [(0, 14, 17, 21), (0, 14, 21, 13), (0, 14, 25, 90)] 8 250 7604 D cy [.ref (ad 0), vi (a), vi (b), vi (n), vi (x), .ref o] σ (fun v σ' => v = some (vi (o_blendShare bs ru se pf hd ca evs ln a b n x).1) ∧ (∃ tg' ad' : Nat → Nat, RXs cy σ' tg' ad' (o_blendShare bs ru se pf hd ca evs ln a b n x).2.2 ∧ (∀ y, y ∈ σ.1 → tg' y = tg y) ∧ ad' 0 = ad 0) ∧ (∃ g' : Nat → Int, has σ' o (lA cy 1 g') ∧ ((o_blendShare bs ru se pf hd ca evs ln a b n x).1 = 0 → g' 0 = w32 (o_blendShare bs ru se pf hd ca evs ln a b n x).2.1)) ∧ Keep σ σ' (fun y => tg y < 1000 ∨ y = o) ∧ ∀ y, y ∈ σ.1 → y ∈ σ'.1) noX := by
  refine cth_start (by decide +kernel) hfl rfl (fun κ e1 e2 e3 C E HH HN => ?_)
  subst e1 e2 e3
  have C : Cx κ cL_blendShare 7 RL "blendShare" 8 := C
  obtain ⟨-, -, -, -, hc, hs⟩ := id E
  show J κ σ [(0, .ref (ad 0)), (1, vi (a)), (2, vi (b)), (3, vi (n)), (4, vi (x)), (5, .ref o)] 0 [] 0 0
  have hXX := hX0
  obtain ⟨⟨x1, x2⟩, -, -, -, -, hO⟩ := hXX
  have h6 := hO.1
  have hlb := hO.2.2.1
  refine j_aload 5 C dL_blendShare_0 rfl rfl ?_
  refine j_iconst C dL_blendShare_2 rfl ?_
  refine j_aload_n 0 C dL_blendShare_3 rfl rfl rfl ?_
  refine j_iload_n 1 C dL_blendShare_4 rfl rfl rfl ?_
  refine j_iload_n 2 C dL_blendShare_5 rfl rfl rfl ?_
  refine j_iload_n 3 C dL_blendShare_6 rfl rfl rfl ?_
  refine j_iload 4 C dL_blendShare_7 rfl rfl ?_
  rcases Classical.em (a < 0 ∨ (bs.length : Int) ≤ a ∨ b < 0 ∨ (bs.length : Int) ≤ b) with hq | hq
  · have ho : o_blendShare bs ru se pf hd ca evs ln a b n x = (1, 0, (bs, ru, se, pf, hd, ca, evs, ln)) := by unfold o_blendShare; rw [if_pos (by omega)]
    refine j_callV (st' := [vi (0), .ref o]) (As := [vi (a), vi (b), vi (n), vi (x)]) C dL_blendShare_9 rfl m_L_95 x1 rfl rfl rfl (c_blendShareB0 (kL κ) hfl (kD κ) (kc κ) σ tg ad bs ru se pf hd ca evs ln hX0 a b ha9 hb9 n x hn9 hx9 (by omega)) rfl (by omega) (by omega) (by omega) (fun E9 τ2 hx => ?_) (fun _ _ hx => hx.elim)
    obtain ⟨rfl, hs9⟩ := hx
    replace hs9 := hs9.symm
    subst hs9
    refine j_catch [] (0, 14, 17, 21) [(0, 14, 21, 13), (0, 14, 25, 90)] C HH HN rfl (fun z hz => absurd hz List.not_mem_nil) ⟨by decide, by decide⟩ (by decide) hl_21 hc_21 (fun q9 => ?_)
    refine j_astore (lv' := [(0, .ref (ad 0)), (1, vi (a)), (2, vi (b)), (3, vi (n)), (4, vi (x)), (5, .ref o), (6, .ref q9)]) [1, 2, 3, 4, 5, 6, 0] C dL_blendShare_17 rfl rfl rfl ?_
    refine j_iconst C dL_blendShare_19 rfl ?_
    exact j_iret C E dL_blendShare_20 (by omega) (by omega) ⟨by rw [ho], ⟨tg, ad, by rw [ho]; exact hX0, fun _ _ => rfl, rfl⟩, ⟨g0, hout, fun h9 => by rw [ho] at h9; exact absurd (show (1 : Int) = 0 from h9) (by decide)⟩, Keep.rf, fun _ hy => hy⟩
  · obtain ⟨i, hi, rfl⟩ : ∃ i : Nat, i < bs.length ∧ a = (i : Int) := ⟨a.toNat, by omega, by omega⟩
    obtain ⟨j, hj, rfl⟩ : ∃ j : Nat, j < bs.length ∧ b = (j : Int) := ⟨b.toNat, by omega, by omega⟩
    rcases Classical.em ((i : Int) = (j : Int) ∨ n < 1 ∨ 500 < n ∨ x < 80 ∨ 300 < x) with hq2 | hq2
    · have ho : o_blendShare bs ru se pf hd ca evs ln (i : Int) (j : Int) n x = (2, 0, (bs, ru, se, pf, hd, ca, evs, ln)) := by unfold o_blendShare; rw [if_neg (by omega), if_pos (by omega)]
      refine j_callV (st' := [vi (0), .ref o]) (As := [vi ((i : Int)), vi ((j : Int)), vi (n), vi (x)]) C dL_blendShare_9 rfl m_L_95 x1 rfl rfl rfl (c_blendShareB1 (kL κ) hfl (kD κ) (kc κ) σ tg ad bs ru se pf hd ca evs ln hX0 i hi j hj n x hn9 hx9 (by omega)) rfl (by omega) (by omega) (by omega) (fun E9 τ5 hx => ?_) (fun _ _ hx => hx.elim)
      obtain ⟨rfl, hs9⟩ := hx
      replace hs9 := hs9.symm
      subst hs9
      refine j_catch [(0, 14, 17, 21)] (0, 14, 21, 13) [(0, 14, 25, 90)] C HH HN rfl (List.forall_mem_cons.mpr ⟨⟨by decide, "java/lang/IndexOutOfBoundsException", hl_21, by decide⟩, fun z hz => absurd hz List.not_mem_nil⟩) ⟨by decide, by decide⟩ (by decide) hl_13 hc_13 (fun q9 => ?_)
      refine j_astore (lv' := [(0, .ref (ad 0)), (1, vi ((i : Int))), (2, vi ((j : Int))), (3, vi (n)), (4, vi (x)), (5, .ref o), (6, .ref q9)]) [1, 2, 3, 4, 5, 6, 0] C dL_blendShare_21 rfl rfl rfl ?_
      refine j_iconst C dL_blendShare_23 rfl ?_
      exact j_iret C E dL_blendShare_24 (by omega) (by omega) ⟨by rw [ho], ⟨tg, ad, by rw [ho]; exact hX0, fun _ _ => rfl, rfl⟩, ⟨g0, hout, fun h9 => by rw [ho] at h9; exact absurd (show (2 : Int) = 0 from h9) (by decide)⟩, Keep.rf, fun _ hy => hy⟩
    · rcases Classical.em (¬ (bestF pf (fl (gB bs (i : Int))) (fl (gB bs (j : Int))) n (n * x)).1 = true) with hq3 | hq3
      · have ho : o_blendShare bs ru se pf hd ca evs ln (i : Int) (j : Int) n x = (3, 0, (bs, ru, se, pf, hd, ca, evs, ln)) := by unfold o_blendShare; rw [if_neg (by omega), if_neg (by omega), if_pos hq3]
        refine j_callV (st' := [vi (0), .ref o]) (As := [vi ((i : Int)), vi ((j : Int)), vi (n), vi (x)]) C dL_blendShare_9 rfl m_L_95 x1 rfl rfl rfl (c_blendShareB2 (kL κ) hfl (kD κ) (kc κ) σ tg ad bs ru se pf hd ca evs ln hX0 i hi j hj (by omega) n x hn9 hx9 ⟨by omega, by omega⟩ ⟨by omega, by omega⟩ hq3) rfl (by omega) (by omega) (by omega) (fun E9 τ8 hx => ?_) (fun _ _ hx => hx.elim)
        obtain ⟨rfl, hK1⟩ := hx
        have hR1 := hX0.keep0 hK1
        refine j_catch [(0, 14, 17, 21), (0, 14, 21, 13)] (0, 14, 25, 90) [] C HH HN rfl (List.forall_mem_cons.mpr ⟨⟨by decide, "java/lang/IndexOutOfBoundsException", hl_21, by decide⟩, List.forall_mem_cons.mpr ⟨⟨by decide, "java/lang/IllegalArgumentException", hl_13, by decide⟩, fun z hz => absurd hz List.not_mem_nil⟩⟩) ⟨by decide, by decide⟩ (by decide) hl_90 hc_90 (fun q9 => ?_)
        refine j_astore (lv' := [(0, .ref (ad 0)), (1, vi ((i : Int))), (2, vi ((j : Int))), (3, vi (n)), (4, vi (x)), (5, .ref o), (6, .ref q9)]) [1, 2, 3, 4, 5, 6, 0] C dL_blendShare_25 rfl rfl rfl ?_
        refine j_iconst C dL_blendShare_27 rfl ?_
        exact j_iret C E dL_blendShare_28 (by omega) (by omega) ⟨by rw [ho], ⟨tg, ad, by rw [ho]; exact hR1, fun _ _ => rfl, rfl⟩, ⟨g0, hK1 _ _ hout (fun z => z), fun h9 => by rw [ho] at h9; exact absurd (show (3 : Int) = 0 from h9) (by decide)⟩, hK1.mono (fun _ z => z.elim), fun y hy => hK1.mem hy (fun z => z)⟩
      · have ho : o_blendShare bs ru se pf hd ca evs ln (i : Int) (j : Int) n x = (0, (bestF pf (fl (gB bs (i : Int))) (fl (gB bs (j : Int))) n (n * x)).2.1, (bs, ru, se, pf, hd, ca, evs, ln)) := by unfold o_blendShare; rw [if_neg (by omega), if_neg (by omega), if_neg hq3]
        refine j_callV (st' := [vi (0), .ref o]) (As := [vi ((i : Int)), vi ((j : Int)), vi (n), vi (x)]) C dL_blendShare_9 rfl m_L_95 x1 rfl rfl rfl (c_blendShare (kL κ) hfl (kD κ) (kc κ) σ tg ad bs ru se pf hd ca evs ln hX0 i hi j hj (by omega) n x hn9 hx9 ⟨by omega, by omega⟩ ⟨by omega, by omega⟩ (Classical.not_not.mp hq3)) rfl (by omega) (by omega) (by omega) (fun _ _ hx => hx.elim) (fun v11 τ10 hp12 => ?_)
        obtain ⟨rfl, hK1⟩ := hp12
        have hR1 := hX0.keep0 hK1
        have ho1 := hK1 _ _ hout (fun z => z)
        have hmm1 : ∀ y, y ∈ σ.1 → y ∈ τ10.1 := fun y hy => hK1.mem hy (fun z => z)
        show J κ τ10 [(0, .ref (ad 0)), (1, vi ((i : Int))), (2, vi ((j : Int))), (3, vi (n)), (4, vi (x)), (5, .ref o)] 12 [vi ((bestF pf (fl (gB bs (i : Int))) (fl (gB bs (j : Int))) n (n * x)).2.1), vi (0), .ref o] _ _
        rw [vi_w ((bestF pf (fl (gB bs (i : Int))) (fl (gB bs (j : Int))) n (n * x)).2.1)]
        refine j_i2l C dL_blendShare_12 rfl (w32_in _) ?_
        refine j_last C dL_blendShare_13 rfl ho1 ⟨by omega, by omega⟩ (by omega) (fun τ13 ee14 => ?_)
        have u15 : has τ13 o (lA (kc κ) 1 (ups g0 0 (w32 ((bestF pf (fl (gB bs (i : Int))) (fl (gB bs (j : Int))) n (n * x)).2.1)))) := ho1.self' ee14
        refine j_goto (tgt := 29) C dL_blendShare_14 rfl ?_
        refine j_iconst C dL_blendShare_29 rfl ?_
        exact j_iret C E dL_blendShare_30 (by omega) (by omega) ⟨by rw [ho], ⟨tg, ad, by rw [ho]; exact hR1.keepO ee14 hot, (fun _ _ => rfl), rfl⟩, ⟨_, u15, fun _ => by rw [ho]; exact ups_u rfl⟩, (hK1.mono (fun _ z => z.elim) : Keep σ τ10 (fun y => tg y < 1000 ∨ y = o)).put ee14 (Or.inr rfl), fun y hy => by rw [dom_put ee14]; exact hmm1 y hy⟩
set_option maxHeartbeats 8000000 in
set_option maxRecDepth 20000 in
theorem W_sellBlend (l : Launch) (hfl : l.stackTraces = false) (D : va_G) (cy : Nat → Nat) (σ : Wd) (tg ad : Nat → Nat) (bs : List Bn) (ru : Nat → Int × Int) (se : Int) (pf : Nat → Int) (hd : Hd) (ca : Int) (evs : List Evt) (ln : List Int) (hX0 : RX cy σ tg ad bs ru se pf hd ca evs ln) (o : Nat) (g0 : Nat → Int) (hout : has σ o (lA cy 1 g0)) (hot : 1000 ≤ tg o) (a : Int) (ha9 : (-2147483648 ≤ a ∧ a < 2147483648)) (b : Int) (hb9 : (-2147483648 ≤ b ∧ b < 2147483648)) (n : Int) (hn9 : (-2147483648 ≤ n ∧ n < 2147483648)) (x : Int) (hx9 : (-2147483648 ≤ x ∧ x < 2147483648)) : CtN l yL_sellBlend cL_sellBlend 7 (some .int) [(0, 14, 17, 21), (0, 14, 21, 13), (0, 14, 25, 90), (0, 14, 29, 15)] 8 250 7604 D cy [.ref (ad 0), vi (a), vi (b), vi (n), vi (x), .ref o] σ (fun v σ' => v = some (vi (o_sellBlend bs ru se pf hd ca evs ln a b n x).1) ∧ (∃ tg' ad' : Nat → Nat, RXs cy σ' tg' ad' (o_sellBlend bs ru se pf hd ca evs ln a b n x).2.2 ∧ (∀ y, y ∈ σ.1 → tg' y = tg y) ∧ ad' 0 = ad 0) ∧ (∃ g' : Nat → Int, has σ' o (lA cy 1 g') ∧ ((o_sellBlend bs ru se pf hd ca evs ln a b n x).1 = 0 → g' 0 = w32 (o_sellBlend bs ru se pf hd ca evs ln a b n x).2.1)) ∧ Keep σ σ' (fun y => tg y < 1000 ∨ y = o) ∧ ∀ y, y ∈ σ.1 → y ∈ σ'.1) noX := by
  refine cth_start (by decide +kernel) hfl rfl (fun κ e1 e2 e3 C E HH HN => ?_)
  subst e1 e2 e3
  have C : Cx κ cL_sellBlend 7 RL "sellBlend" 8 := C
  obtain ⟨-, -, -, -, hc, hs⟩ := id E
  show J κ σ [(0, .ref (ad 0)), (1, vi (a)), (2, vi (b)), (3, vi (n)), (4, vi (x)), (5, .ref o)] 0 [] 0 0
  have hXX := hX0
  obtain ⟨⟨x1, x2⟩, -, -, -, -, hO⟩ := hXX
  have h6 := hO.1
  have hlb := hO.2.2.1
  refine j_aload 5 C dL_sellBlend_0 rfl rfl ?_
  refine j_iconst C dL_sellBlend_2 rfl ?_
  refine j_aload_n 0 C dL_sellBlend_3 rfl rfl rfl ?_
  refine j_iload_n 1 C dL_sellBlend_4 rfl rfl rfl ?_
  refine j_iload_n 2 C dL_sellBlend_5 rfl rfl rfl ?_
  refine j_iload_n 3 C dL_sellBlend_6 rfl rfl rfl ?_
  refine j_iload 4 C dL_sellBlend_7 rfl rfl ?_
  rcases Classical.em (a < 0 ∨ (bs.length : Int) ≤ a ∨ b < 0 ∨ (bs.length : Int) ≤ b) with hq | hq
  · have ho : o_sellBlend bs ru se pf hd ca evs ln a b n x = (1, 0, (bs, ru, se, pf, hd, ca, evs, ln)) := by unfold o_sellBlend; rw [if_pos (by omega)]
    refine j_callV (st' := [vi (0), .ref o]) (As := [vi (a), vi (b), vi (n), vi (x)]) C dL_sellBlend_9 rfl m_L_98 x1 rfl rfl rfl (c_sellBlendB0 (kL κ) hfl (kD κ) (kc κ) σ tg ad bs ru se pf hd ca evs ln hX0 a b ha9 hb9 n x hn9 hx9 (by omega)) rfl (by omega) (by omega) (by omega) (fun E9 τ2 hx => ?_) (fun _ _ hx => hx.elim)
    obtain ⟨rfl, hs9⟩ := hx
    replace hs9 := hs9.symm
    subst hs9
    refine j_catch [] (0, 14, 17, 21) [(0, 14, 21, 13), (0, 14, 25, 90), (0, 14, 29, 15)] C HH HN rfl (fun z hz => absurd hz List.not_mem_nil) ⟨by decide, by decide⟩ (by decide) hl_21 hc_21 (fun q9 => ?_)
    refine j_astore (lv' := [(0, .ref (ad 0)), (1, vi (a)), (2, vi (b)), (3, vi (n)), (4, vi (x)), (5, .ref o), (6, .ref q9)]) [1, 2, 3, 4, 5, 6, 0] C dL_sellBlend_17 rfl rfl rfl ?_
    refine j_iconst C dL_sellBlend_19 rfl ?_
    exact j_iret C E dL_sellBlend_20 (by omega) (by omega) ⟨by rw [ho], ⟨tg, ad, by rw [ho]; exact hX0, fun _ _ => rfl, rfl⟩, ⟨g0, hout, fun h9 => by rw [ho] at h9; exact absurd (show (1 : Int) = 0 from h9) (by decide)⟩, Keep.rf, fun _ hy => hy⟩
  · obtain ⟨i, hi, rfl⟩ : ∃ i : Nat, i < bs.length ∧ a = (i : Int) := ⟨a.toNat, by omega, by omega⟩
    obtain ⟨j, hj, rfl⟩ : ∃ j : Nat, j < bs.length ∧ b = (j : Int) := ⟨b.toNat, by omega, by omega⟩
    rcases Classical.em ((i : Int) = (j : Int) ∨ n < 1 ∨ 500 < n ∨ x < 80 ∨ 300 < x) with hq2 | hq2
    · have ho : o_sellBlend bs ru se pf hd ca evs ln (i : Int) (j : Int) n x = (2, 0, (bs, ru, se, pf, hd, ca, evs, ln)) := by unfold o_sellBlend; rw [if_neg (by omega), if_pos (by omega)]
      refine j_callV (st' := [vi (0), .ref o]) (As := [vi ((i : Int)), vi ((j : Int)), vi (n), vi (x)]) C dL_sellBlend_9 rfl m_L_98 x1 rfl rfl rfl (c_sellBlendB1 (kL κ) hfl (kD κ) (kc κ) σ tg ad bs ru se pf hd ca evs ln hX0 i hi j hj n x hn9 hx9 (by omega)) rfl (by omega) (by omega) (by omega) (fun E9 τ5 hx => ?_) (fun _ _ hx => hx.elim)
      obtain ⟨rfl, hs9⟩ := hx
      replace hs9 := hs9.symm
      subst hs9
      refine j_catch [(0, 14, 17, 21)] (0, 14, 21, 13) [(0, 14, 25, 90), (0, 14, 29, 15)] C HH HN rfl (List.forall_mem_cons.mpr ⟨⟨by decide, "java/lang/IndexOutOfBoundsException", hl_21, by decide⟩, fun z hz => absurd hz List.not_mem_nil⟩) ⟨by decide, by decide⟩ (by decide) hl_13 hc_13 (fun q9 => ?_)
      refine j_astore (lv' := [(0, .ref (ad 0)), (1, vi ((i : Int))), (2, vi ((j : Int))), (3, vi (n)), (4, vi (x)), (5, .ref o), (6, .ref q9)]) [1, 2, 3, 4, 5, 6, 0] C dL_sellBlend_21 rfl rfl rfl ?_
      refine j_iconst C dL_sellBlend_23 rfl ?_
      exact j_iret C E dL_sellBlend_24 (by omega) (by omega) ⟨by rw [ho], ⟨tg, ad, by rw [ho]; exact hX0, fun _ _ => rfl, rfl⟩, ⟨g0, hout, fun h9 => by rw [ho] at h9; exact absurd (show (2 : Int) = 0 from h9) (by decide)⟩, Keep.rf, fun _ hy => hy⟩
    · rcases Classical.em (¬ (bestF pf (fl (gB bs (i : Int))) (fl (gB bs (j : Int))) n (n * x)).1 = true) with hq3 | hq3
      · have ho : o_sellBlend bs ru se pf hd ca evs ln (i : Int) (j : Int) n x = (3, 0, (bs, ru, se, pf, hd, ca, evs, ln)) := by unfold o_sellBlend; rw [if_neg (by omega), if_neg (by omega), if_pos hq3]
        refine j_callV (st' := [vi (0), .ref o]) (As := [vi ((i : Int)), vi ((j : Int)), vi (n), vi (x)]) C dL_sellBlend_9 rfl m_L_98 x1 rfl rfl rfl (c_sellBlendB2 (kL κ) hfl (kD κ) (kc κ) σ tg ad bs ru se pf hd ca evs ln hX0 i hi j hj (by omega) n x hn9 hx9 ⟨by omega, by omega⟩ ⟨by omega, by omega⟩ hq3) rfl (by omega) (by omega) (by omega) (fun E9 τ8 hx => ?_) (fun _ _ hx => hx.elim)
        obtain ⟨rfl, hK1⟩ := hx
        have hR1 := hX0.keep0 hK1
        refine j_catch [(0, 14, 17, 21), (0, 14, 21, 13)] (0, 14, 25, 90) [(0, 14, 29, 15)] C HH HN rfl (List.forall_mem_cons.mpr ⟨⟨by decide, "java/lang/IndexOutOfBoundsException", hl_21, by decide⟩, List.forall_mem_cons.mpr ⟨⟨by decide, "java/lang/IllegalArgumentException", hl_13, by decide⟩, fun z hz => absurd hz List.not_mem_nil⟩⟩) ⟨by decide, by decide⟩ (by decide) hl_90 hc_90 (fun q9 => ?_)
        refine j_astore (lv' := [(0, .ref (ad 0)), (1, vi ((i : Int))), (2, vi ((j : Int))), (3, vi (n)), (4, vi (x)), (5, .ref o), (6, .ref q9)]) [1, 2, 3, 4, 5, 6, 0] C dL_sellBlend_25 rfl rfl rfl ?_
        refine j_iconst C dL_sellBlend_27 rfl ?_
        exact j_iret C E dL_sellBlend_28 (by omega) (by omega) ⟨by rw [ho], ⟨tg, ad, by rw [ho]; exact hR1, fun _ _ => rfl, rfl⟩, ⟨g0, hK1 _ _ hout (fun z => z), fun h9 => by rw [ho] at h9; exact absurd (show (3 : Int) = 0 from h9) (by decide)⟩, hK1.mono (fun _ z => z.elim), fun y hy => hK1.mem hy (fun z => z)⟩
      · rcases Classical.em (80 ≤ evs.length) with hq4 | hq4
        · have ho : o_sellBlend bs ru se pf hd ca evs ln (i : Int) (j : Int) n x = (4, 0, (bs, ru, se, pf, hd, ca, evs, ln)) := by unfold o_sellBlend; rw [if_neg (by omega), if_neg (by omega), if_neg hq3, if_pos (by omega)]
          refine j_callV (st' := [vi (0), .ref o]) (As := [vi ((i : Int)), vi ((j : Int)), vi (n), vi (x)]) C dL_sellBlend_9 rfl m_L_98 x1 rfl rfl rfl (c_sellBlendB3 (kL κ) hfl (kD κ) (kc κ) σ tg ad bs ru se pf hd ca evs ln hX0 i hi j hj (by omega) n x hn9 hx9 ⟨by omega, by omega⟩ ⟨by omega, by omega⟩ (Classical.not_not.mp hq3) hq4) rfl (by omega) (by omega) (by omega) (fun E9 τ11 hx => ?_) (fun _ _ hx => hx.elim)
          obtain ⟨rfl, hK1⟩ := hx
          have hR1 := hX0.keep0 hK1
          refine j_catch [(0, 14, 17, 21), (0, 14, 21, 13), (0, 14, 25, 90)] (0, 14, 29, 15) [] C HH HN rfl (List.forall_mem_cons.mpr ⟨⟨by decide, "java/lang/IndexOutOfBoundsException", hl_21, by decide⟩, List.forall_mem_cons.mpr ⟨⟨by decide, "java/lang/IllegalArgumentException", hl_13, by decide⟩, List.forall_mem_cons.mpr ⟨⟨by decide, "java/util/NoSuchElementException", hl_90, by decide⟩, fun z hz => absurd hz List.not_mem_nil⟩⟩⟩) ⟨by decide, by decide⟩ (by decide) hl_15 hc_15 (fun q9 => ?_)
          refine j_astore (lv' := [(0, .ref (ad 0)), (1, vi ((i : Int))), (2, vi ((j : Int))), (3, vi (n)), (4, vi (x)), (5, .ref o), (6, .ref q9)]) [1, 2, 3, 4, 5, 6, 0] C dL_sellBlend_29 rfl rfl rfl ?_
          refine j_iconst C dL_sellBlend_31 rfl ?_
          exact j_iret C E dL_sellBlend_32 (by omega) (by omega) ⟨by rw [ho], ⟨tg, ad, by rw [ho]; exact hR1, fun _ _ => rfl, rfl⟩, ⟨g0, hK1 _ _ hout (fun z => z), fun h9 => by rw [ho] at h9; exact absurd (show (4 : Int) = 0 from h9) (by decide)⟩, hK1.mono (fun _ z => z.elim), fun y hy => hK1.mem hy (fun z => z)⟩
        · have ho : o_sellBlend bs ru se pf hd ca evs ln (i : Int) (j : Int) n x = (0, n * pf (gradeM ru se (fl (gB bs (i : Int))) (fl (gB bs (j : Int))) (bestF pf (fl (gB bs (i : Int))) (fl (gB bs (j : Int))) n (n * x)).2.1 (n - (bestF pf (fl (gB bs (i : Int))) (fl (gB bs (j : Int))) n (n * x)).2.1)).toNat, evS bs ru se pf hd ca evs ln (98, (i : Int), (j : Int), (bestF pf (fl (gB bs (i : Int))) (fl (gB bs (j : Int))) n (n * x)).2.1, n - (bestF pf (fl (gB bs (i : Int))) (fl (gB bs (j : Int))) n (n * x)).2.1, 0, 0) (n * pf (gradeM ru se (fl (gB bs (i : Int))) (fl (gB bs (j : Int))) (bestF pf (fl (gB bs (i : Int))) (fl (gB bs (j : Int))) n (n * x)).2.1 (n - (bestF pf (fl (gB bs (i : Int))) (fl (gB bs (j : Int))) n (n * x)).2.1)).toNat)) := by unfold o_sellBlend; rw [if_neg (by omega), if_neg (by omega), if_neg hq3, if_neg (by omega)]
          refine j_callV (st' := [vi (0), .ref o]) (As := [vi ((i : Int)), vi ((j : Int)), vi (n), vi (x)]) C dL_sellBlend_9 rfl m_L_98 x1 rfl rfl rfl (c_sellBlend (kL κ) hfl (kD κ) (kc κ) σ tg ad bs ru se pf hd ca evs ln hX0 i hi j hj (by omega) n x hn9 hx9 ⟨by omega, by omega⟩ ⟨by omega, by omega⟩ (Classical.not_not.mp hq3) (by omega)) rfl (by omega) (by omega) (by omega) (fun _ _ hx => hx.elim) (fun v14 τ13 hp15 => ?_)
          obtain ⟨rfl, tg1, ad1, hR1, hT1, ha1, hK1, hM1⟩ := hp15
          have ho1 := hK1 _ _ hout (fun z => by have z1 : tg o < 1000 := z; omega)
          show J κ τ13 [(0, .ref (ad 0)), (1, vi ((i : Int))), (2, vi ((j : Int))), (3, vi (n)), (4, vi (x)), (5, .ref o)] 12 [vi (n * pf (gradeM ru se (fl (gB bs (i : Int))) (fl (gB bs (j : Int))) (bestF pf (fl (gB bs (i : Int))) (fl (gB bs (j : Int))) n (n * x)).2.1 (n - (bestF pf (fl (gB bs (i : Int))) (fl (gB bs (j : Int))) n (n * x)).2.1)).toNat), vi (0), .ref o] _ _
          rw [vi_w (n * pf (gradeM ru se (fl (gB bs (i : Int))) (fl (gB bs (j : Int))) (bestF pf (fl (gB bs (i : Int))) (fl (gB bs (j : Int))) n (n * x)).2.1 (n - (bestF pf (fl (gB bs (i : Int))) (fl (gB bs (j : Int))) n (n * x)).2.1)).toNat)]
          refine j_i2l C dL_sellBlend_12 rfl (w32_in _) ?_
          refine j_last C dL_sellBlend_13 rfl ho1 ⟨by omega, by omega⟩ (by omega) (fun τ16 ee17 => ?_)
          have u18 : has τ16 o (lA (kc κ) 1 (ups g0 0 (w32 (n * pf (gradeM ru se (fl (gB bs (i : Int))) (fl (gB bs (j : Int))) (bestF pf (fl (gB bs (i : Int))) (fl (gB bs (j : Int))) n (n * x)).2.1 (n - (bestF pf (fl (gB bs (i : Int))) (fl (gB bs (j : Int))) n (n * x)).2.1)).toNat)))) := ho1.self' ee17
          refine j_goto (tgt := 33) C dL_sellBlend_14 rfl ?_
          refine j_iconst C dL_sellBlend_33 rfl ?_
          exact j_iret C E dL_sellBlend_34 (by omega) (by omega) ⟨by rw [ho], ⟨tg1, ad1, by rw [ho]; exact hR1.keepO ee17 (by rw [hT1 o hout.1]; exact hot), hT1, ha1⟩, ⟨_, u18, fun _ => by rw [ho]; exact ups_u rfl⟩, (hK1.mono (fun _ z => Or.inl z) : Keep σ τ13 (fun y => tg y < 1000 ∨ y = o)).put ee17 (Or.inr rfl), fun y hy => by rw [dom_put ee17]; exact hM1 y hy⟩
