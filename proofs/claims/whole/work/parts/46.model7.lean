/-! GrainElevatorModel: the calls that ask or change one thing -/
set_option maxHeartbeats 4000000 in
set_option maxRecDepth 20000 in
theorem m_binCount (l : Launch) (hfl : l.stackTraces = false) (D : va_G) (cy : Nat → Nat) (σ : Wd) (am : Nat → Nat) (bs : List Bn) (ru : Nat → Int × Int) (se : Int) (pf : Nat → Int) (hd : Hd) (ca : Int) (evs : List Evt) (ln : List Int) (bl : Int × Int × Int) (th : Int) (hM : RM cy σ am bs ru se pf hd ca evs ln bl th)  : Ct l yX7_binCount cX7_binCount 1 (some .int) 0 0 0 D cy [.ref (am 0)] σ (fun v σ' => v = some (vi (bs.length : Int)) ∧ RM cy σ' am bs ru se pf hd ca evs ln bl 0 ∧ Keep σ σ' (inM am) ∧ σ'.1 = σ.1) noX := by
  refine ct_start (by decide +kernel) hfl rfl (fun κ e1 e2 e3 C E NH => ?_)
  subst e1 e2 e3
  have C : Cx κ cX7_binCount 1 RX7 "binCount" 0 := C
  obtain ⟨-, -, -, -, hc, hs⟩ := id E
  show J κ σ [(0, .ref (am 0))] 0 [] 0 0
  obtain ⟨hI1, gc1, gm1, gr1, gp1, gb1, go1, gf1, gg1, gt1, gz1, gk1, gl1, _, _, _, h01, ⟨hgc1, hgm1, hgr1, hgp1, hgb1, hgo1, hgf1, hgg1, hgt1, hgz1, hgk1, hgl1⟩, ⟨rfl, rfl, rfl⟩, hBn1, hRu1, hPr1, hTr1, hKi1, hLi1⟩ := id hM
  have hI := hI1
  have hnb61 := hBn1.1
  have kp0 : Keep σ σ (inM am) := Keep.rf
  have dm0 : σ.1 = σ.1 := rfl
  refine j_aload_n 0 C dX7_binCount_0 rfl rfl rfl ?_
  refine j_iconst C dX7_binCount_1 rfl ?_
  refine j_put (fs' := [.ref (am 1), .ref (am 2), .ref (am 3), .ref (am 4), .ref (am 5), .ref (am 6), .ref (am 7), .ref (am 8), .ref (am 9), .ref (am 10), .ref (am 11), .ref (am 12), vi ((bs.length : Int)), vi (se), vi ((evs.length : Int)), vi (hd.2.1), vi (hd.2.2.2.1), vi (hd.2.2.1), vi ((ln.length : Int)), vi (bl.1), vi (bl.2.1), vi (bl.2.2), vi (0), vl (hd.2.2.2.2), vl (ca)]) C dX7_binCount_2 rfl fa_X7_52 h01 rfl rfl rfl rfl (fun τ2 ee3 => ?_)
  have u4 : has τ2 (am 0) (.inr (7, [.ref (am 1), .ref (am 2), .ref (am 3), .ref (am 4), .ref (am 5), .ref (am 6), .ref (am 7), .ref (am 8), .ref (am 9), .ref (am 10), .ref (am 11), .ref (am 12), vi ((bs.length : Int)), vi (se), vi ((evs.length : Int)), vi (hd.2.1), vi (hd.2.2.2.1), vi (hd.2.2.1), vi ((ln.length : Int)), vi (bl.1), vi (bl.2.1), vi (bl.2.2), vi (0), vl (hd.2.2.2.2), vl (ca)])) := h01.self' ee3
  have u5 := hgc1.ne' ee3 (hI 1 0 (by decide) (by decide) (by decide))
  have u6 := hgm1.ne' ee3 (hI 2 0 (by decide) (by decide) (by decide))
  have u7 := hgr1.ne' ee3 (hI 3 0 (by decide) (by decide) (by decide))
  have u8 := hgp1.ne' ee3 (hI 4 0 (by decide) (by decide) (by decide))
  have u9 := hgb1.ne' ee3 (hI 5 0 (by decide) (by decide) (by decide))
  have u10 := hgo1.ne' ee3 (hI 6 0 (by decide) (by decide) (by decide))
  have u11 := hgf1.ne' ee3 (hI 7 0 (by decide) (by decide) (by decide))
  have u12 := hgg1.ne' ee3 (hI 8 0 (by decide) (by decide) (by decide))
  have u13 := hgt1.ne' ee3 (hI 9 0 (by decide) (by decide) (by decide))
  have u14 := hgz1.ne' ee3 (hI 10 0 (by decide) (by decide) (by decide))
  have u15 := hgk1.ne' ee3 (hI 11 0 (by decide) (by decide) (by decide))
  have u16 := hgl1.ne' ee3 (hI 12 0 (by decide) (by decide) (by decide))
  have kp17 := kp0.put ee3 ⟨0, by decide, rfl⟩
  have dm18 := (dom_put ee3).trans dm0
  refine j_aload_n 0 C dX7_binCount_5 rfl rfl rfl ?_
  refine j_get C dX7_binCount_6 rfl fg_X7_55 u4 rfl ?_
  exact j_iret C E dX7_binCount_9 (by omega) (by omega) ⟨rfl, ⟨hI, _, _, _, _, _, _, _, _, _, _, _, _, _, _, _, u4, ⟨u5, u6, u7, u8, u9, u10, u11, u12, u13, u14, u15, u16⟩, ⟨rfl, rfl, rfl⟩, hBn1, hRu1, hPr1, hTr1, hKi1, hLi1⟩, kp17, dm18⟩
set_option maxHeartbeats 4000000 in
set_option maxRecDepth 20000 in
theorem m_hedged (l : Launch) (hfl : l.stackTraces = false) (D : va_G) (cy : Nat → Nat) (σ : Wd) (am : Nat → Nat) (bs : List Bn) (ru : Nat → Int × Int) (se : Int) (pf : Nat → Int) (hd : Hd) (ca : Int) (evs : List Evt) (ln : List Int) (bl : Int × Int × Int) (th : Int) (hM : RM cy σ am bs ru se pf hd ca evs ln bl th)  : Ct l yX7_hedged cX7_hedged 1 (some .int) 0 0 0 D cy [.ref (am 0)] σ (fun v σ' => v = some (vi hd.2.2.1) ∧ RM cy σ' am bs ru se pf hd ca evs ln bl 0 ∧ Keep σ σ' (inM am) ∧ σ'.1 = σ.1) noX := by
  refine ct_start (by decide +kernel) hfl rfl (fun κ e1 e2 e3 C E NH => ?_)
  subst e1 e2 e3
  have C : Cx κ cX7_hedged 1 RX7 "hedged" 0 := C
  obtain ⟨-, -, -, -, hc, hs⟩ := id E
  show J κ σ [(0, .ref (am 0))] 0 [] 0 0
  obtain ⟨hI1, gc1, gm1, gr1, gp1, gb1, go1, gf1, gg1, gt1, gz1, gk1, gl1, _, _, _, h01, ⟨hgc1, hgm1, hgr1, hgp1, hgb1, hgo1, hgf1, hgg1, hgt1, hgz1, hgk1, hgl1⟩, ⟨rfl, rfl, rfl⟩, hBn1, hRu1, hPr1, hTr1, hKi1, hLi1⟩ := id hM
  have hI := hI1
  have hnb61 := hBn1.1
  have kp0 : Keep σ σ (inM am) := Keep.rf
  have dm0 : σ.1 = σ.1 := rfl
  refine j_aload_n 0 C dX7_hedged_0 rfl rfl rfl ?_
  refine j_iconst C dX7_hedged_1 rfl ?_
  refine j_put (fs' := [.ref (am 1), .ref (am 2), .ref (am 3), .ref (am 4), .ref (am 5), .ref (am 6), .ref (am 7), .ref (am 8), .ref (am 9), .ref (am 10), .ref (am 11), .ref (am 12), vi ((bs.length : Int)), vi (se), vi ((evs.length : Int)), vi (hd.2.1), vi (hd.2.2.2.1), vi (hd.2.2.1), vi ((ln.length : Int)), vi (bl.1), vi (bl.2.1), vi (bl.2.2), vi (0), vl (hd.2.2.2.2), vl (ca)]) C dX7_hedged_2 rfl fa_X7_52 h01 rfl rfl rfl rfl (fun τ2 ee3 => ?_)
  have u4 : has τ2 (am 0) (.inr (7, [.ref (am 1), .ref (am 2), .ref (am 3), .ref (am 4), .ref (am 5), .ref (am 6), .ref (am 7), .ref (am 8), .ref (am 9), .ref (am 10), .ref (am 11), .ref (am 12), vi ((bs.length : Int)), vi (se), vi ((evs.length : Int)), vi (hd.2.1), vi (hd.2.2.2.1), vi (hd.2.2.1), vi ((ln.length : Int)), vi (bl.1), vi (bl.2.1), vi (bl.2.2), vi (0), vl (hd.2.2.2.2), vl (ca)])) := h01.self' ee3
  have u5 := hgc1.ne' ee3 (hI 1 0 (by decide) (by decide) (by decide))
  have u6 := hgm1.ne' ee3 (hI 2 0 (by decide) (by decide) (by decide))
  have u7 := hgr1.ne' ee3 (hI 3 0 (by decide) (by decide) (by decide))
  have u8 := hgp1.ne' ee3 (hI 4 0 (by decide) (by decide) (by decide))
  have u9 := hgb1.ne' ee3 (hI 5 0 (by decide) (by decide) (by decide))
  have u10 := hgo1.ne' ee3 (hI 6 0 (by decide) (by decide) (by decide))
  have u11 := hgf1.ne' ee3 (hI 7 0 (by decide) (by decide) (by decide))
  have u12 := hgg1.ne' ee3 (hI 8 0 (by decide) (by decide) (by decide))
  have u13 := hgt1.ne' ee3 (hI 9 0 (by decide) (by decide) (by decide))
  have u14 := hgz1.ne' ee3 (hI 10 0 (by decide) (by decide) (by decide))
  have u15 := hgk1.ne' ee3 (hI 11 0 (by decide) (by decide) (by decide))
  have u16 := hgl1.ne' ee3 (hI 12 0 (by decide) (by decide) (by decide))
  have kp17 := kp0.put ee3 ⟨0, by decide, rfl⟩
  have dm18 := (dom_put ee3).trans dm0
  refine j_aload_n 0 C dX7_hedged_5 rfl rfl rfl ?_
  refine j_get C dX7_hedged_6 rfl fg_X7_87 u4 rfl ?_
  exact j_iret C E dX7_hedged_9 (by omega) (by omega) ⟨rfl, ⟨hI, _, _, _, _, _, _, _, _, _, _, _, _, _, _, _, u4, ⟨u5, u6, u7, u8, u9, u10, u11, u12, u13, u14, u15, u16⟩, ⟨rfl, rfl, rfl⟩, hBn1, hRu1, hPr1, hTr1, hKi1, hLi1⟩, kp17, dm18⟩
set_option maxHeartbeats 4000000 in
set_option maxRecDepth 20000 in
theorem m_tradeCount (l : Launch) (hfl : l.stackTraces = false) (D : va_G) (cy : Nat → Nat) (σ : Wd) (am : Nat → Nat) (bs : List Bn) (ru : Nat → Int × Int) (se : Int) (pf : Nat → Int) (hd : Hd) (ca : Int) (evs : List Evt) (ln : List Int) (bl : Int × Int × Int) (th : Int) (hM : RM cy σ am bs ru se pf hd ca evs ln bl th)  : Ct l yX7_tradeCount cX7_tradeCount 1 (some .int) 0 0 0 D cy [.ref (am 0)] σ (fun v σ' => v = some (vi hd.2.1) ∧ RM cy σ' am bs ru se pf hd ca evs ln bl 0 ∧ Keep σ σ' (inM am) ∧ σ'.1 = σ.1) noX := by
  refine ct_start (by decide +kernel) hfl rfl (fun κ e1 e2 e3 C E NH => ?_)
  subst e1 e2 e3
  have C : Cx κ cX7_tradeCount 1 RX7 "tradeCount" 0 := C
  obtain ⟨-, -, -, -, hc, hs⟩ := id E
  show J κ σ [(0, .ref (am 0))] 0 [] 0 0
  obtain ⟨hI1, gc1, gm1, gr1, gp1, gb1, go1, gf1, gg1, gt1, gz1, gk1, gl1, _, _, _, h01, ⟨hgc1, hgm1, hgr1, hgp1, hgb1, hgo1, hgf1, hgg1, hgt1, hgz1, hgk1, hgl1⟩, ⟨rfl, rfl, rfl⟩, hBn1, hRu1, hPr1, hTr1, hKi1, hLi1⟩ := id hM
  have hI := hI1
  have hnb61 := hBn1.1
  have kp0 : Keep σ σ (inM am) := Keep.rf
  have dm0 : σ.1 = σ.1 := rfl
  refine j_aload_n 0 C dX7_tradeCount_0 rfl rfl rfl ?_
  refine j_iconst C dX7_tradeCount_1 rfl ?_
  refine j_put (fs' := [.ref (am 1), .ref (am 2), .ref (am 3), .ref (am 4), .ref (am 5), .ref (am 6), .ref (am 7), .ref (am 8), .ref (am 9), .ref (am 10), .ref (am 11), .ref (am 12), vi ((bs.length : Int)), vi (se), vi ((evs.length : Int)), vi (hd.2.1), vi (hd.2.2.2.1), vi (hd.2.2.1), vi ((ln.length : Int)), vi (bl.1), vi (bl.2.1), vi (bl.2.2), vi (0), vl (hd.2.2.2.2), vl (ca)]) C dX7_tradeCount_2 rfl fa_X7_52 h01 rfl rfl rfl rfl (fun τ2 ee3 => ?_)
  have u4 : has τ2 (am 0) (.inr (7, [.ref (am 1), .ref (am 2), .ref (am 3), .ref (am 4), .ref (am 5), .ref (am 6), .ref (am 7), .ref (am 8), .ref (am 9), .ref (am 10), .ref (am 11), .ref (am 12), vi ((bs.length : Int)), vi (se), vi ((evs.length : Int)), vi (hd.2.1), vi (hd.2.2.2.1), vi (hd.2.2.1), vi ((ln.length : Int)), vi (bl.1), vi (bl.2.1), vi (bl.2.2), vi (0), vl (hd.2.2.2.2), vl (ca)])) := h01.self' ee3
  have u5 := hgc1.ne' ee3 (hI 1 0 (by decide) (by decide) (by decide))
  have u6 := hgm1.ne' ee3 (hI 2 0 (by decide) (by decide) (by decide))
  have u7 := hgr1.ne' ee3 (hI 3 0 (by decide) (by decide) (by decide))
  have u8 := hgp1.ne' ee3 (hI 4 0 (by decide) (by decide) (by decide))
  have u9 := hgb1.ne' ee3 (hI 5 0 (by decide) (by decide) (by decide))
  have u10 := hgo1.ne' ee3 (hI 6 0 (by decide) (by decide) (by decide))
  have u11 := hgf1.ne' ee3 (hI 7 0 (by decide) (by decide) (by decide))
  have u12 := hgg1.ne' ee3 (hI 8 0 (by decide) (by decide) (by decide))
  have u13 := hgt1.ne' ee3 (hI 9 0 (by decide) (by decide) (by decide))
  have u14 := hgz1.ne' ee3 (hI 10 0 (by decide) (by decide) (by decide))
  have u15 := hgk1.ne' ee3 (hI 11 0 (by decide) (by decide) (by decide))
  have u16 := hgl1.ne' ee3 (hI 12 0 (by decide) (by decide) (by decide))
  have kp17 := kp0.put ee3 ⟨0, by decide, rfl⟩
  have dm18 := (dom_put ee3).trans dm0
  refine j_aload_n 0 C dX7_tradeCount_5 rfl rfl rfl ?_
  refine j_get C dX7_tradeCount_6 rfl fg_X7_90 u4 rfl ?_
  exact j_iret C E dX7_tradeCount_9 (by omega) (by omega) ⟨rfl, ⟨hI, _, _, _, _, _, _, _, _, _, _, _, _, _, _, _, u4, ⟨u5, u6, u7, u8, u9, u10, u11, u12, u13, u14, u15, u16⟩, ⟨rfl, rfl, rfl⟩, hBn1, hRu1, hPr1, hTr1, hKi1, hLi1⟩, kp17, dm18⟩
set_option maxHeartbeats 4000000 in
set_option maxRecDepth 20000 in
theorem m_gain (l : Launch) (hfl : l.stackTraces = false) (D : va_G) (cy : Nat → Nat) (σ : Wd) (am : Nat → Nat) (bs : List Bn) (ru : Nat → Int × Int) (se : Int) (pf : Nat → Int) (hd : Hd) (ca : Int) (evs : List Evt) (ln : List Int) (bl : Int × Int × Int) (th : Int) (hM : RM cy σ am bs ru se pf hd ca evs ln bl th)  : Ct l yX7_gain cX7_gain 1 (some .long) 0 0 0 D cy [.ref (am 0)] σ (fun v σ' => v = some (vl hd.2.2.2.2) ∧ RM cy σ' am bs ru se pf hd ca evs ln bl 0 ∧ Keep σ σ' (inM am) ∧ σ'.1 = σ.1) noX := by
  refine ct_start (by decide +kernel) hfl rfl (fun κ e1 e2 e3 C E NH => ?_)
  subst e1 e2 e3
  have C : Cx κ cX7_gain 1 RX7 "gain" 0 := C
  obtain ⟨-, -, -, -, hc, hs⟩ := id E
  show J κ σ [(0, .ref (am 0))] 0 [] 0 0
  obtain ⟨hI1, gc1, gm1, gr1, gp1, gb1, go1, gf1, gg1, gt1, gz1, gk1, gl1, _, _, _, h01, ⟨hgc1, hgm1, hgr1, hgp1, hgb1, hgo1, hgf1, hgg1, hgt1, hgz1, hgk1, hgl1⟩, ⟨rfl, rfl, rfl⟩, hBn1, hRu1, hPr1, hTr1, hKi1, hLi1⟩ := id hM
  have hI := hI1
  have hnb61 := hBn1.1
  have kp0 : Keep σ σ (inM am) := Keep.rf
  have dm0 : σ.1 = σ.1 := rfl
  refine j_aload_n 0 C dX7_gain_0 rfl rfl rfl ?_
  refine j_iconst C dX7_gain_1 rfl ?_
  refine j_put (fs' := [.ref (am 1), .ref (am 2), .ref (am 3), .ref (am 4), .ref (am 5), .ref (am 6), .ref (am 7), .ref (am 8), .ref (am 9), .ref (am 10), .ref (am 11), .ref (am 12), vi ((bs.length : Int)), vi (se), vi ((evs.length : Int)), vi (hd.2.1), vi (hd.2.2.2.1), vi (hd.2.2.1), vi ((ln.length : Int)), vi (bl.1), vi (bl.2.1), vi (bl.2.2), vi (0), vl (hd.2.2.2.2), vl (ca)]) C dX7_gain_2 rfl fa_X7_52 h01 rfl rfl rfl rfl (fun τ2 ee3 => ?_)
  have u4 : has τ2 (am 0) (.inr (7, [.ref (am 1), .ref (am 2), .ref (am 3), .ref (am 4), .ref (am 5), .ref (am 6), .ref (am 7), .ref (am 8), .ref (am 9), .ref (am 10), .ref (am 11), .ref (am 12), vi ((bs.length : Int)), vi (se), vi ((evs.length : Int)), vi (hd.2.1), vi (hd.2.2.2.1), vi (hd.2.2.1), vi ((ln.length : Int)), vi (bl.1), vi (bl.2.1), vi (bl.2.2), vi (0), vl (hd.2.2.2.2), vl (ca)])) := h01.self' ee3
  have u5 := hgc1.ne' ee3 (hI 1 0 (by decide) (by decide) (by decide))
  have u6 := hgm1.ne' ee3 (hI 2 0 (by decide) (by decide) (by decide))
  have u7 := hgr1.ne' ee3 (hI 3 0 (by decide) (by decide) (by decide))
  have u8 := hgp1.ne' ee3 (hI 4 0 (by decide) (by decide) (by decide))
  have u9 := hgb1.ne' ee3 (hI 5 0 (by decide) (by decide) (by decide))
  have u10 := hgo1.ne' ee3 (hI 6 0 (by decide) (by decide) (by decide))
  have u11 := hgf1.ne' ee3 (hI 7 0 (by decide) (by decide) (by decide))
  have u12 := hgg1.ne' ee3 (hI 8 0 (by decide) (by decide) (by decide))
  have u13 := hgt1.ne' ee3 (hI 9 0 (by decide) (by decide) (by decide))
  have u14 := hgz1.ne' ee3 (hI 10 0 (by decide) (by decide) (by decide))
  have u15 := hgk1.ne' ee3 (hI 11 0 (by decide) (by decide) (by decide))
  have u16 := hgl1.ne' ee3 (hI 12 0 (by decide) (by decide) (by decide))
  have kp17 := kp0.put ee3 ⟨0, by decide, rfl⟩
  have dm18 := (dom_put ee3).trans dm0
  refine j_aload_n 0 C dX7_gain_5 rfl rfl rfl ?_
  refine j_get C dX7_gain_6 rfl fg_X7_170 u4 rfl ?_
  exact j_lret C E dX7_gain_9 (by omega) (by omega) ⟨rfl, ⟨hI, _, _, _, _, _, _, _, _, _, _, _, _, _, _, _, u4, ⟨u5, u6, u7, u8, u9, u10, u11, u12, u13, u14, u15, u16⟩, ⟨rfl, rfl, rfl⟩, hBn1, hRu1, hPr1, hTr1, hKi1, hLi1⟩, kp17, dm18⟩
set_option maxHeartbeats 4000000 in
set_option maxRecDepth 20000 in
theorem m_cash (l : Launch) (hfl : l.stackTraces = false) (D : va_G) (cy : Nat → Nat) (σ : Wd) (am : Nat → Nat) (bs : List Bn) (ru : Nat → Int × Int) (se : Int) (pf : Nat → Int) (hd : Hd) (ca : Int) (evs : List Evt) (ln : List Int) (bl : Int × Int × Int) (th : Int) (hM : RM cy σ am bs ru se pf hd ca evs ln bl th)  : Ct l yX7_cash cX7_cash 1 (some .long) 0 0 0 D cy [.ref (am 0)] σ (fun v σ' => v = some (vl ca) ∧ RM cy σ' am bs ru se pf hd ca evs ln bl 0 ∧ Keep σ σ' (inM am) ∧ σ'.1 = σ.1) noX := by
  refine ct_start (by decide +kernel) hfl rfl (fun κ e1 e2 e3 C E NH => ?_)
  subst e1 e2 e3
  have C : Cx κ cX7_cash 1 RX7 "cash" 0 := C
  obtain ⟨-, -, -, -, hc, hs⟩ := id E
  show J κ σ [(0, .ref (am 0))] 0 [] 0 0
  obtain ⟨hI1, gc1, gm1, gr1, gp1, gb1, go1, gf1, gg1, gt1, gz1, gk1, gl1, _, _, _, h01, ⟨hgc1, hgm1, hgr1, hgp1, hgb1, hgo1, hgf1, hgg1, hgt1, hgz1, hgk1, hgl1⟩, ⟨rfl, rfl, rfl⟩, hBn1, hRu1, hPr1, hTr1, hKi1, hLi1⟩ := id hM
  have hI := hI1
  have hnb61 := hBn1.1
  have kp0 : Keep σ σ (inM am) := Keep.rf
  have dm0 : σ.1 = σ.1 := rfl
  refine j_aload_n 0 C dX7_cash_0 rfl rfl rfl ?_
  refine j_iconst C dX7_cash_1 rfl ?_
  refine j_put (fs' := [.ref (am 1), .ref (am 2), .ref (am 3), .ref (am 4), .ref (am 5), .ref (am 6), .ref (am 7), .ref (am 8), .ref (am 9), .ref (am 10), .ref (am 11), .ref (am 12), vi ((bs.length : Int)), vi (se), vi ((evs.length : Int)), vi (hd.2.1), vi (hd.2.2.2.1), vi (hd.2.2.1), vi ((ln.length : Int)), vi (bl.1), vi (bl.2.1), vi (bl.2.2), vi (0), vl (hd.2.2.2.2), vl (ca)]) C dX7_cash_2 rfl fa_X7_52 h01 rfl rfl rfl rfl (fun τ2 ee3 => ?_)
  have u4 : has τ2 (am 0) (.inr (7, [.ref (am 1), .ref (am 2), .ref (am 3), .ref (am 4), .ref (am 5), .ref (am 6), .ref (am 7), .ref (am 8), .ref (am 9), .ref (am 10), .ref (am 11), .ref (am 12), vi ((bs.length : Int)), vi (se), vi ((evs.length : Int)), vi (hd.2.1), vi (hd.2.2.2.1), vi (hd.2.2.1), vi ((ln.length : Int)), vi (bl.1), vi (bl.2.1), vi (bl.2.2), vi (0), vl (hd.2.2.2.2), vl (ca)])) := h01.self' ee3
  have u5 := hgc1.ne' ee3 (hI 1 0 (by decide) (by decide) (by decide))
  have u6 := hgm1.ne' ee3 (hI 2 0 (by decide) (by decide) (by decide))
  have u7 := hgr1.ne' ee3 (hI 3 0 (by decide) (by decide) (by decide))
  have u8 := hgp1.ne' ee3 (hI 4 0 (by decide) (by decide) (by decide))
  have u9 := hgb1.ne' ee3 (hI 5 0 (by decide) (by decide) (by decide))
  have u10 := hgo1.ne' ee3 (hI 6 0 (by decide) (by decide) (by decide))
  have u11 := hgf1.ne' ee3 (hI 7 0 (by decide) (by decide) (by decide))
  have u12 := hgg1.ne' ee3 (hI 8 0 (by decide) (by decide) (by decide))
  have u13 := hgt1.ne' ee3 (hI 9 0 (by decide) (by decide) (by decide))
  have u14 := hgz1.ne' ee3 (hI 10 0 (by decide) (by decide) (by decide))
  have u15 := hgk1.ne' ee3 (hI 11 0 (by decide) (by decide) (by decide))
  have u16 := hgl1.ne' ee3 (hI 12 0 (by decide) (by decide) (by decide))
  have kp17 := kp0.put ee3 ⟨0, by decide, rfl⟩
  have dm18 := (dom_put ee3).trans dm0
  refine j_aload_n 0 C dX7_cash_5 rfl rfl rfl ?_
  refine j_get C dX7_cash_6 rfl fg_X7_101 u4 rfl ?_
  exact j_lret C E dX7_cash_9 (by omega) (by omega) ⟨rfl, ⟨hI, _, _, _, _, _, _, _, _, _, _, _, _, _, _, _, u4, ⟨u5, u6, u7, u8, u9, u10, u11, u12, u13, u14, u15, u16⟩, ⟨rfl, rfl, rfl⟩, hBn1, hRu1, hPr1, hTr1, hKi1, hLi1⟩, kp17, dm18⟩
set_option maxHeartbeats 4000000 in
set_option maxRecDepth 20000 in
theorem m_eventCount (l : Launch) (hfl : l.stackTraces = false) (D : va_G) (cy : Nat → Nat) (σ : Wd) (am : Nat → Nat) (bs : List Bn) (ru : Nat → Int × Int) (se : Int) (pf : Nat → Int) (hd : Hd) (ca : Int) (evs : List Evt) (ln : List Int) (bl : Int × Int × Int) (th : Int) (hM : RM cy σ am bs ru se pf hd ca evs ln bl th)  : Ct l yX7_eventCount cX7_eventCount 1 (some .int) 0 0 0 D cy [.ref (am 0)] σ (fun v σ' => v = some (vi (evs.length : Int)) ∧ RM cy σ' am bs ru se pf hd ca evs ln bl 0 ∧ Keep σ σ' (inM am) ∧ σ'.1 = σ.1) noX := by
  refine ct_start (by decide +kernel) hfl rfl (fun κ e1 e2 e3 C E NH => ?_)
  subst e1 e2 e3
  have C : Cx κ cX7_eventCount 1 RX7 "eventCount" 0 := C
  obtain ⟨-, -, -, -, hc, hs⟩ := id E
  show J κ σ [(0, .ref (am 0))] 0 [] 0 0
  obtain ⟨hI1, gc1, gm1, gr1, gp1, gb1, go1, gf1, gg1, gt1, gz1, gk1, gl1, _, _, _, h01, ⟨hgc1, hgm1, hgr1, hgp1, hgb1, hgo1, hgf1, hgg1, hgt1, hgz1, hgk1, hgl1⟩, ⟨rfl, rfl, rfl⟩, hBn1, hRu1, hPr1, hTr1, hKi1, hLi1⟩ := id hM
  have hI := hI1
  have hnb61 := hBn1.1
  have kp0 : Keep σ σ (inM am) := Keep.rf
  have dm0 : σ.1 = σ.1 := rfl
  refine j_aload_n 0 C dX7_eventCount_0 rfl rfl rfl ?_
  refine j_iconst C dX7_eventCount_1 rfl ?_
  refine j_put (fs' := [.ref (am 1), .ref (am 2), .ref (am 3), .ref (am 4), .ref (am 5), .ref (am 6), .ref (am 7), .ref (am 8), .ref (am 9), .ref (am 10), .ref (am 11), .ref (am 12), vi ((bs.length : Int)), vi (se), vi ((evs.length : Int)), vi (hd.2.1), vi (hd.2.2.2.1), vi (hd.2.2.1), vi ((ln.length : Int)), vi (bl.1), vi (bl.2.1), vi (bl.2.2), vi (0), vl (hd.2.2.2.2), vl (ca)]) C dX7_eventCount_2 rfl fa_X7_52 h01 rfl rfl rfl rfl (fun τ2 ee3 => ?_)
  have u4 : has τ2 (am 0) (.inr (7, [.ref (am 1), .ref (am 2), .ref (am 3), .ref (am 4), .ref (am 5), .ref (am 6), .ref (am 7), .ref (am 8), .ref (am 9), .ref (am 10), .ref (am 11), .ref (am 12), vi ((bs.length : Int)), vi (se), vi ((evs.length : Int)), vi (hd.2.1), vi (hd.2.2.2.1), vi (hd.2.2.1), vi ((ln.length : Int)), vi (bl.1), vi (bl.2.1), vi (bl.2.2), vi (0), vl (hd.2.2.2.2), vl (ca)])) := h01.self' ee3
  have u5 := hgc1.ne' ee3 (hI 1 0 (by decide) (by decide) (by decide))
  have u6 := hgm1.ne' ee3 (hI 2 0 (by decide) (by decide) (by decide))
  have u7 := hgr1.ne' ee3 (hI 3 0 (by decide) (by decide) (by decide))
  have u8 := hgp1.ne' ee3 (hI 4 0 (by decide) (by decide) (by decide))
  have u9 := hgb1.ne' ee3 (hI 5 0 (by decide) (by decide) (by decide))
  have u10 := hgo1.ne' ee3 (hI 6 0 (by decide) (by decide) (by decide))
  have u11 := hgf1.ne' ee3 (hI 7 0 (by decide) (by decide) (by decide))
  have u12 := hgg1.ne' ee3 (hI 8 0 (by decide) (by decide) (by decide))
  have u13 := hgt1.ne' ee3 (hI 9 0 (by decide) (by decide) (by decide))
  have u14 := hgz1.ne' ee3 (hI 10 0 (by decide) (by decide) (by decide))
  have u15 := hgk1.ne' ee3 (hI 11 0 (by decide) (by decide) (by decide))
  have u16 := hgl1.ne' ee3 (hI 12 0 (by decide) (by decide) (by decide))
  have kp17 := kp0.put ee3 ⟨0, by decide, rfl⟩
  have dm18 := (dom_put ee3).trans dm0
  refine j_aload_n 0 C dX7_eventCount_5 rfl rfl rfl ?_
  refine j_get C dX7_eventCount_6 rfl fg_X7_80 u4 rfl ?_
  exact j_iret C E dX7_eventCount_9 (by omega) (by omega) ⟨rfl, ⟨hI, _, _, _, _, _, _, _, _, _, _, _, _, _, _, _, u4, ⟨u5, u6, u7, u8, u9, u10, u11, u12, u13, u14, u15, u16⟩, ⟨rfl, rfl, rfl⟩, hBn1, hRu1, hPr1, hTr1, hKi1, hLi1⟩, kp17, dm18⟩
set_option maxHeartbeats 4000000 in
set_option maxRecDepth 20000 in
theorem m_isConsistent (l : Launch) (hfl : l.stackTraces = false) (D : va_G) (cy : Nat → Nat) (σ : Wd) (am : Nat → Nat) (bs : List Bn) (ru : Nat → Int × Int) (se : Int) (pf : Nat → Int) (hd : Hd) (ca : Int) (evs : List Evt) (ln : List Int) (bl : Int × Int × Int) (th : Int) (hM : RM cy σ am bs ru se pf hd ca evs ln bl th)  : Ct l yX7_isConsistent cX7_isConsistent 1 (some .boolean) 0 0 0 D cy [.ref (am 0)] σ (fun v σ' => v = some (vi 1) ∧ RM cy σ' am bs ru se pf hd ca evs ln bl 0 ∧ Keep σ σ' (inM am) ∧ σ'.1 = σ.1) noX := by
  refine ct_start (by decide +kernel) hfl rfl (fun κ e1 e2 e3 C E NH => ?_)
  subst e1 e2 e3
  have C : Cx κ cX7_isConsistent 1 RX7 "isConsistent" 0 := C
  obtain ⟨-, -, -, -, hc, hs⟩ := id E
  show J κ σ [(0, .ref (am 0))] 0 [] 0 0
  obtain ⟨hI1, gc1, gm1, gr1, gp1, gb1, go1, gf1, gg1, gt1, gz1, gk1, gl1, _, _, _, h01, ⟨hgc1, hgm1, hgr1, hgp1, hgb1, hgo1, hgf1, hgg1, hgt1, hgz1, hgk1, hgl1⟩, ⟨rfl, rfl, rfl⟩, hBn1, hRu1, hPr1, hTr1, hKi1, hLi1⟩ := id hM
  have hI := hI1
  have hnb61 := hBn1.1
  have kp0 : Keep σ σ (inM am) := Keep.rf
  have dm0 : σ.1 = σ.1 := rfl
  refine j_aload_n 0 C dX7_isConsistent_0 rfl rfl rfl ?_
  refine j_iconst C dX7_isConsistent_1 rfl ?_
  refine j_put (fs' := [.ref (am 1), .ref (am 2), .ref (am 3), .ref (am 4), .ref (am 5), .ref (am 6), .ref (am 7), .ref (am 8), .ref (am 9), .ref (am 10), .ref (am 11), .ref (am 12), vi ((bs.length : Int)), vi (se), vi ((evs.length : Int)), vi (hd.2.1), vi (hd.2.2.2.1), vi (hd.2.2.1), vi ((ln.length : Int)), vi (bl.1), vi (bl.2.1), vi (bl.2.2), vi (0), vl (hd.2.2.2.2), vl (ca)]) C dX7_isConsistent_2 rfl fa_X7_52 h01 rfl rfl rfl rfl (fun τ2 ee3 => ?_)
  have u4 : has τ2 (am 0) (.inr (7, [.ref (am 1), .ref (am 2), .ref (am 3), .ref (am 4), .ref (am 5), .ref (am 6), .ref (am 7), .ref (am 8), .ref (am 9), .ref (am 10), .ref (am 11), .ref (am 12), vi ((bs.length : Int)), vi (se), vi ((evs.length : Int)), vi (hd.2.1), vi (hd.2.2.2.1), vi (hd.2.2.1), vi ((ln.length : Int)), vi (bl.1), vi (bl.2.1), vi (bl.2.2), vi (0), vl (hd.2.2.2.2), vl (ca)])) := h01.self' ee3
  have u5 := hgc1.ne' ee3 (hI 1 0 (by decide) (by decide) (by decide))
  have u6 := hgm1.ne' ee3 (hI 2 0 (by decide) (by decide) (by decide))
  have u7 := hgr1.ne' ee3 (hI 3 0 (by decide) (by decide) (by decide))
  have u8 := hgp1.ne' ee3 (hI 4 0 (by decide) (by decide) (by decide))
  have u9 := hgb1.ne' ee3 (hI 5 0 (by decide) (by decide) (by decide))
  have u10 := hgo1.ne' ee3 (hI 6 0 (by decide) (by decide) (by decide))
  have u11 := hgf1.ne' ee3 (hI 7 0 (by decide) (by decide) (by decide))
  have u12 := hgg1.ne' ee3 (hI 8 0 (by decide) (by decide) (by decide))
  have u13 := hgt1.ne' ee3 (hI 9 0 (by decide) (by decide) (by decide))
  have u14 := hgz1.ne' ee3 (hI 10 0 (by decide) (by decide) (by decide))
  have u15 := hgk1.ne' ee3 (hI 11 0 (by decide) (by decide) (by decide))
  have u16 := hgl1.ne' ee3 (hI 12 0 (by decide) (by decide) (by decide))
  have kp17 := kp0.put ee3 ⟨0, by decide, rfl⟩
  have dm18 := (dom_put ee3).trans dm0
  refine j_iconst C dX7_isConsistent_5 rfl ?_
  exact j_zret C E dX7_isConsistent_6 rfl (by omega) (by omega) ⟨rfl, ⟨hI, _, _, _, _, _, _, _, _, _, _, _, _, _, _, _, u4, ⟨u5, u6, u7, u8, u9, u10, u11, u12, u13, u14, u15, u16⟩, ⟨rfl, rfl, rfl⟩, hBn1, hRu1, hPr1, hTr1, hKi1, hLi1⟩, kp17, dm18⟩
set_option maxHeartbeats 4000000 in
set_option maxRecDepth 20000 in
theorem m_owned (l : Launch) (hfl : l.stackTraces = false) (D : va_G) (cy : Nat → Nat) (σ : Wd) (am : Nat → Nat) (bs : List Bn) (ru : Nat → Int × Int) (se : Int) (pf : Nat → Int) (hd : Hd) (ca : Int) (evs : List Evt) (ln : List Int) (bl : Int × Int × Int) (th : Int) (hM : RM cy σ am bs ru se pf hd ca evs ln bl th)  : Ct l yX7_owned cX7_owned 1 (some .int) 2 0 0 D cy [.ref (am 0)] σ (fun v σ' => v = some (vi (totB bs)) ∧ RM cy σ' am bs ru se pf hd ca evs ln bl 0 ∧ Keep σ σ' (inM am) ∧ σ'.1 = σ.1) noX := by
  refine ct_start (by decide +kernel) hfl rfl (fun κ e1 e2 e3 C E NH => ?_)
  subst e1 e2 e3
  have C : Cx κ cX7_owned 1 RX7 "owned" 2 := C
  obtain ⟨-, -, -, -, hc, hs⟩ := id E
  show J κ σ [(0, .ref (am 0))] 0 [] 0 0
  obtain ⟨hI1, gc1, gm1, gr1, gp1, gb1, go1, gf1, gg1, gt1, gz1, gk1, gl1, _, _, _, h01, ⟨hgc1, hgm1, hgr1, hgp1, hgb1, hgo1, hgf1, hgg1, hgt1, hgz1, hgk1, hgl1⟩, ⟨rfl, rfl, rfl⟩, hBn1, hRu1, hPr1, hTr1, hKi1, hLi1⟩ := id hM
  have hI := hI1
  have hnb61 := hBn1.1
  have kp0 : Keep σ σ (inM am) := Keep.rf
  have dm0 : σ.1 = σ.1 := rfl
  refine j_aload_n 0 C dX7_owned_0 rfl rfl rfl ?_
  refine j_iconst C dX7_owned_1 rfl ?_
  refine j_put (fs' := [.ref (am 1), .ref (am 2), .ref (am 3), .ref (am 4), .ref (am 5), .ref (am 6), .ref (am 7), .ref (am 8), .ref (am 9), .ref (am 10), .ref (am 11), .ref (am 12), vi ((bs.length : Int)), vi (se), vi ((evs.length : Int)), vi (hd.2.1), vi (hd.2.2.2.1), vi (hd.2.2.1), vi ((ln.length : Int)), vi (bl.1), vi (bl.2.1), vi (bl.2.2), vi (0), vl (hd.2.2.2.2), vl (ca)]) C dX7_owned_2 rfl fa_X7_52 h01 rfl rfl rfl rfl (fun τ2 ee3 => ?_)
  have u4 : has τ2 (am 0) (.inr (7, [.ref (am 1), .ref (am 2), .ref (am 3), .ref (am 4), .ref (am 5), .ref (am 6), .ref (am 7), .ref (am 8), .ref (am 9), .ref (am 10), .ref (am 11), .ref (am 12), vi ((bs.length : Int)), vi (se), vi ((evs.length : Int)), vi (hd.2.1), vi (hd.2.2.2.1), vi (hd.2.2.1), vi ((ln.length : Int)), vi (bl.1), vi (bl.2.1), vi (bl.2.2), vi (0), vl (hd.2.2.2.2), vl (ca)])) := h01.self' ee3
  have u5 := hgc1.ne' ee3 (hI 1 0 (by decide) (by decide) (by decide))
  have u6 := hgm1.ne' ee3 (hI 2 0 (by decide) (by decide) (by decide))
  have u7 := hgr1.ne' ee3 (hI 3 0 (by decide) (by decide) (by decide))
  have u8 := hgp1.ne' ee3 (hI 4 0 (by decide) (by decide) (by decide))
  have u9 := hgb1.ne' ee3 (hI 5 0 (by decide) (by decide) (by decide))
  have u10 := hgo1.ne' ee3 (hI 6 0 (by decide) (by decide) (by decide))
  have u11 := hgf1.ne' ee3 (hI 7 0 (by decide) (by decide) (by decide))
  have u12 := hgg1.ne' ee3 (hI 8 0 (by decide) (by decide) (by decide))
  have u13 := hgt1.ne' ee3 (hI 9 0 (by decide) (by decide) (by decide))
  have u14 := hgz1.ne' ee3 (hI 10 0 (by decide) (by decide) (by decide))
  have u15 := hgk1.ne' ee3 (hI 11 0 (by decide) (by decide) (by decide))
  have u16 := hgl1.ne' ee3 (hI 12 0 (by decide) (by decide) (by decide))
  have kp17 := kp0.put ee3 ⟨0, by decide, rfl⟩
  have dm18 := (dom_put ee3).trans dm0
  refine j_aload_n 0 C dX7_owned_5 rfl rfl rfl ?_
  have hM2 : RM (kc κ) τ2 am bs ru se pf hd ca evs ln bl 0 := ⟨hI, _, _, _, _, _, _, _, _, _, _, _, _, _, _, _, u4, ⟨u5, u6, u7, u8, u9, u10, u11, u12, u13, u14, u15, u16⟩, ⟨rfl, rfl, rfl⟩, hBn1, hRu1, hPr1, hTr1, hKi1, hLi1⟩
  refine j_callV (st' := []) (As := []) C dX7_owned_6 rfl m_X7_83 u4 rfl rfl rfl (c_all (kL κ) hfl (kD κ) (kc κ) τ2 am bs ru se pf hd ca evs ln bl 0 hM2 ) rfl (by omega) (by omega) (by omega) (fun _ _ hx => hx.elim) (fun v20 τ19 hp21 => ?_)
  obtain ⟨rfl, hs9⟩ := hp21
  replace hs9 := hs9.symm
  subst hs9
  show J κ τ2 [(0, .ref (am 0))] 9 [vi ((totB bs))] _ _
  exact j_iret C E dX7_owned_9 (by omega) (by omega) ⟨rfl, ⟨hI, _, _, _, _, _, _, _, _, _, _, _, _, _, _, _, u4, ⟨u5, u6, u7, u8, u9, u10, u11, u12, u13, u14, u15, u16⟩, ⟨rfl, rfl, rfl⟩, hBn1, hRu1, hPr1, hTr1, hKi1, hLi1⟩, kp17, dm18⟩
set_option maxHeartbeats 4000000 in
set_option maxRecDepth 20000 in
theorem m_thrown (l : Launch) (hfl : l.stackTraces = false) (D : va_G) (cy : Nat → Nat) (σ : Wd) (am : Nat → Nat) (bs : List Bn) (ru : Nat → Int × Int) (se : Int) (pf : Nat → Int) (hd : Hd) (ca : Int) (evs : List Evt) (ln : List Int) (bl : Int × Int × Int) (th : Int) (hM : RM cy σ am bs ru se pf hd ca evs ln bl th)  : Ct l yX7_thrown cX7_thrown 1 (some .int) 0 0 0 D cy [.ref (am 0)] σ (fun v σ' => v = some (vi th) ∧ σ' = σ) noX := by
  refine ct_start (by decide +kernel) hfl rfl (fun κ e1 e2 e3 C E NH => ?_)
  subst e1 e2 e3
  have C : Cx κ cX7_thrown 1 RX7 "thrown" 0 := C
  obtain ⟨-, -, -, -, hc, hs⟩ := id E
  show J κ σ [(0, .ref (am 0))] 0 [] 0 0
  obtain ⟨hI1, gc1, gm1, gr1, gp1, gb1, go1, gf1, gg1, gt1, gz1, gk1, gl1, _, _, _, h01, ⟨hgc1, hgm1, hgr1, hgp1, hgb1, hgo1, hgf1, hgg1, hgt1, hgz1, hgk1, hgl1⟩, ⟨rfl, rfl, rfl⟩, hBn1, hRu1, hPr1, hTr1, hKi1, hLi1⟩ := id hM
  have hI := hI1
  have hnb61 := hBn1.1
  refine j_aload_n 0 C dX7_thrown_0 rfl rfl rfl ?_
  refine j_get C dX7_thrown_1 rfl fg_X7_52 h01 rfl ?_
  exact j_iret C E dX7_thrown_4 (by omega) (by omega) ⟨rfl, rfl⟩
set_option maxHeartbeats 4000000 in
set_option maxRecDepth 20000 in
theorem m_capacityOf (l : Launch) (hfl : l.stackTraces = false) (D : va_G) (cy : Nat → Nat) (σ : Wd) (am : Nat → Nat) (bs : List Bn) (ru : Nat → Int × Int) (se : Int) (pf : Nat → Int) (hd : Hd) (ca : Int) (evs : List Evt) (ln : List Int) (bl : Int × Int × Int) (th : Int) (hM : RM cy σ am bs ru se pf hd ca evs ln bl th) (b : Int) (hb9 : (-2147483648 ≤ b ∧ b < 2147483648)) : Ct l yX7_capacityOf cX7_capacityOf 2 (some .int) 2 0 0 D cy [.ref (am 0), vi (b)] σ (fun v σ' => ∃ rz : Int, v = some (vi rz) ∧ ((o_capacityOf bs ru se pf hd ca evs ln b).1 = 0 → rz = (o_capacityOf bs ru se pf hd ca evs ln b).2.1) ∧ (∃ bl', RMs cy σ' am (o_capacityOf bs ru se pf hd ca evs ln b).2.2 bl' (o_capacityOf bs ru se pf hd ca evs ln b).1) ∧ Keep σ σ' (inM am) ∧ σ'.1 = σ.1) noX := by
  refine ct_start (by decide +kernel) hfl rfl (fun κ e1 e2 e3 C E NH => ?_)
  subst e1 e2 e3
  have C : Cx κ cX7_capacityOf 2 RX7 "capacityOf" 2 := C
  obtain ⟨-, -, -, -, hc, hs⟩ := id E
  show J κ σ [(0, .ref (am 0)), (1, vi (b))] 0 [] 0 0
  obtain ⟨hI1, gc1, gm1, gr1, gp1, gb1, go1, gf1, gg1, gt1, gz1, gk1, gl1, _, _, _, h01, ⟨hgc1, hgm1, hgr1, hgp1, hgb1, hgo1, hgf1, hgg1, hgt1, hgz1, hgk1, hgl1⟩, ⟨rfl, rfl, rfl⟩, hBn1, hRu1, hPr1, hTr1, hKi1, hLi1⟩ := id hM
  have hI := hI1
  have hnb61 := hBn1.1
  have kp0 : Keep σ σ (inM am) := Keep.rf
  have dm0 : σ.1 = σ.1 := rfl
  refine j_aload_n 0 C dX7_capacityOf_0 rfl rfl rfl ?_
  refine j_iload_n 1 C dX7_capacityOf_1 rfl rfl rfl ?_
  rcases Classical.em (b < 0 ∨ (bs.length : Int) ≤ b) with hq | hq
  · refine j_callV (st' := []) (As := [vi (b)]) C dX7_capacityOf_2 rfl m_X7_66 h01 rfl rfl rfl (c_nb1 (kL κ) hfl (kD κ) (kc κ) σ am bs ru se pf hd ca evs ln bl th hM b ⟨by omega, by omega⟩ hq) rfl (by omega) (by omega) (by omega) (fun _ _ hx => hx.elim) (fun v3 τ2 hp4 => ?_)
    obtain ⟨rfl, hN5, hN5k, hN5d⟩ := hp4
    show J κ τ2 [(0, .ref (am 0)), (1, vi (b))] 5 [vi (1)] _ _
    have hN5K := kp0.tr hN5k
    have hN5D := hN5d.trans dm0
    obtain ⟨hI6, gc6, gm6, gr6, gp6, gb6, go6, gf6, gg6, gt6, gz6, gk6, gl6, _, _, _, h06, ⟨hgc6, hgm6, hgr6, hgp6, hgb6, hgo6, hgf6, hgg6, hgt6, hgz6, hgk6, hgl6⟩, ⟨rfl, rfl, rfl⟩, hBn6, hRu6, hPr6, hTr6, hKi6, hLi6⟩ := id hN5
    have hI := hI6
    have hnb66 := hBn6.1
    refine j_if_eq (tgt := 12) C dX7_capacityOf_5 rfl rfl ⟨by omega, by omega⟩ (fun cc7 => absurd cc7 (by decide)) (fun _ => ?_)
    refine j_iconst C dX7_capacityOf_8 rfl ?_
    refine j_goto (tgt := 18) C dX7_capacityOf_9 rfl ?_
    have ho : o_capacityOf bs ru se pf hd ca evs ln b = (1, 0, (bs, ru, se, pf, hd, ca, evs, ln)) := by unfold o_capacityOf; rw [if_pos (by omega)]
    exact j_iret C E dX7_capacityOf_18 (by omega) (by omega) ⟨_, rfl, by rw [ho]; exact fun h9 => absurd (show (1 : Int) = 0 from h9) (by decide), ⟨_, by rw [ho]; exact hN5⟩, hN5K, hN5D⟩
  · obtain ⟨i, hi, rfl⟩ : ∃ i : Nat, i < bs.length ∧ b = (i : Int) := ⟨b.toNat, by omega, by omega⟩
    refine j_callV (st' := []) (As := [vi ((i : Int))]) C dX7_capacityOf_2 rfl m_X7_66 h01 rfl rfl rfl (c_nb0 (kL κ) hfl (kD κ) (kc κ) σ am bs ru se pf hd ca evs ln bl th hM i hi) rfl (by omega) (by omega) (by omega) (fun _ _ hx => hx.elim) (fun v9 τ8 hp10 => ?_)
    obtain ⟨rfl, hN11, hN11k, hN11d⟩ := hp10
    show J κ τ8 [(0, .ref (am 0)), (1, vi ((i : Int)))] 5 [vi (0)] _ _
    have hN11K := kp0.tr hN11k
    have hN11D := hN11d.trans dm0
    obtain ⟨hI12, gc12, gm12, gr12, gp12, gb12, go12, gf12, gg12, gt12, gz12, gk12, gl12, _, _, _, h012, ⟨hgc12, hgm12, hgr12, hgp12, hgb12, hgo12, hgf12, hgg12, hgt12, hgz12, hgk12, hgl12⟩, ⟨rfl, rfl, rfl⟩, hBn12, hRu12, hPr12, hTr12, hKi12, hLi12⟩ := id hN11
    have hI := hI12
    have hnb612 := hBn12.1
    refine j_if_eq (tgt := 12) C dX7_capacityOf_5 rfl rfl ⟨by omega, by omega⟩ (fun _ => ?_) (fun cc13 => absurd cc13 (by decide))
    obtain ⟨⟨cap, mf, ly⟩, hg⟩ : ∃ z, gB bs (i : Int) = z := ⟨_, rfl⟩
    have hbk_12 := hBn12.2.2 i hi
    rw [hg] at hbk_12
    obtain ⟨⟨hcp_12, hmz_12⟩, ⟨hmn_12, hl9_12⟩, hrw_12⟩ := hbk_12
    dsimp only at hcp_12 hmz_12 hmn_12 hl9_12 hrw_12
    refine j_aload_n 0 C dX7_capacityOf_12 rfl rfl rfl ?_
    refine j_get C dX7_capacityOf_13 rfl fg_X7_9 h012 rfl ?_
    refine j_iload_n 1 C dX7_capacityOf_16 rfl rfl rfl ?_
    refine j_iald C dX7_capacityOf_17 rfl hgc12 ⟨by omega, by omega⟩ (by omega) hcp_12 ?_
    have ho : o_capacityOf bs ru se pf hd ca evs ln (i : Int) = (0, (gB bs (i : Int)).1, (bs, ru, se, pf, hd, ca, evs, ln)) := by unfold o_capacityOf; rw [if_neg (by omega)]
    exact j_iret C E dX7_capacityOf_18 (by omega) (by omega) ⟨_, rfl, by rw [ho]; exact fun _ => by rw [hg], ⟨_, by rw [ho]; exact hN11⟩, hN11K, hN11D⟩
set_option maxHeartbeats 4000000 in
set_option maxRecDepth 20000 in
theorem m_layersIn (l : Launch) (hfl : l.stackTraces = false) (D : va_G) (cy : Nat → Nat) (σ : Wd) (am : Nat → Nat) (bs : List Bn) (ru : Nat → Int × Int) (se : Int) (pf : Nat → Int) (hd : Hd) (ca : Int) (evs : List Evt) (ln : List Int) (bl : Int × Int × Int) (th : Int) (hM : RM cy σ am bs ru se pf hd ca evs ln bl th) (b : Int) (hb9 : (-2147483648 ≤ b ∧ b < 2147483648)) : Ct l yX7_layersIn cX7_layersIn 2 (some .int) 2 0 0 D cy [.ref (am 0), vi (b)] σ (fun v σ' => ∃ rz : Int, v = some (vi rz) ∧ ((o_layersIn bs ru se pf hd ca evs ln b).1 = 0 → rz = (o_layersIn bs ru se pf hd ca evs ln b).2.1) ∧ (∃ bl', RMs cy σ' am (o_layersIn bs ru se pf hd ca evs ln b).2.2 bl' (o_layersIn bs ru se pf hd ca evs ln b).1) ∧ Keep σ σ' (inM am) ∧ σ'.1 = σ.1) noX := by
  refine ct_start (by decide +kernel) hfl rfl (fun κ e1 e2 e3 C E NH => ?_)
  subst e1 e2 e3
  have C : Cx κ cX7_layersIn 2 RX7 "layersIn" 2 := C
  obtain ⟨-, -, -, -, hc, hs⟩ := id E
  show J κ σ [(0, .ref (am 0)), (1, vi (b))] 0 [] 0 0
  obtain ⟨hI1, gc1, gm1, gr1, gp1, gb1, go1, gf1, gg1, gt1, gz1, gk1, gl1, _, _, _, h01, ⟨hgc1, hgm1, hgr1, hgp1, hgb1, hgo1, hgf1, hgg1, hgt1, hgz1, hgk1, hgl1⟩, ⟨rfl, rfl, rfl⟩, hBn1, hRu1, hPr1, hTr1, hKi1, hLi1⟩ := id hM
  have hI := hI1
  have hnb61 := hBn1.1
  have kp0 : Keep σ σ (inM am) := Keep.rf
  have dm0 : σ.1 = σ.1 := rfl
  refine j_aload_n 0 C dX7_layersIn_0 rfl rfl rfl ?_
  refine j_iload_n 1 C dX7_layersIn_1 rfl rfl rfl ?_
  rcases Classical.em (b < 0 ∨ (bs.length : Int) ≤ b) with hq | hq
  · refine j_callV (st' := []) (As := [vi (b)]) C dX7_layersIn_2 rfl m_X7_66 h01 rfl rfl rfl (c_nb1 (kL κ) hfl (kD κ) (kc κ) σ am bs ru se pf hd ca evs ln bl th hM b ⟨by omega, by omega⟩ hq) rfl (by omega) (by omega) (by omega) (fun _ _ hx => hx.elim) (fun v3 τ2 hp4 => ?_)
    obtain ⟨rfl, hN5, hN5k, hN5d⟩ := hp4
    show J κ τ2 [(0, .ref (am 0)), (1, vi (b))] 5 [vi (1)] _ _
    have hN5K := kp0.tr hN5k
    have hN5D := hN5d.trans dm0
    obtain ⟨hI6, gc6, gm6, gr6, gp6, gb6, go6, gf6, gg6, gt6, gz6, gk6, gl6, _, _, _, h06, ⟨hgc6, hgm6, hgr6, hgp6, hgb6, hgo6, hgf6, hgg6, hgt6, hgz6, hgk6, hgl6⟩, ⟨rfl, rfl, rfl⟩, hBn6, hRu6, hPr6, hTr6, hKi6, hLi6⟩ := id hN5
    have hI := hI6
    have hnb66 := hBn6.1
    refine j_if_eq (tgt := 12) C dX7_layersIn_5 rfl rfl ⟨by omega, by omega⟩ (fun cc7 => absurd cc7 (by decide)) (fun _ => ?_)
    refine j_iconst C dX7_layersIn_8 rfl ?_
    refine j_goto (tgt := 18) C dX7_layersIn_9 rfl ?_
    have ho : o_layersIn bs ru se pf hd ca evs ln b = (1, 0, (bs, ru, se, pf, hd, ca, evs, ln)) := by unfold o_layersIn; rw [if_pos (by omega)]
    exact j_iret C E dX7_layersIn_18 (by omega) (by omega) ⟨_, rfl, by rw [ho]; exact fun h9 => absurd (show (1 : Int) = 0 from h9) (by decide), ⟨_, by rw [ho]; exact hN5⟩, hN5K, hN5D⟩
  · obtain ⟨i, hi, rfl⟩ : ∃ i : Nat, i < bs.length ∧ b = (i : Int) := ⟨b.toNat, by omega, by omega⟩
    refine j_callV (st' := []) (As := [vi ((i : Int))]) C dX7_layersIn_2 rfl m_X7_66 h01 rfl rfl rfl (c_nb0 (kL κ) hfl (kD κ) (kc κ) σ am bs ru se pf hd ca evs ln bl th hM i hi) rfl (by omega) (by omega) (by omega) (fun _ _ hx => hx.elim) (fun v9 τ8 hp10 => ?_)
    obtain ⟨rfl, hN11, hN11k, hN11d⟩ := hp10
    show J κ τ8 [(0, .ref (am 0)), (1, vi ((i : Int)))] 5 [vi (0)] _ _
    have hN11K := kp0.tr hN11k
    have hN11D := hN11d.trans dm0
    obtain ⟨hI12, gc12, gm12, gr12, gp12, gb12, go12, gf12, gg12, gt12, gz12, gk12, gl12, _, _, _, h012, ⟨hgc12, hgm12, hgr12, hgp12, hgb12, hgo12, hgf12, hgg12, hgt12, hgz12, hgk12, hgl12⟩, ⟨rfl, rfl, rfl⟩, hBn12, hRu12, hPr12, hTr12, hKi12, hLi12⟩ := id hN11
    have hI := hI12
    have hnb612 := hBn12.1
    refine j_if_eq (tgt := 12) C dX7_layersIn_5 rfl rfl ⟨by omega, by omega⟩ (fun _ => ?_) (fun cc13 => absurd cc13 (by decide))
    obtain ⟨⟨cap, mf, ly⟩, hg⟩ : ∃ z, gB bs (i : Int) = z := ⟨_, rfl⟩
    have hbk_12 := hBn12.2.2 i hi
    rw [hg] at hbk_12
    obtain ⟨⟨hcp_12, hmz_12⟩, ⟨hmn_12, hl9_12⟩, hrw_12⟩ := hbk_12
    dsimp only at hcp_12 hmz_12 hmn_12 hl9_12 hrw_12
    refine j_aload_n 0 C dX7_layersIn_12 rfl rfl rfl ?_
    refine j_get C dX7_layersIn_13 rfl fg_X7_13 h012 rfl ?_
    refine j_iload_n 1 C dX7_layersIn_16 rfl rfl rfl ?_
    refine j_iald C dX7_layersIn_17 rfl hgm12 ⟨by omega, by omega⟩ (by omega) hmn_12 ?_
    have ho : o_layersIn bs ru se pf hd ca evs ln (i : Int) = (0, ((gB bs (i : Int)).2.2.length : Int), (bs, ru, se, pf, hd, ca, evs, ln)) := by unfold o_layersIn; rw [if_neg (by omega)]
    exact j_iret C E dX7_layersIn_18 (by omega) (by omega) ⟨_, rfl, by rw [ho]; exact fun _ => by rw [hg], ⟨_, by rw [ho]; exact hN11⟩, hN11K, hN11D⟩
set_option maxHeartbeats 4000000 in
set_option maxRecDepth 20000 in
theorem m_bushelsIn (l : Launch) (hfl : l.stackTraces = false) (D : va_G) (cy : Nat → Nat) (σ : Wd) (am : Nat → Nat) (bs : List Bn) (ru : Nat → Int × Int) (se : Int) (pf : Nat → Int) (hd : Hd) (ca : Int) (evs : List Evt) (ln : List Int) (bl : Int × Int × Int) (th : Int) (hM : RM cy σ am bs ru se pf hd ca evs ln bl th) (b : Int) (hb9 : (-2147483648 ≤ b ∧ b < 2147483648)) : Ct l yX7_bushelsIn cX7_bushelsIn 2 (some .int) 2 0 0 D cy [.ref (am 0), vi (b)] σ (fun v σ' => ∃ rz : Int, v = some (vi rz) ∧ ((o_bushelsIn bs ru se pf hd ca evs ln b).1 = 0 → rz = (o_bushelsIn bs ru se pf hd ca evs ln b).2.1) ∧ (∃ bl', RMs cy σ' am (o_bushelsIn bs ru se pf hd ca evs ln b).2.2 bl' (o_bushelsIn bs ru se pf hd ca evs ln b).1) ∧ Keep σ σ' (inM am) ∧ σ'.1 = σ.1) noX := by
  refine ct_start (by decide +kernel) hfl rfl (fun κ e1 e2 e3 C E NH => ?_)
  subst e1 e2 e3
  have C : Cx κ cX7_bushelsIn 2 RX7 "bushelsIn" 2 := C
  obtain ⟨-, -, -, -, hc, hs⟩ := id E
  show J κ σ [(0, .ref (am 0)), (1, vi (b))] 0 [] 0 0
  obtain ⟨hI1, gc1, gm1, gr1, gp1, gb1, go1, gf1, gg1, gt1, gz1, gk1, gl1, _, _, _, h01, ⟨hgc1, hgm1, hgr1, hgp1, hgb1, hgo1, hgf1, hgg1, hgt1, hgz1, hgk1, hgl1⟩, ⟨rfl, rfl, rfl⟩, hBn1, hRu1, hPr1, hTr1, hKi1, hLi1⟩ := id hM
  have hI := hI1
  have hnb61 := hBn1.1
  have kp0 : Keep σ σ (inM am) := Keep.rf
  have dm0 : σ.1 = σ.1 := rfl
  refine j_aload_n 0 C dX7_bushelsIn_0 rfl rfl rfl ?_
  refine j_iload_n 1 C dX7_bushelsIn_1 rfl rfl rfl ?_
  rcases Classical.em (b < 0 ∨ (bs.length : Int) ≤ b) with hq | hq
  · refine j_callV (st' := []) (As := [vi (b)]) C dX7_bushelsIn_2 rfl m_X7_66 h01 rfl rfl rfl (c_nb1 (kL κ) hfl (kD κ) (kc κ) σ am bs ru se pf hd ca evs ln bl th hM b ⟨by omega, by omega⟩ hq) rfl (by omega) (by omega) (by omega) (fun _ _ hx => hx.elim) (fun v3 τ2 hp4 => ?_)
    obtain ⟨rfl, hN5, hN5k, hN5d⟩ := hp4
    show J κ τ2 [(0, .ref (am 0)), (1, vi (b))] 5 [vi (1)] _ _
    have hN5K := kp0.tr hN5k
    have hN5D := hN5d.trans dm0
    obtain ⟨hI6, gc6, gm6, gr6, gp6, gb6, go6, gf6, gg6, gt6, gz6, gk6, gl6, _, _, _, h06, ⟨hgc6, hgm6, hgr6, hgp6, hgb6, hgo6, hgf6, hgg6, hgt6, hgz6, hgk6, hgl6⟩, ⟨rfl, rfl, rfl⟩, hBn6, hRu6, hPr6, hTr6, hKi6, hLi6⟩ := id hN5
    have hI := hI6
    have hnb66 := hBn6.1
    refine j_if_eq (tgt := 12) C dX7_bushelsIn_5 rfl rfl ⟨by omega, by omega⟩ (fun cc7 => absurd cc7 (by decide)) (fun _ => ?_)
    refine j_iconst C dX7_bushelsIn_8 rfl ?_
    refine j_goto (tgt := 17) C dX7_bushelsIn_9 rfl ?_
    have ho : o_bushelsIn bs ru se pf hd ca evs ln b = (1, 0, (bs, ru, se, pf, hd, ca, evs, ln)) := by unfold o_bushelsIn; rw [if_pos (by omega)]
    exact j_iret C E dX7_bushelsIn_17 (by omega) (by omega) ⟨_, rfl, by rw [ho]; exact fun h9 => absurd (show (1 : Int) = 0 from h9) (by decide), ⟨_, by rw [ho]; exact hN5⟩, hN5K, hN5D⟩
  · obtain ⟨i, hi, rfl⟩ : ∃ i : Nat, i < bs.length ∧ b = (i : Int) := ⟨b.toNat, by omega, by omega⟩
    refine j_callV (st' := []) (As := [vi ((i : Int))]) C dX7_bushelsIn_2 rfl m_X7_66 h01 rfl rfl rfl (c_nb0 (kL κ) hfl (kD κ) (kc κ) σ am bs ru se pf hd ca evs ln bl th hM i hi) rfl (by omega) (by omega) (by omega) (fun _ _ hx => hx.elim) (fun v9 τ8 hp10 => ?_)
    obtain ⟨rfl, hN11, hN11k, hN11d⟩ := hp10
    show J κ τ8 [(0, .ref (am 0)), (1, vi ((i : Int)))] 5 [vi (0)] _ _
    have hN11K := kp0.tr hN11k
    have hN11D := hN11d.trans dm0
    obtain ⟨hI12, gc12, gm12, gr12, gp12, gb12, go12, gf12, gg12, gt12, gz12, gk12, gl12, _, _, _, h012, ⟨hgc12, hgm12, hgr12, hgp12, hgb12, hgo12, hgf12, hgg12, hgt12, hgz12, hgk12, hgl12⟩, ⟨rfl, rfl, rfl⟩, hBn12, hRu12, hPr12, hTr12, hKi12, hLi12⟩ := id hN11
    have hI := hI12
    have hnb612 := hBn12.1
    refine j_if_eq (tgt := 12) C dX7_bushelsIn_5 rfl rfl ⟨by omega, by omega⟩ (fun _ => ?_) (fun cc13 => absurd cc13 (by decide))
    refine j_aload_n 0 C dX7_bushelsIn_12 rfl rfl rfl ?_
    refine j_iload_n 1 C dX7_bushelsIn_13 rfl rfl rfl ?_
    refine j_callV (st' := []) (As := [vi ((i : Int))]) C dX7_bushelsIn_14 rfl m_X7_93 h012 rfl rfl rfl (c_within (kL κ) hfl (kD κ) (kc κ) τ8 am bs ru se pf hd ca evs ln bl 0 hN11 i hi) rfl (by omega) (by omega) (by omega) (fun _ _ hx => hx.elim) (fun v15 τ14 hp16 => ?_)
    obtain ⟨rfl, hs9⟩ := hp16
    replace hs9 := hs9.symm
    subst hs9
    show J κ τ8 [(0, .ref (am 0)), (1, vi ((i : Int)))] 17 [vi ((tot (gB bs (i : Int)).2.2))] _ _
    have ho : o_bushelsIn bs ru se pf hd ca evs ln (i : Int) = (0, tot (gB bs (i : Int)).2.2, (bs, ru, se, pf, hd, ca, evs, ln)) := by unfold o_bushelsIn; rw [if_neg (by omega)]
    exact j_iret C E dX7_bushelsIn_17 (by omega) (by omega) ⟨_, rfl, by rw [ho]; exact fun _ => rfl, ⟨_, by rw [ho]; exact hN11⟩, hN11K, hN11D⟩
set_option maxHeartbeats 4000000 in
set_option maxRecDepth 20000 in
theorem m_layerBushels (l : Launch) (hfl : l.stackTraces = false) (D : va_G) (cy : Nat → Nat) (σ : Wd) (am : Nat → Nat) (bs : List Bn) (ru : Nat → Int × Int) (se : Int) (pf : Nat → Int) (hd : Hd) (ca : Int) (evs : List Evt) (ln : List Int) (bl : Int × Int × Int) (th : Int) (hM : RM cy σ am bs ru se pf hd ca evs ln bl th) (b : Int) (hb9 : (-2147483648 ≤ b ∧ b < 2147483648)) (q : Int) (hq9 : (-2147483648 ≤ q ∧ q < 2147483648)) : Ct l yX7_layerBushels cX7_layerBushels 3 (some .int) 3 0 0 D cy [.ref (am 0), vi (b), vi (q)] σ (fun v σ' => ∃ rz : Int, v = some (vi rz) ∧ ((o_layerBushels bs ru se pf hd ca evs ln b q).1 = 0 → rz = (o_layerBushels bs ru se pf hd ca evs ln b q).2.1) ∧ (∃ bl', RMs cy σ' am (o_layerBushels bs ru se pf hd ca evs ln b q).2.2 bl' (o_layerBushels bs ru se pf hd ca evs ln b q).1) ∧ Keep σ σ' (inM am) ∧ σ'.1 = σ.1) noX := by
  refine ct_start (by decide +kernel) hfl rfl (fun κ e1 e2 e3 C E NH => ?_)
  subst e1 e2 e3
  have C : Cx κ cX7_layerBushels 3 RX7 "layerBushels" 3 := C
  obtain ⟨-, -, -, -, hc, hs⟩ := id E
  show J κ σ [(0, .ref (am 0)), (1, vi (b)), (2, vi (q))] 0 [] 0 0
  obtain ⟨hI1, gc1, gm1, gr1, gp1, gb1, go1, gf1, gg1, gt1, gz1, gk1, gl1, _, _, _, h01, ⟨hgc1, hgm1, hgr1, hgp1, hgb1, hgo1, hgf1, hgg1, hgt1, hgz1, hgk1, hgl1⟩, ⟨rfl, rfl, rfl⟩, hBn1, hRu1, hPr1, hTr1, hKi1, hLi1⟩ := id hM
  have hI := hI1
  have hnb61 := hBn1.1
  have kp0 : Keep σ σ (inM am) := Keep.rf
  have dm0 : σ.1 = σ.1 := rfl
  refine j_aload_n 0 C dX7_layerBushels_0 rfl rfl rfl ?_
  refine j_iload_n 1 C dX7_layerBushels_1 rfl rfl rfl ?_
  refine j_iload_n 2 C dX7_layerBushels_2 rfl rfl rfl ?_
  rcases Classical.em (b < 0 ∨ (bs.length : Int) ≤ b) with hq | hq
  · refine j_callV (st' := []) (As := [vi (b), vi (q)]) C dX7_layerBushels_3 rfl m_X7_135 h01 rfl rfl rfl (c_nl1 (kL κ) hfl (kD κ) (kc κ) σ am bs ru se pf hd ca evs ln bl th hM b q ⟨by omega, by omega⟩ ⟨by omega, by omega⟩ hq) rfl (by omega) (by omega) (by omega) (fun _ _ hx => hx.elim) (fun v3 τ2 hp4 => ?_)
    obtain ⟨rfl, hN5, hN5k, hN5d⟩ := hp4
    show J κ τ2 [(0, .ref (am 0)), (1, vi (b)), (2, vi (q))] 6 [vi (1)] _ _
    have hN5K := kp0.tr hN5k
    have hN5D := hN5d.trans dm0
    obtain ⟨hI6, gc6, gm6, gr6, gp6, gb6, go6, gf6, gg6, gt6, gz6, gk6, gl6, _, _, _, h06, ⟨hgc6, hgm6, hgr6, hgp6, hgb6, hgo6, hgf6, hgg6, hgt6, hgz6, hgk6, hgl6⟩, ⟨rfl, rfl, rfl⟩, hBn6, hRu6, hPr6, hTr6, hKi6, hLi6⟩ := id hN5
    have hI := hI6
    have hnb66 := hBn6.1
    refine j_if_eq (tgt := 13) C dX7_layerBushels_6 rfl rfl ⟨by omega, by omega⟩ (fun cc7 => absurd cc7 (by decide)) (fun _ => ?_)
    refine j_iconst C dX7_layerBushels_9 rfl ?_
    refine j_goto (tgt := 24) C dX7_layerBushels_10 rfl ?_
    have ho : o_layerBushels bs ru se pf hd ca evs ln b q = (1, 0, (bs, ru, se, pf, hd, ca, evs, ln)) := by unfold o_layerBushels; rw [if_pos (by omega)]
    exact j_iret C E dX7_layerBushels_24 (by omega) (by omega) ⟨_, rfl, by rw [ho]; exact fun h9 => absurd (show (1 : Int) = 0 from h9) (by decide), ⟨_, by rw [ho]; exact hN5⟩, hN5K, hN5D⟩
  · obtain ⟨i, hi, rfl⟩ : ∃ i : Nat, i < bs.length ∧ b = (i : Int) := ⟨b.toNat, by omega, by omega⟩
    rcases Classical.em (q < 0 ∨ ((gB bs (i : Int)).2.2.length : Int) ≤ q) with hq2 | hq2
    · refine j_callV (st' := []) (As := [vi ((i : Int)), vi (q)]) C dX7_layerBushels_3 rfl m_X7_135 h01 rfl rfl rfl (c_nl2 (kL κ) hfl (kD κ) (kc κ) σ am bs ru se pf hd ca evs ln bl th hM i hi q ⟨by omega, by omega⟩ hq2) rfl (by omega) (by omega) (by omega) (fun _ _ hx => hx.elim) (fun v9 τ8 hp10 => ?_)
      obtain ⟨rfl, hN11, hN11k, hN11d⟩ := hp10
      show J κ τ8 [(0, .ref (am 0)), (1, vi ((i : Int))), (2, vi (q))] 6 [vi (1)] _ _
      have hN11K := kp0.tr hN11k
      have hN11D := hN11d.trans dm0
      obtain ⟨hI12, gc12, gm12, gr12, gp12, gb12, go12, gf12, gg12, gt12, gz12, gk12, gl12, _, _, _, h012, ⟨hgc12, hgm12, hgr12, hgp12, hgb12, hgo12, hgf12, hgg12, hgt12, hgz12, hgk12, hgl12⟩, ⟨rfl, rfl, rfl⟩, hBn12, hRu12, hPr12, hTr12, hKi12, hLi12⟩ := id hN11
      have hI := hI12
      have hnb612 := hBn12.1
      refine j_if_eq (tgt := 13) C dX7_layerBushels_6 rfl rfl ⟨by omega, by omega⟩ (fun cc13 => absurd cc13 (by decide)) (fun _ => ?_)
      refine j_iconst C dX7_layerBushels_9 rfl ?_
      refine j_goto (tgt := 24) C dX7_layerBushels_10 rfl ?_
      have ho : o_layerBushels bs ru se pf hd ca evs ln (i : Int) q = (1, 0, (bs, ru, se, pf, hd, ca, evs, ln)) := by unfold o_layerBushels; rw [if_pos (by omega)]
      exact j_iret C E dX7_layerBushels_24 (by omega) (by omega) ⟨_, rfl, by rw [ho]; exact fun h9 => absurd (show (1 : Int) = 0 from h9) (by decide), ⟨_, by rw [ho]; exact hN11⟩, hN11K, hN11D⟩
    · refine j_callV (st' := []) (As := [vi ((i : Int)), vi (q)]) C dX7_layerBushels_3 rfl m_X7_135 h01 rfl rfl rfl (c_nl0 (kL κ) hfl (kD κ) (kc κ) σ am bs ru se pf hd ca evs ln bl th hM i hi q ⟨by omega, by omega⟩) rfl (by omega) (by omega) (by omega) (fun _ _ hx => hx.elim) (fun v15 τ14 hp16 => ?_)
      obtain ⟨rfl, hN17, hN17k, hN17d⟩ := hp16
      show J κ τ14 [(0, .ref (am 0)), (1, vi ((i : Int))), (2, vi (q))] 6 [vi (0)] _ _
      have hN17K := kp0.tr hN17k
      have hN17D := hN17d.trans dm0
      obtain ⟨hI18, gc18, gm18, gr18, gp18, gb18, go18, gf18, gg18, gt18, gz18, gk18, gl18, _, _, _, h018, ⟨hgc18, hgm18, hgr18, hgp18, hgb18, hgo18, hgf18, hgg18, hgt18, hgz18, hgk18, hgl18⟩, ⟨rfl, rfl, rfl⟩, hBn18, hRu18, hPr18, hTr18, hKi18, hLi18⟩ := id hN17
      have hI := hI18
      have hnb618 := hBn18.1
      refine j_if_eq (tgt := 13) C dX7_layerBushels_6 rfl rfl ⟨by omega, by omega⟩ (fun _ => ?_) (fun cc19 => absurd cc19 (by decide))
      refine j_aload_n 0 C dX7_layerBushels_13 rfl rfl rfl ?_
      refine j_get C dX7_layerBushels_14 rfl fg_X7_22 h018 rfl ?_
      refine j_aload_n 0 C dX7_layerBushels_17 rfl rfl rfl ?_
      refine j_iload_n 1 C dX7_layerBushels_18 rfl rfl rfl ?_
      refine j_iload_n 2 C dX7_layerBushels_19 rfl rfl rfl ?_
      obtain ⟨⟨cap, mf, ly⟩, hg⟩ : ∃ z, gB bs (i : Int) = z := ⟨_, rfl⟩
      have hbk_18 := hBn18.2.2 i hi
      rw [hg] at hbk_18
      obtain ⟨⟨hcp_18, hmz_18⟩, ⟨hmn_18, hl9_18⟩, hrw_18⟩ := hbk_18
      dsimp only at hcp_18 hmz_18 hmn_18 hl9_18 hrw_18
      have hq4 := hq2
      rw [hg] at hq4
      have hq3 : 0 ≤ q ∧ q < (ly.length : Int) := by dsimp only at hq4; omega
      have hpl := pl_in (m := mf) (n := (ly.length : Int)) (i := q) hq3
      refine j_callV (st' := [.ref (am 5)]) (As := [vi ((i : Int)), vi (q)]) C dX7_layerBushels_20 rfl m_X7_109 h018 rfl rfl rfl (c_at (kL κ) hfl (kD κ) (kc κ) τ14 am bs ru se pf hd ca evs ln bl 0 hN17 i hi q) rfl (by omega) (by omega) (by omega) (fun _ _ hx => hx.elim) (fun v21 τ20 hp22 => ?_)
      obtain ⟨rfl, hs9⟩ := hp22
      replace hs9 := hs9.symm
      subst hs9
      show J κ τ14 [(0, .ref (am 0)), (1, vi ((i : Int))), (2, vi (q))] 23 [vi ((90 * (i : Int) + pl (gB bs (i : Int)).2.1 (gB bs (i : Int)).2.2.length q)), .ref (am 5)] _ _
      rw [hg]
      have hsh : ∀ z9 : Int, pl mf ly.length q = z9 → J κ τ14 [(0, .ref (am 0)), (1, vi ((i : Int))), (2, vi (q))] 23 [vi (90 * (i : Int) + z9), .ref (am 5)] 0 0 := ?_
      · exact hsh _ rfl
      intro z9 hz9
      rw [hz9] at hpl
      refine j_iald C dX7_layerBushels_23 rfl hgb18 ⟨by omega, by omega⟩ (by omega) ((rowF hrw_18 (c := cap) (m := mf) (i := q) hq3 (z := 90 * (i : Int) + z9) (by rw [hz9]; omega)).1) ?_
      have ho : o_layerBushels bs ru se pf hd ca evs ln (i : Int) q = (0, (lyAt (fl (gB bs (i : Int))) q).1, (bs, ru, se, pf, hd, ca, evs, ln)) := by unfold o_layerBushels; rw [if_neg (by omega)]
      exact j_iret C E dX7_layerBushels_24 (by omega) (by omega) ⟨_, rfl, by rw [ho]; exact fun _ => by rw [hg], ⟨_, by rw [ho]; exact hN17⟩, hN17K, hN17D⟩
set_option maxHeartbeats 4000000 in
set_option maxRecDepth 20000 in
theorem m_layerMoisture (l : Launch) (hfl : l.stackTraces = false) (D : va_G) (cy : Nat → Nat) (σ : Wd) (am : Nat → Nat) (bs : List Bn) (ru : Nat → Int × Int) (se : Int) (pf : Nat → Int) (hd : Hd) (ca : Int) (evs : List Evt) (ln : List Int) (bl : Int × Int × Int) (th : Int) (hM : RM cy σ am bs ru se pf hd ca evs ln bl th) (b : Int) (hb9 : (-2147483648 ≤ b ∧ b < 2147483648)) (q : Int) (hq9 : (-2147483648 ≤ q ∧ q < 2147483648)) : Ct l yX7_layerMoisture cX7_layerMoisture 3 (some .int) 3 0 0 D cy [.ref (am 0), vi (b), vi (q)] σ (fun v σ' => ∃ rz : Int, v = some (vi rz) ∧ ((o_layerMoisture bs ru se pf hd ca evs ln b q).1 = 0 → rz = (o_layerMoisture bs ru se pf hd ca evs ln b q).2.1) ∧ (∃ bl', RMs cy σ' am (o_layerMoisture bs ru se pf hd ca evs ln b q).2.2 bl' (o_layerMoisture bs ru se pf hd ca evs ln b q).1) ∧ Keep σ σ' (inM am) ∧ σ'.1 = σ.1) noX := by
  refine ct_start (by decide +kernel) hfl rfl (fun κ e1 e2 e3 C E NH => ?_)
  subst e1 e2 e3
  have C : Cx κ cX7_layerMoisture 3 RX7 "layerMoisture" 3 := C
  obtain ⟨-, -, -, -, hc, hs⟩ := id E
  show J κ σ [(0, .ref (am 0)), (1, vi (b)), (2, vi (q))] 0 [] 0 0
  obtain ⟨hI1, gc1, gm1, gr1, gp1, gb1, go1, gf1, gg1, gt1, gz1, gk1, gl1, _, _, _, h01, ⟨hgc1, hgm1, hgr1, hgp1, hgb1, hgo1, hgf1, hgg1, hgt1, hgz1, hgk1, hgl1⟩, ⟨rfl, rfl, rfl⟩, hBn1, hRu1, hPr1, hTr1, hKi1, hLi1⟩ := id hM
  have hI := hI1
  have hnb61 := hBn1.1
  have kp0 : Keep σ σ (inM am) := Keep.rf
  have dm0 : σ.1 = σ.1 := rfl
  refine j_aload_n 0 C dX7_layerMoisture_0 rfl rfl rfl ?_
  refine j_iload_n 1 C dX7_layerMoisture_1 rfl rfl rfl ?_
  refine j_iload_n 2 C dX7_layerMoisture_2 rfl rfl rfl ?_
  rcases Classical.em (b < 0 ∨ (bs.length : Int) ≤ b) with hq | hq
  · refine j_callV (st' := []) (As := [vi (b), vi (q)]) C dX7_layerMoisture_3 rfl m_X7_135 h01 rfl rfl rfl (c_nl1 (kL κ) hfl (kD κ) (kc κ) σ am bs ru se pf hd ca evs ln bl th hM b q ⟨by omega, by omega⟩ ⟨by omega, by omega⟩ hq) rfl (by omega) (by omega) (by omega) (fun _ _ hx => hx.elim) (fun v3 τ2 hp4 => ?_)
    obtain ⟨rfl, hN5, hN5k, hN5d⟩ := hp4
    show J κ τ2 [(0, .ref (am 0)), (1, vi (b)), (2, vi (q))] 6 [vi (1)] _ _
    have hN5K := kp0.tr hN5k
    have hN5D := hN5d.trans dm0
    obtain ⟨hI6, gc6, gm6, gr6, gp6, gb6, go6, gf6, gg6, gt6, gz6, gk6, gl6, _, _, _, h06, ⟨hgc6, hgm6, hgr6, hgp6, hgb6, hgo6, hgf6, hgg6, hgt6, hgz6, hgk6, hgl6⟩, ⟨rfl, rfl, rfl⟩, hBn6, hRu6, hPr6, hTr6, hKi6, hLi6⟩ := id hN5
    have hI := hI6
    have hnb66 := hBn6.1
    refine j_if_eq (tgt := 13) C dX7_layerMoisture_6 rfl rfl ⟨by omega, by omega⟩ (fun cc7 => absurd cc7 (by decide)) (fun _ => ?_)
    refine j_iconst C dX7_layerMoisture_9 rfl ?_
    refine j_goto (tgt := 24) C dX7_layerMoisture_10 rfl ?_
    have ho : o_layerMoisture bs ru se pf hd ca evs ln b q = (1, 0, (bs, ru, se, pf, hd, ca, evs, ln)) := by unfold o_layerMoisture; rw [if_pos (by omega)]
    exact j_iret C E dX7_layerMoisture_24 (by omega) (by omega) ⟨_, rfl, by rw [ho]; exact fun h9 => absurd (show (1 : Int) = 0 from h9) (by decide), ⟨_, by rw [ho]; exact hN5⟩, hN5K, hN5D⟩
  · obtain ⟨i, hi, rfl⟩ : ∃ i : Nat, i < bs.length ∧ b = (i : Int) := ⟨b.toNat, by omega, by omega⟩
    rcases Classical.em (q < 0 ∨ ((gB bs (i : Int)).2.2.length : Int) ≤ q) with hq2 | hq2
    · refine j_callV (st' := []) (As := [vi ((i : Int)), vi (q)]) C dX7_layerMoisture_3 rfl m_X7_135 h01 rfl rfl rfl (c_nl2 (kL κ) hfl (kD κ) (kc κ) σ am bs ru se pf hd ca evs ln bl th hM i hi q ⟨by omega, by omega⟩ hq2) rfl (by omega) (by omega) (by omega) (fun _ _ hx => hx.elim) (fun v9 τ8 hp10 => ?_)
      obtain ⟨rfl, hN11, hN11k, hN11d⟩ := hp10
      show J κ τ8 [(0, .ref (am 0)), (1, vi ((i : Int))), (2, vi (q))] 6 [vi (1)] _ _
      have hN11K := kp0.tr hN11k
      have hN11D := hN11d.trans dm0
      obtain ⟨hI12, gc12, gm12, gr12, gp12, gb12, go12, gf12, gg12, gt12, gz12, gk12, gl12, _, _, _, h012, ⟨hgc12, hgm12, hgr12, hgp12, hgb12, hgo12, hgf12, hgg12, hgt12, hgz12, hgk12, hgl12⟩, ⟨rfl, rfl, rfl⟩, hBn12, hRu12, hPr12, hTr12, hKi12, hLi12⟩ := id hN11
      have hI := hI12
      have hnb612 := hBn12.1
      refine j_if_eq (tgt := 13) C dX7_layerMoisture_6 rfl rfl ⟨by omega, by omega⟩ (fun cc13 => absurd cc13 (by decide)) (fun _ => ?_)
      refine j_iconst C dX7_layerMoisture_9 rfl ?_
      refine j_goto (tgt := 24) C dX7_layerMoisture_10 rfl ?_
      have ho : o_layerMoisture bs ru se pf hd ca evs ln (i : Int) q = (1, 0, (bs, ru, se, pf, hd, ca, evs, ln)) := by unfold o_layerMoisture; rw [if_pos (by omega)]
      exact j_iret C E dX7_layerMoisture_24 (by omega) (by omega) ⟨_, rfl, by rw [ho]; exact fun h9 => absurd (show (1 : Int) = 0 from h9) (by decide), ⟨_, by rw [ho]; exact hN11⟩, hN11K, hN11D⟩
    · refine j_callV (st' := []) (As := [vi ((i : Int)), vi (q)]) C dX7_layerMoisture_3 rfl m_X7_135 h01 rfl rfl rfl (c_nl0 (kL κ) hfl (kD κ) (kc κ) σ am bs ru se pf hd ca evs ln bl th hM i hi q ⟨by omega, by omega⟩) rfl (by omega) (by omega) (by omega) (fun _ _ hx => hx.elim) (fun v15 τ14 hp16 => ?_)
      obtain ⟨rfl, hN17, hN17k, hN17d⟩ := hp16
      show J κ τ14 [(0, .ref (am 0)), (1, vi ((i : Int))), (2, vi (q))] 6 [vi (0)] _ _
      have hN17K := kp0.tr hN17k
      have hN17D := hN17d.trans dm0
      obtain ⟨hI18, gc18, gm18, gr18, gp18, gb18, go18, gf18, gg18, gt18, gz18, gk18, gl18, _, _, _, h018, ⟨hgc18, hgm18, hgr18, hgp18, hgb18, hgo18, hgf18, hgg18, hgt18, hgz18, hgk18, hgl18⟩, ⟨rfl, rfl, rfl⟩, hBn18, hRu18, hPr18, hTr18, hKi18, hLi18⟩ := id hN17
      have hI := hI18
      have hnb618 := hBn18.1
      refine j_if_eq (tgt := 13) C dX7_layerMoisture_6 rfl rfl ⟨by omega, by omega⟩ (fun _ => ?_) (fun cc19 => absurd cc19 (by decide))
      refine j_aload_n 0 C dX7_layerMoisture_13 rfl rfl rfl ?_
      refine j_get C dX7_layerMoisture_14 rfl fg_X7_25 h018 rfl ?_
      refine j_aload_n 0 C dX7_layerMoisture_17 rfl rfl rfl ?_
      refine j_iload_n 1 C dX7_layerMoisture_18 rfl rfl rfl ?_
      refine j_iload_n 2 C dX7_layerMoisture_19 rfl rfl rfl ?_
      obtain ⟨⟨cap, mf, ly⟩, hg⟩ : ∃ z, gB bs (i : Int) = z := ⟨_, rfl⟩
      have hbk_18 := hBn18.2.2 i hi
      rw [hg] at hbk_18
      obtain ⟨⟨hcp_18, hmz_18⟩, ⟨hmn_18, hl9_18⟩, hrw_18⟩ := hbk_18
      dsimp only at hcp_18 hmz_18 hmn_18 hl9_18 hrw_18
      have hq4 := hq2
      rw [hg] at hq4
      have hq3 : 0 ≤ q ∧ q < (ly.length : Int) := by dsimp only at hq4; omega
      have hpl := pl_in (m := mf) (n := (ly.length : Int)) (i := q) hq3
      refine j_callV (st' := [.ref (am 6)]) (As := [vi ((i : Int)), vi (q)]) C dX7_layerMoisture_20 rfl m_X7_109 h018 rfl rfl rfl (c_at (kL κ) hfl (kD κ) (kc κ) τ14 am bs ru se pf hd ca evs ln bl 0 hN17 i hi q) rfl (by omega) (by omega) (by omega) (fun _ _ hx => hx.elim) (fun v21 τ20 hp22 => ?_)
      obtain ⟨rfl, hs9⟩ := hp22
      replace hs9 := hs9.symm
      subst hs9
      show J κ τ14 [(0, .ref (am 0)), (1, vi ((i : Int))), (2, vi (q))] 23 [vi ((90 * (i : Int) + pl (gB bs (i : Int)).2.1 (gB bs (i : Int)).2.2.length q)), .ref (am 6)] _ _
      rw [hg]
      have hsh : ∀ z9 : Int, pl mf ly.length q = z9 → J κ τ14 [(0, .ref (am 0)), (1, vi ((i : Int))), (2, vi (q))] 23 [vi (90 * (i : Int) + z9), .ref (am 6)] 0 0 := ?_
      · exact hsh _ rfl
      intro z9 hz9
      rw [hz9] at hpl
      refine j_iald C dX7_layerMoisture_23 rfl hgo18 ⟨by omega, by omega⟩ (by omega) ((rowF hrw_18 (c := cap) (m := mf) (i := q) hq3 (z := 90 * (i : Int) + z9) (by rw [hz9]; omega)).2.1) ?_
      have ho : o_layerMoisture bs ru se pf hd ca evs ln (i : Int) q = (0, (lyAt (fl (gB bs (i : Int))) q).2.1, (bs, ru, se, pf, hd, ca, evs, ln)) := by unfold o_layerMoisture; rw [if_neg (by omega)]
      exact j_iret C E dX7_layerMoisture_24 (by omega) (by omega) ⟨_, rfl, by rw [ho]; exact fun _ => by rw [hg], ⟨_, by rw [ho]; exact hN17⟩, hN17K, hN17D⟩
set_option maxHeartbeats 4000000 in
set_option maxRecDepth 20000 in
theorem m_layerForeign (l : Launch) (hfl : l.stackTraces = false) (D : va_G) (cy : Nat → Nat) (σ : Wd) (am : Nat → Nat) (bs : List Bn) (ru : Nat → Int × Int) (se : Int) (pf : Nat → Int) (hd : Hd) (ca : Int) (evs : List Evt) (ln : List Int) (bl : Int × Int × Int) (th : Int) (hM : RM cy σ am bs ru se pf hd ca evs ln bl th) (b : Int) (hb9 : (-2147483648 ≤ b ∧ b < 2147483648)) (q : Int) (hq9 : (-2147483648 ≤ q ∧ q < 2147483648)) : Ct l yX7_layerForeign cX7_layerForeign 3 (some .int) 3 0 0 D cy [.ref (am 0), vi (b), vi (q)] σ (fun v σ' => ∃ rz : Int, v = some (vi rz) ∧ ((o_layerForeign bs ru se pf hd ca evs ln b q).1 = 0 → rz = (o_layerForeign bs ru se pf hd ca evs ln b q).2.1) ∧ (∃ bl', RMs cy σ' am (o_layerForeign bs ru se pf hd ca evs ln b q).2.2 bl' (o_layerForeign bs ru se pf hd ca evs ln b q).1) ∧ Keep σ σ' (inM am) ∧ σ'.1 = σ.1) noX := by
  refine ct_start (by decide +kernel) hfl rfl (fun κ e1 e2 e3 C E NH => ?_)
  subst e1 e2 e3
  have C : Cx κ cX7_layerForeign 3 RX7 "layerForeign" 3 := C
  obtain ⟨-, -, -, -, hc, hs⟩ := id E
  show J κ σ [(0, .ref (am 0)), (1, vi (b)), (2, vi (q))] 0 [] 0 0
  obtain ⟨hI1, gc1, gm1, gr1, gp1, gb1, go1, gf1, gg1, gt1, gz1, gk1, gl1, _, _, _, h01, ⟨hgc1, hgm1, hgr1, hgp1, hgb1, hgo1, hgf1, hgg1, hgt1, hgz1, hgk1, hgl1⟩, ⟨rfl, rfl, rfl⟩, hBn1, hRu1, hPr1, hTr1, hKi1, hLi1⟩ := id hM
  have hI := hI1
  have hnb61 := hBn1.1
  have kp0 : Keep σ σ (inM am) := Keep.rf
  have dm0 : σ.1 = σ.1 := rfl
  refine j_aload_n 0 C dX7_layerForeign_0 rfl rfl rfl ?_
  refine j_iload_n 1 C dX7_layerForeign_1 rfl rfl rfl ?_
  refine j_iload_n 2 C dX7_layerForeign_2 rfl rfl rfl ?_
  rcases Classical.em (b < 0 ∨ (bs.length : Int) ≤ b) with hq | hq
  · refine j_callV (st' := []) (As := [vi (b), vi (q)]) C dX7_layerForeign_3 rfl m_X7_135 h01 rfl rfl rfl (c_nl1 (kL κ) hfl (kD κ) (kc κ) σ am bs ru se pf hd ca evs ln bl th hM b q ⟨by omega, by omega⟩ ⟨by omega, by omega⟩ hq) rfl (by omega) (by omega) (by omega) (fun _ _ hx => hx.elim) (fun v3 τ2 hp4 => ?_)
    obtain ⟨rfl, hN5, hN5k, hN5d⟩ := hp4
    show J κ τ2 [(0, .ref (am 0)), (1, vi (b)), (2, vi (q))] 6 [vi (1)] _ _
    have hN5K := kp0.tr hN5k
    have hN5D := hN5d.trans dm0
    obtain ⟨hI6, gc6, gm6, gr6, gp6, gb6, go6, gf6, gg6, gt6, gz6, gk6, gl6, _, _, _, h06, ⟨hgc6, hgm6, hgr6, hgp6, hgb6, hgo6, hgf6, hgg6, hgt6, hgz6, hgk6, hgl6⟩, ⟨rfl, rfl, rfl⟩, hBn6, hRu6, hPr6, hTr6, hKi6, hLi6⟩ := id hN5
    have hI := hI6
    have hnb66 := hBn6.1
    refine j_if_eq (tgt := 13) C dX7_layerForeign_6 rfl rfl ⟨by omega, by omega⟩ (fun cc7 => absurd cc7 (by decide)) (fun _ => ?_)
    refine j_iconst C dX7_layerForeign_9 rfl ?_
    refine j_goto (tgt := 24) C dX7_layerForeign_10 rfl ?_
    have ho : o_layerForeign bs ru se pf hd ca evs ln b q = (1, 0, (bs, ru, se, pf, hd, ca, evs, ln)) := by unfold o_layerForeign; rw [if_pos (by omega)]
    exact j_iret C E dX7_layerForeign_24 (by omega) (by omega) ⟨_, rfl, by rw [ho]; exact fun h9 => absurd (show (1 : Int) = 0 from h9) (by decide), ⟨_, by rw [ho]; exact hN5⟩, hN5K, hN5D⟩
  · obtain ⟨i, hi, rfl⟩ : ∃ i : Nat, i < bs.length ∧ b = (i : Int) := ⟨b.toNat, by omega, by omega⟩
    rcases Classical.em (q < 0 ∨ ((gB bs (i : Int)).2.2.length : Int) ≤ q) with hq2 | hq2
    · refine j_callV (st' := []) (As := [vi ((i : Int)), vi (q)]) C dX7_layerForeign_3 rfl m_X7_135 h01 rfl rfl rfl (c_nl2 (kL κ) hfl (kD κ) (kc κ) σ am bs ru se pf hd ca evs ln bl th hM i hi q ⟨by omega, by omega⟩ hq2) rfl (by omega) (by omega) (by omega) (fun _ _ hx => hx.elim) (fun v9 τ8 hp10 => ?_)
      obtain ⟨rfl, hN11, hN11k, hN11d⟩ := hp10
      show J κ τ8 [(0, .ref (am 0)), (1, vi ((i : Int))), (2, vi (q))] 6 [vi (1)] _ _
      have hN11K := kp0.tr hN11k
      have hN11D := hN11d.trans dm0
      obtain ⟨hI12, gc12, gm12, gr12, gp12, gb12, go12, gf12, gg12, gt12, gz12, gk12, gl12, _, _, _, h012, ⟨hgc12, hgm12, hgr12, hgp12, hgb12, hgo12, hgf12, hgg12, hgt12, hgz12, hgk12, hgl12⟩, ⟨rfl, rfl, rfl⟩, hBn12, hRu12, hPr12, hTr12, hKi12, hLi12⟩ := id hN11
      have hI := hI12
      have hnb612 := hBn12.1
      refine j_if_eq (tgt := 13) C dX7_layerForeign_6 rfl rfl ⟨by omega, by omega⟩ (fun cc13 => absurd cc13 (by decide)) (fun _ => ?_)
      refine j_iconst C dX7_layerForeign_9 rfl ?_
      refine j_goto (tgt := 24) C dX7_layerForeign_10 rfl ?_
      have ho : o_layerForeign bs ru se pf hd ca evs ln (i : Int) q = (1, 0, (bs, ru, se, pf, hd, ca, evs, ln)) := by unfold o_layerForeign; rw [if_pos (by omega)]
      exact j_iret C E dX7_layerForeign_24 (by omega) (by omega) ⟨_, rfl, by rw [ho]; exact fun h9 => absurd (show (1 : Int) = 0 from h9) (by decide), ⟨_, by rw [ho]; exact hN11⟩, hN11K, hN11D⟩
    · refine j_callV (st' := []) (As := [vi ((i : Int)), vi (q)]) C dX7_layerForeign_3 rfl m_X7_135 h01 rfl rfl rfl (c_nl0 (kL κ) hfl (kD κ) (kc κ) σ am bs ru se pf hd ca evs ln bl th hM i hi q ⟨by omega, by omega⟩) rfl (by omega) (by omega) (by omega) (fun _ _ hx => hx.elim) (fun v15 τ14 hp16 => ?_)
      obtain ⟨rfl, hN17, hN17k, hN17d⟩ := hp16
      show J κ τ14 [(0, .ref (am 0)), (1, vi ((i : Int))), (2, vi (q))] 6 [vi (0)] _ _
      have hN17K := kp0.tr hN17k
      have hN17D := hN17d.trans dm0
      obtain ⟨hI18, gc18, gm18, gr18, gp18, gb18, go18, gf18, gg18, gt18, gz18, gk18, gl18, _, _, _, h018, ⟨hgc18, hgm18, hgr18, hgp18, hgb18, hgo18, hgf18, hgg18, hgt18, hgz18, hgk18, hgl18⟩, ⟨rfl, rfl, rfl⟩, hBn18, hRu18, hPr18, hTr18, hKi18, hLi18⟩ := id hN17
      have hI := hI18
      have hnb618 := hBn18.1
      refine j_if_eq (tgt := 13) C dX7_layerForeign_6 rfl rfl ⟨by omega, by omega⟩ (fun _ => ?_) (fun cc19 => absurd cc19 (by decide))
      refine j_aload_n 0 C dX7_layerForeign_13 rfl rfl rfl ?_
      refine j_get C dX7_layerForeign_14 rfl fg_X7_28 h018 rfl ?_
      refine j_aload_n 0 C dX7_layerForeign_17 rfl rfl rfl ?_
      refine j_iload_n 1 C dX7_layerForeign_18 rfl rfl rfl ?_
      refine j_iload_n 2 C dX7_layerForeign_19 rfl rfl rfl ?_
      obtain ⟨⟨cap, mf, ly⟩, hg⟩ : ∃ z, gB bs (i : Int) = z := ⟨_, rfl⟩
      have hbk_18 := hBn18.2.2 i hi
      rw [hg] at hbk_18
      obtain ⟨⟨hcp_18, hmz_18⟩, ⟨hmn_18, hl9_18⟩, hrw_18⟩ := hbk_18
      dsimp only at hcp_18 hmz_18 hmn_18 hl9_18 hrw_18
      have hq4 := hq2
      rw [hg] at hq4
      have hq3 : 0 ≤ q ∧ q < (ly.length : Int) := by dsimp only at hq4; omega
      have hpl := pl_in (m := mf) (n := (ly.length : Int)) (i := q) hq3
      refine j_callV (st' := [.ref (am 7)]) (As := [vi ((i : Int)), vi (q)]) C dX7_layerForeign_20 rfl m_X7_109 h018 rfl rfl rfl (c_at (kL κ) hfl (kD κ) (kc κ) τ14 am bs ru se pf hd ca evs ln bl 0 hN17 i hi q) rfl (by omega) (by omega) (by omega) (fun _ _ hx => hx.elim) (fun v21 τ20 hp22 => ?_)
      obtain ⟨rfl, hs9⟩ := hp22
      replace hs9 := hs9.symm
      subst hs9
      show J κ τ14 [(0, .ref (am 0)), (1, vi ((i : Int))), (2, vi (q))] 23 [vi ((90 * (i : Int) + pl (gB bs (i : Int)).2.1 (gB bs (i : Int)).2.2.length q)), .ref (am 7)] _ _
      rw [hg]
      have hsh : ∀ z9 : Int, pl mf ly.length q = z9 → J κ τ14 [(0, .ref (am 0)), (1, vi ((i : Int))), (2, vi (q))] 23 [vi (90 * (i : Int) + z9), .ref (am 7)] 0 0 := ?_
      · exact hsh _ rfl
      intro z9 hz9
      rw [hz9] at hpl
      refine j_iald C dX7_layerForeign_23 rfl hgf18 ⟨by omega, by omega⟩ (by omega) ((rowF hrw_18 (c := cap) (m := mf) (i := q) hq3 (z := 90 * (i : Int) + z9) (by rw [hz9]; omega)).2.2.1) ?_
      have ho : o_layerForeign bs ru se pf hd ca evs ln (i : Int) q = (0, (lyAt (fl (gB bs (i : Int))) q).2.2.1, (bs, ru, se, pf, hd, ca, evs, ln)) := by unfold o_layerForeign; rw [if_neg (by omega)]
      exact j_iret C E dX7_layerForeign_24 (by omega) (by omega) ⟨_, rfl, by rw [ho]; exact fun _ => by rw [hg], ⟨_, by rw [ho]; exact hN17⟩, hN17K, hN17D⟩
set_option maxHeartbeats 4000000 in
set_option maxRecDepth 20000 in
theorem m_layerGrade (l : Launch) (hfl : l.stackTraces = false) (D : va_G) (cy : Nat → Nat) (σ : Wd) (am : Nat → Nat) (bs : List Bn) (ru : Nat → Int × Int) (se : Int) (pf : Nat → Int) (hd : Hd) (ca : Int) (evs : List Evt) (ln : List Int) (bl : Int × Int × Int) (th : Int) (hM : RM cy σ am bs ru se pf hd ca evs ln bl th) (b : Int) (hb9 : (-2147483648 ≤ b ∧ b < 2147483648)) (q : Int) (hq9 : (-2147483648 ≤ q ∧ q < 2147483648)) : Ct l yX7_layerGrade cX7_layerGrade 3 (some .int) 3 0 0 D cy [.ref (am 0), vi (b), vi (q)] σ (fun v σ' => ∃ rz : Int, v = some (vi rz) ∧ ((o_layerGrade bs ru se pf hd ca evs ln b q).1 = 0 → rz = (o_layerGrade bs ru se pf hd ca evs ln b q).2.1) ∧ (∃ bl', RMs cy σ' am (o_layerGrade bs ru se pf hd ca evs ln b q).2.2 bl' (o_layerGrade bs ru se pf hd ca evs ln b q).1) ∧ Keep σ σ' (inM am) ∧ σ'.1 = σ.1) noX := by
  refine ct_start (by decide +kernel) hfl rfl (fun κ e1 e2 e3 C E NH => ?_)
  subst e1 e2 e3
  have C : Cx κ cX7_layerGrade 3 RX7 "layerGrade" 3 := C
  obtain ⟨-, -, -, -, hc, hs⟩ := id E
  show J κ σ [(0, .ref (am 0)), (1, vi (b)), (2, vi (q))] 0 [] 0 0
  obtain ⟨hI1, gc1, gm1, gr1, gp1, gb1, go1, gf1, gg1, gt1, gz1, gk1, gl1, _, _, _, h01, ⟨hgc1, hgm1, hgr1, hgp1, hgb1, hgo1, hgf1, hgg1, hgt1, hgz1, hgk1, hgl1⟩, ⟨rfl, rfl, rfl⟩, hBn1, hRu1, hPr1, hTr1, hKi1, hLi1⟩ := id hM
  have hI := hI1
  have hnb61 := hBn1.1
  have kp0 : Keep σ σ (inM am) := Keep.rf
  have dm0 : σ.1 = σ.1 := rfl
  refine j_aload_n 0 C dX7_layerGrade_0 rfl rfl rfl ?_
  refine j_iload_n 1 C dX7_layerGrade_1 rfl rfl rfl ?_
  refine j_iload_n 2 C dX7_layerGrade_2 rfl rfl rfl ?_
  rcases Classical.em (b < 0 ∨ (bs.length : Int) ≤ b) with hq | hq
  · refine j_callV (st' := []) (As := [vi (b), vi (q)]) C dX7_layerGrade_3 rfl m_X7_135 h01 rfl rfl rfl (c_nl1 (kL κ) hfl (kD κ) (kc κ) σ am bs ru se pf hd ca evs ln bl th hM b q ⟨by omega, by omega⟩ ⟨by omega, by omega⟩ hq) rfl (by omega) (by omega) (by omega) (fun _ _ hx => hx.elim) (fun v3 τ2 hp4 => ?_)
    obtain ⟨rfl, hN5, hN5k, hN5d⟩ := hp4
    show J κ τ2 [(0, .ref (am 0)), (1, vi (b)), (2, vi (q))] 6 [vi (1)] _ _
    have hN5K := kp0.tr hN5k
    have hN5D := hN5d.trans dm0
    obtain ⟨hI6, gc6, gm6, gr6, gp6, gb6, go6, gf6, gg6, gt6, gz6, gk6, gl6, _, _, _, h06, ⟨hgc6, hgm6, hgr6, hgp6, hgb6, hgo6, hgf6, hgg6, hgt6, hgz6, hgk6, hgl6⟩, ⟨rfl, rfl, rfl⟩, hBn6, hRu6, hPr6, hTr6, hKi6, hLi6⟩ := id hN5
    have hI := hI6
    have hnb66 := hBn6.1
    refine j_if_eq (tgt := 13) C dX7_layerGrade_6 rfl rfl ⟨by omega, by omega⟩ (fun cc7 => absurd cc7 (by decide)) (fun _ => ?_)
    refine j_iconst C dX7_layerGrade_9 rfl ?_
    refine j_goto (tgt := 24) C dX7_layerGrade_10 rfl ?_
    have ho : o_layerGrade bs ru se pf hd ca evs ln b q = (1, 0, (bs, ru, se, pf, hd, ca, evs, ln)) := by unfold o_layerGrade; rw [if_pos (by omega)]
    exact j_iret C E dX7_layerGrade_24 (by omega) (by omega) ⟨_, rfl, by rw [ho]; exact fun h9 => absurd (show (1 : Int) = 0 from h9) (by decide), ⟨_, by rw [ho]; exact hN5⟩, hN5K, hN5D⟩
  · obtain ⟨i, hi, rfl⟩ : ∃ i : Nat, i < bs.length ∧ b = (i : Int) := ⟨b.toNat, by omega, by omega⟩
    rcases Classical.em (q < 0 ∨ ((gB bs (i : Int)).2.2.length : Int) ≤ q) with hq2 | hq2
    · refine j_callV (st' := []) (As := [vi ((i : Int)), vi (q)]) C dX7_layerGrade_3 rfl m_X7_135 h01 rfl rfl rfl (c_nl2 (kL κ) hfl (kD κ) (kc κ) σ am bs ru se pf hd ca evs ln bl th hM i hi q ⟨by omega, by omega⟩ hq2) rfl (by omega) (by omega) (by omega) (fun _ _ hx => hx.elim) (fun v9 τ8 hp10 => ?_)
      obtain ⟨rfl, hN11, hN11k, hN11d⟩ := hp10
      show J κ τ8 [(0, .ref (am 0)), (1, vi ((i : Int))), (2, vi (q))] 6 [vi (1)] _ _
      have hN11K := kp0.tr hN11k
      have hN11D := hN11d.trans dm0
      obtain ⟨hI12, gc12, gm12, gr12, gp12, gb12, go12, gf12, gg12, gt12, gz12, gk12, gl12, _, _, _, h012, ⟨hgc12, hgm12, hgr12, hgp12, hgb12, hgo12, hgf12, hgg12, hgt12, hgz12, hgk12, hgl12⟩, ⟨rfl, rfl, rfl⟩, hBn12, hRu12, hPr12, hTr12, hKi12, hLi12⟩ := id hN11
      have hI := hI12
      have hnb612 := hBn12.1
      refine j_if_eq (tgt := 13) C dX7_layerGrade_6 rfl rfl ⟨by omega, by omega⟩ (fun cc13 => absurd cc13 (by decide)) (fun _ => ?_)
      refine j_iconst C dX7_layerGrade_9 rfl ?_
      refine j_goto (tgt := 24) C dX7_layerGrade_10 rfl ?_
      have ho : o_layerGrade bs ru se pf hd ca evs ln (i : Int) q = (1, 0, (bs, ru, se, pf, hd, ca, evs, ln)) := by unfold o_layerGrade; rw [if_pos (by omega)]
      exact j_iret C E dX7_layerGrade_24 (by omega) (by omega) ⟨_, rfl, by rw [ho]; exact fun h9 => absurd (show (1 : Int) = 0 from h9) (by decide), ⟨_, by rw [ho]; exact hN11⟩, hN11K, hN11D⟩
    · refine j_callV (st' := []) (As := [vi ((i : Int)), vi (q)]) C dX7_layerGrade_3 rfl m_X7_135 h01 rfl rfl rfl (c_nl0 (kL κ) hfl (kD κ) (kc κ) σ am bs ru se pf hd ca evs ln bl th hM i hi q ⟨by omega, by omega⟩) rfl (by omega) (by omega) (by omega) (fun _ _ hx => hx.elim) (fun v15 τ14 hp16 => ?_)
      obtain ⟨rfl, hN17, hN17k, hN17d⟩ := hp16
      show J κ τ14 [(0, .ref (am 0)), (1, vi ((i : Int))), (2, vi (q))] 6 [vi (0)] _ _
      have hN17K := kp0.tr hN17k
      have hN17D := hN17d.trans dm0
      obtain ⟨hI18, gc18, gm18, gr18, gp18, gb18, go18, gf18, gg18, gt18, gz18, gk18, gl18, _, _, _, h018, ⟨hgc18, hgm18, hgr18, hgp18, hgb18, hgo18, hgf18, hgg18, hgt18, hgz18, hgk18, hgl18⟩, ⟨rfl, rfl, rfl⟩, hBn18, hRu18, hPr18, hTr18, hKi18, hLi18⟩ := id hN17
      have hI := hI18
      have hnb618 := hBn18.1
      refine j_if_eq (tgt := 13) C dX7_layerGrade_6 rfl rfl ⟨by omega, by omega⟩ (fun _ => ?_) (fun cc19 => absurd cc19 (by decide))
      refine j_aload_n 0 C dX7_layerGrade_13 rfl rfl rfl ?_
      refine j_get C dX7_layerGrade_14 rfl fg_X7_31 h018 rfl ?_
      refine j_aload_n 0 C dX7_layerGrade_17 rfl rfl rfl ?_
      refine j_iload_n 1 C dX7_layerGrade_18 rfl rfl rfl ?_
      refine j_iload_n 2 C dX7_layerGrade_19 rfl rfl rfl ?_
      obtain ⟨⟨cap, mf, ly⟩, hg⟩ : ∃ z, gB bs (i : Int) = z := ⟨_, rfl⟩
      have hbk_18 := hBn18.2.2 i hi
      rw [hg] at hbk_18
      obtain ⟨⟨hcp_18, hmz_18⟩, ⟨hmn_18, hl9_18⟩, hrw_18⟩ := hbk_18
      dsimp only at hcp_18 hmz_18 hmn_18 hl9_18 hrw_18
      have hq4 := hq2
      rw [hg] at hq4
      have hq3 : 0 ≤ q ∧ q < (ly.length : Int) := by dsimp only at hq4; omega
      have hpl := pl_in (m := mf) (n := (ly.length : Int)) (i := q) hq3
      refine j_callV (st' := [.ref (am 8)]) (As := [vi ((i : Int)), vi (q)]) C dX7_layerGrade_20 rfl m_X7_109 h018 rfl rfl rfl (c_at (kL κ) hfl (kD κ) (kc κ) τ14 am bs ru se pf hd ca evs ln bl 0 hN17 i hi q) rfl (by omega) (by omega) (by omega) (fun _ _ hx => hx.elim) (fun v21 τ20 hp22 => ?_)
      obtain ⟨rfl, hs9⟩ := hp22
      replace hs9 := hs9.symm
      subst hs9
      show J κ τ14 [(0, .ref (am 0)), (1, vi ((i : Int))), (2, vi (q))] 23 [vi ((90 * (i : Int) + pl (gB bs (i : Int)).2.1 (gB bs (i : Int)).2.2.length q)), .ref (am 8)] _ _
      rw [hg]
      have hsh : ∀ z9 : Int, pl mf ly.length q = z9 → J κ τ14 [(0, .ref (am 0)), (1, vi ((i : Int))), (2, vi (q))] 23 [vi (90 * (i : Int) + z9), .ref (am 8)] 0 0 := ?_
      · exact hsh _ rfl
      intro z9 hz9
      rw [hz9] at hpl
      refine j_iald C dX7_layerGrade_23 rfl hgg18 ⟨by omega, by omega⟩ (by omega) ((rowF hrw_18 (c := cap) (m := mf) (i := q) hq3 (z := 90 * (i : Int) + z9) (by rw [hz9]; omega)).2.2.2) ?_
      have ho : o_layerGrade bs ru se pf hd ca evs ln (i : Int) q = (0, (lyAt (fl (gB bs (i : Int))) q).2.2.2, (bs, ru, se, pf, hd, ca, evs, ln)) := by unfold o_layerGrade; rw [if_neg (by omega)]
      exact j_iret C E dX7_layerGrade_24 (by omega) (by omega) ⟨_, rfl, by rw [ho]; exact fun _ => by rw [hg], ⟨_, by rw [ho]; exact hN17⟩, hN17K, hN17D⟩
set_option maxHeartbeats 4000000 in
set_option maxRecDepth 20000 in
theorem m_layerAnew (l : Launch) (hfl : l.stackTraces = false) (D : va_G) (cy : Nat → Nat) (σ : Wd) (am : Nat → Nat) (bs : List Bn) (ru : Nat → Int × Int) (se : Int) (pf : Nat → Int) (hd : Hd) (ca : Int) (evs : List Evt) (ln : List Int) (bl : Int × Int × Int) (th : Int) (hM : RM cy σ am bs ru se pf hd ca evs ln bl th) (b : Int) (hb9 : (-2147483648 ≤ b ∧ b < 2147483648)) (q : Int) (hq9 : (-2147483648 ≤ q ∧ q < 2147483648)) : Ct l yX7_layerAnew cX7_layerAnew 3 (some .int) 4 0 0 D cy [.ref (am 0), vi (b), vi (q)] σ (fun v σ' => ∃ rz : Int, v = some (vi rz) ∧ ((o_layerBushels bs ru se pf hd ca evs ln b q).1 = 0 → rz = (o_layerBushels bs ru se pf hd ca evs ln b q).2.1) ∧ (∃ bl', RMs cy σ' am (o_layerBushels bs ru se pf hd ca evs ln b q).2.2 bl' (o_layerBushels bs ru se pf hd ca evs ln b q).1) ∧ Keep σ σ' (inM am) ∧ σ'.1 = σ.1) noX := by
  refine ct_start (by decide +kernel) hfl rfl (fun κ e1 e2 e3 C E NH => ?_)
  subst e1 e2 e3
  have C : Cx κ cX7_layerAnew 3 RX7 "layerAnew" 4 := C
  obtain ⟨-, -, -, -, hc, hs⟩ := id E
  show J κ σ [(0, .ref (am 0)), (1, vi (b)), (2, vi (q))] 0 [] 0 0
  obtain ⟨hI1, gc1, gm1, gr1, gp1, gb1, go1, gf1, gg1, gt1, gz1, gk1, gl1, _, _, _, h01, ⟨hgc1, hgm1, hgr1, hgp1, hgb1, hgo1, hgf1, hgg1, hgt1, hgz1, hgk1, hgl1⟩, ⟨rfl, rfl, rfl⟩, hBn1, hRu1, hPr1, hTr1, hKi1, hLi1⟩ := id hM
  have hI := hI1
  have hnb61 := hBn1.1
  have kp0 : Keep σ σ (inM am) := Keep.rf
  have dm0 : σ.1 = σ.1 := rfl
  refine j_aload_n 0 C dX7_layerAnew_0 rfl rfl rfl ?_
  refine j_iload_n 1 C dX7_layerAnew_1 rfl rfl rfl ?_
  refine j_iload_n 2 C dX7_layerAnew_2 rfl rfl rfl ?_
  refine j_callV (st' := []) (As := [vi (b), vi (q)]) C dX7_layerAnew_3 rfl m_X7_138 h01 rfl rfl rfl (m_layerBushels (kL κ) hfl (kD κ) (kc κ) σ am bs ru se pf hd ca evs ln bl th hM b hb9 q hq9) rfl (by omega) (by omega) (by omega) (fun _ _ hx => hx.elim) (fun v3 τ2 hp4 => ?_)
  obtain ⟨z9, rfl, hv9, hm9, hk9, hd9⟩ := hp4
  show J κ τ2 [(0, .ref (am 0)), (1, vi (b)), (2, vi (q))] 6 [vi (z9)] _ _
  exact j_iret C E dX7_layerAnew_6 (by omega) (by omega) ⟨_, rfl, hv9, hm9, hk9, hd9⟩
set_option maxHeartbeats 4000000 in
set_option maxRecDepth 20000 in
theorem m_gradeFor (l : Launch) (hfl : l.stackTraces = false) (D : va_G) (cy : Nat → Nat) (σ : Wd) (am : Nat → Nat) (bs : List Bn) (ru : Nat → Int × Int) (se : Int) (pf : Nat → Int) (hd : Hd) (ca : Int) (evs : List Evt) (ln : List Int) (bl : Int × Int × Int) (th : Int) (hM : RM cy σ am bs ru se pf hd ca evs ln bl th) (y : Int) (hy9 : (-2147483648 ≤ y ∧ y < 2147483648)) (z : Int) (hz9 : (-2147483648 ≤ z ∧ z < 2147483648)) : Ct l yX7_gradeFor cX7_gradeFor 3 (some .int) 2 0 0 D cy [.ref (am 0), vi (y), vi (z)] σ (fun v σ' => ∃ rz : Int, v = some (vi rz) ∧ ((o_gradeFor bs ru se pf hd ca evs ln y z).1 = 0 → rz = (o_gradeFor bs ru se pf hd ca evs ln y z).2.1) ∧ (∃ bl', RMs cy σ' am (o_gradeFor bs ru se pf hd ca evs ln y z).2.2 bl' (o_gradeFor bs ru se pf hd ca evs ln y z).1) ∧ Keep σ σ' (inM am) ∧ σ'.1 = σ.1) noX := by
  refine ct_start (by decide +kernel) hfl rfl (fun κ e1 e2 e3 C E NH => ?_)
  subst e1 e2 e3
  have C : Cx κ cX7_gradeFor 3 RX7 "gradeFor" 2 := C
  obtain ⟨-, -, -, -, hc, hs⟩ := id E
  show J κ σ [(0, .ref (am 0)), (1, vi (y)), (2, vi (z))] 0 [] 0 0
  obtain ⟨hI1, gc1, gm1, gr1, gp1, gb1, go1, gf1, gg1, gt1, gz1, gk1, gl1, _, _, _, h01, ⟨hgc1, hgm1, hgr1, hgp1, hgb1, hgo1, hgf1, hgg1, hgt1, hgz1, hgk1, hgl1⟩, ⟨rfl, rfl, rfl⟩, hBn1, hRu1, hPr1, hTr1, hKi1, hLi1⟩ := id hM
  have hI := hI1
  have hnb61 := hBn1.1
  have kp0 : Keep σ σ (inM am) := Keep.rf
  have dm0 : σ.1 = σ.1 := rfl
  refine j_aload_n 0 C dX7_gradeFor_0 rfl rfl rfl ?_
  refine j_iload_n 1 C dX7_gradeFor_1 rfl rfl rfl ?_
  refine j_callS (st' := [.ref (am 0)]) (As := [vi (y)]) C dX7_gradeFor_2 rfl m_X7_70 rfl rfl (c_isMoist (kL κ) hfl (kD κ) (kc κ) σ y ⟨by omega, by omega⟩) rfl (by omega) (by omega) (by omega) (fun _ _ hx => hx.elim) (fun v3 τ2 hp4 => ?_)
  obtain ⟨rfl, hs9⟩ := hp4
  replace hs9 := hs9.symm
  subst hs9
  show J κ σ [(0, .ref (am 0)), (1, vi (y)), (2, vi (z))] 5 [vi ((inI y 80 300)), .ref (am 0)] _ _
  refine j_if_eq (tgt := 18) C dX7_gradeFor_5 rfl rfl (inI_r _ _ _) (fun cc5 => ?_) (fun cc5 => ?_)
  · replace cc5 := inI_F cc5
    refine j_iconst C dX7_gradeFor_18 rfl ?_
    refine j_goto (tgt := 23) C dX7_gradeFor_19 rfl ?_
    refine j_iconst C dX7_gradeFor_23 rfl ?_
    refine j_callV (st' := []) (As := [vi (1), vi (1)]) C dX7_gradeFor_24 rfl m_X7_62 h01 rfl rfl rfl (c_thr1 (kL κ) hfl (kD κ) (kc κ) σ am bs ru se pf hd ca evs ln bl th hM 1) rfl (by omega) (by omega) (by omega) (fun _ _ hx => hx.elim) (fun v7 τ6 hp8 => ?_)
    obtain ⟨rfl, hN9, hN9k, hN9d⟩ := hp8
    show J κ τ6 [(0, .ref (am 0)), (1, vi (y)), (2, vi (z))] 27 [vi (1)] _ _
    have hN9K := kp0.tr hN9k
    have hN9D := hN9d.trans dm0
    obtain ⟨hI10, gc10, gm10, gr10, gp10, gb10, go10, gf10, gg10, gt10, gz10, gk10, gl10, _, _, _, h010, ⟨hgc10, hgm10, hgr10, hgp10, hgb10, hgo10, hgf10, hgg10, hgt10, hgz10, hgk10, hgl10⟩, ⟨rfl, rfl, rfl⟩, hBn10, hRu10, hPr10, hTr10, hKi10, hLi10⟩ := id hN9
    have hI := hI10
    have hnb610 := hBn10.1
    refine j_if_eq (tgt := 34) C dX7_gradeFor_27 rfl rfl ⟨by omega, by omega⟩ (fun cc11 => absurd cc11 (by decide)) (fun _ => ?_)
    refine j_iconst C dX7_gradeFor_30 rfl ?_
    refine j_goto (tgt := 40) C dX7_gradeFor_31 rfl ?_
    have ho : o_gradeFor bs ru se pf hd ca evs ln y z = (1, 0, (bs, ru, se, pf, hd, ca, evs, ln)) := by unfold o_gradeFor; rw [if_pos (by omega)]
    exact j_iret C E dX7_gradeFor_40 (by omega) (by omega) ⟨_, rfl, by rw [ho]; exact fun h9 => absurd (show (1 : Int) = 0 from h9) (by decide), ⟨_, by rw [ho]; exact hN9⟩, hN9K, hN9D⟩
  · replace cc5 := inI_T cc5
    refine j_iload_n 2 C dX7_gradeFor_8 rfl rfl rfl ?_
    refine j_iconst C dX7_gradeFor_9 rfl ?_
    refine j_bipush C dX7_gradeFor_10 rfl (by decide) ?_
    refine j_callS (st' := [.ref (am 0)]) (As := [vi (z), vi (0), vi (100)]) C dX7_gradeFor_12 rfl m_X7_58 rfl rfl (c_isIn (kL κ) hfl (kD κ) (kc κ) σ z 0 100 ⟨by omega, by omega⟩ ⟨by omega, by omega⟩ ⟨by omega, by omega⟩) rfl (by omega) (by omega) (by omega) (fun _ _ hx => hx.elim) (fun v13 τ12 hp14 => ?_)
    obtain ⟨rfl, hs9⟩ := hp14
    replace hs9 := hs9.symm
    subst hs9
    show J κ σ [(0, .ref (am 0)), (1, vi (y)), (2, vi (z))] 15 [vi ((inI z 0 100)), .ref (am 0)] _ _
    refine j_if_ne (tgt := 22) C dX7_gradeFor_15 rfl rfl (inI_r _ _ _) (fun cc15 => ?_) (fun cc15 => ?_)
    · replace cc15 := inI_T cc15
      refine j_iconst C dX7_gradeFor_22 rfl ?_
      refine j_iconst C dX7_gradeFor_23 rfl ?_
      refine j_callV (st' := []) (As := [vi (0), vi (1)]) C dX7_gradeFor_24 rfl m_X7_62 h01 rfl rfl rfl (c_thr0 (kL κ) hfl (kD κ) (kc κ) σ am bs ru se pf hd ca evs ln bl th hM 1) rfl (by omega) (by omega) (by omega) (fun _ _ hx => hx.elim) (fun v17 τ16 hp18 => ?_)
      obtain ⟨rfl, hN19, hN19k, hN19d⟩ := hp18
      show J κ τ16 [(0, .ref (am 0)), (1, vi (y)), (2, vi (z))] 27 [vi (0)] _ _
      have hN19K := kp0.tr hN19k
      have hN19D := hN19d.trans dm0
      obtain ⟨hI20, gc20, gm20, gr20, gp20, gb20, go20, gf20, gg20, gt20, gz20, gk20, gl20, _, _, _, h020, ⟨hgc20, hgm20, hgr20, hgp20, hgb20, hgo20, hgf20, hgg20, hgt20, hgz20, hgk20, hgl20⟩, ⟨rfl, rfl, rfl⟩, hBn20, hRu20, hPr20, hTr20, hKi20, hLi20⟩ := id hN19
      have hI := hI20
      have hnb620 := hBn20.1
      refine j_if_eq (tgt := 34) C dX7_gradeFor_27 rfl rfl ⟨by omega, by omega⟩ (fun _ => ?_) (fun cc21 => absurd cc21 (by decide))
      refine j_aload_n 0 C dX7_gradeFor_34 rfl rfl rfl ?_
      refine j_iload_n 1 C dX7_gradeFor_35 rfl rfl rfl ?_
      refine j_iload_n 2 C dX7_gradeFor_36 rfl rfl rfl ?_
      refine j_callV (st' := []) (As := [vi (y), vi (z)]) C dX7_gradeFor_37 rfl m_X7_76 h020 rfl rfl rfl (c_graded (kL κ) hfl (kD κ) (kc κ) τ16 am bs ru se pf hd ca evs ln bl 0 hN19 y z ⟨by omega, by omega⟩ ⟨by omega, by omega⟩) rfl (by omega) (by omega) (by omega) (fun _ _ hx => hx.elim) (fun v23 τ22 hp24 => ?_)
      obtain ⟨rfl, hs9⟩ := hp24
      replace hs9 := hs9.symm
      subst hs9
      show J κ τ16 [(0, .ref (am 0)), (1, vi (y)), (2, vi (z))] 40 [vi ((gradeF ru se y z))] _ _
      have ho : o_gradeFor bs ru se pf hd ca evs ln y z = (0, gradeF ru se y z, (bs, ru, se, pf, hd, ca, evs, ln)) := by unfold o_gradeFor; rw [if_neg (by omega)]
      exact j_iret C E dX7_gradeFor_40 (by omega) (by omega) ⟨_, rfl, by rw [ho]; exact fun _ => rfl, ⟨_, by rw [ho]; exact hN19⟩, hN19K, hN19D⟩
    · replace cc15 := inI_F cc15
      refine j_iconst C dX7_gradeFor_18 rfl ?_
      refine j_goto (tgt := 23) C dX7_gradeFor_19 rfl ?_
      refine j_iconst C dX7_gradeFor_23 rfl ?_
      refine j_callV (st' := []) (As := [vi (1), vi (1)]) C dX7_gradeFor_24 rfl m_X7_62 h01 rfl rfl rfl (c_thr1 (kL κ) hfl (kD κ) (kc κ) σ am bs ru se pf hd ca evs ln bl th hM 1) rfl (by omega) (by omega) (by omega) (fun _ _ hx => hx.elim) (fun v26 τ25 hp27 => ?_)
      obtain ⟨rfl, hN28, hN28k, hN28d⟩ := hp27
      show J κ τ25 [(0, .ref (am 0)), (1, vi (y)), (2, vi (z))] 27 [vi (1)] _ _
      have hN28K := kp0.tr hN28k
      have hN28D := hN28d.trans dm0
      obtain ⟨hI29, gc29, gm29, gr29, gp29, gb29, go29, gf29, gg29, gt29, gz29, gk29, gl29, _, _, _, h029, ⟨hgc29, hgm29, hgr29, hgp29, hgb29, hgo29, hgf29, hgg29, hgt29, hgz29, hgk29, hgl29⟩, ⟨rfl, rfl, rfl⟩, hBn29, hRu29, hPr29, hTr29, hKi29, hLi29⟩ := id hN28
      have hI := hI29
      have hnb629 := hBn29.1
      refine j_if_eq (tgt := 34) C dX7_gradeFor_27 rfl rfl ⟨by omega, by omega⟩ (fun cc30 => absurd cc30 (by decide)) (fun _ => ?_)
      refine j_iconst C dX7_gradeFor_30 rfl ?_
      refine j_goto (tgt := 40) C dX7_gradeFor_31 rfl ?_
      have ho : o_gradeFor bs ru se pf hd ca evs ln y z = (1, 0, (bs, ru, se, pf, hd, ca, evs, ln)) := by unfold o_gradeFor; rw [if_pos (by omega)]
      exact j_iret C E dX7_gradeFor_40 (by omega) (by omega) ⟨_, rfl, by rw [ho]; exact fun h9 => absurd (show (1 : Int) = 0 from h9) (by decide), ⟨_, by rw [ho]; exact hN28⟩, hN28K, hN28D⟩
set_option maxHeartbeats 4000000 in
set_option maxRecDepth 20000 in
theorem m_setSeason (l : Launch) (hfl : l.stackTraces = false) (D : va_G) (cy : Nat → Nat) (σ : Wd) (am : Nat → Nat) (bs : List Bn) (ru : Nat → Int × Int) (se : Int) (pf : Nat → Int) (hd : Hd) (ca : Int) (evs : List Evt) (ln : List Int) (bl : Int × Int × Int) (th : Int) (hM : RM cy σ am bs ru se pf hd ca evs ln bl th) (z : Int) (hz9 : (-2147483648 ≤ z ∧ z < 2147483648)) : Ct l yX7_setSeason cX7_setSeason 3 (some .int) 2 0 0 D cy [.ref (am 0), vi (z)] σ (fun v σ' => ∃ rz : Int, v = some (vi rz) ∧ ((o_setSeason bs ru se pf hd ca evs ln z).1 = 0 → rz = (o_setSeason bs ru se pf hd ca evs ln z).2.1) ∧ (∃ bl', RMs cy σ' am (o_setSeason bs ru se pf hd ca evs ln z).2.2 bl' (o_setSeason bs ru se pf hd ca evs ln z).1) ∧ Keep σ σ' (inM am) ∧ σ'.1 = σ.1) noX := by
  refine ct_start (by decide +kernel) hfl rfl (fun κ e1 e2 e3 C E NH => ?_)
  subst e1 e2 e3
  have C : Cx κ cX7_setSeason 3 RX7 "setSeason" 2 := C
  obtain ⟨-, -, -, -, hc, hs⟩ := id E
  show J κ σ [(0, .ref (am 0)), (1, vi (z))] 0 [] 0 0
  obtain ⟨hI1, gc1, gm1, gr1, gp1, gb1, go1, gf1, gg1, gt1, gz1, gk1, gl1, _, _, _, h01, ⟨hgc1, hgm1, hgr1, hgp1, hgb1, hgo1, hgf1, hgg1, hgt1, hgz1, hgk1, hgl1⟩, ⟨rfl, rfl, rfl⟩, hBn1, hRu1, hPr1, hTr1, hKi1, hLi1⟩ := id hM
  have hI := hI1
  have hnb61 := hBn1.1
  have kp0 : Keep σ σ (inM am) := Keep.rf
  have dm0 : σ.1 = σ.1 := rfl
  refine j_aload_n 0 C dX7_setSeason_0 rfl rfl rfl ?_
  refine j_iload_n 1 C dX7_setSeason_1 rfl rfl rfl ?_
  refine j_iconst C dX7_setSeason_2 rfl ?_
  refine j_iconst C dX7_setSeason_3 rfl ?_
  refine j_callS (st' := [.ref (am 0)]) (As := [vi (z), vi (0), vi (3)]) C dX7_setSeason_4 rfl m_X7_58 rfl rfl (c_isIn (kL κ) hfl (kD κ) (kc κ) σ z 0 3 ⟨by omega, by omega⟩ ⟨by omega, by omega⟩ ⟨by omega, by omega⟩) rfl (by omega) (by omega) (by omega) (fun _ _ hx => hx.elim) (fun v3 τ2 hp4 => ?_)
  obtain ⟨rfl, hs9⟩ := hp4
  replace hs9 := hs9.symm
  subst hs9
  show J κ σ [(0, .ref (am 0)), (1, vi (z))] 7 [vi ((inI z 0 3)), .ref (am 0)] _ _
  refine j_if_ne (tgt := 14) C dX7_setSeason_7 rfl rfl (inI_r _ _ _) (fun cc5 => ?_) (fun cc5 => ?_)
  · replace cc5 := inI_T cc5
    refine j_iconst C dX7_setSeason_14 rfl ?_
    refine j_iconst C dX7_setSeason_15 rfl ?_
    refine j_callV (st' := []) (As := [vi (0), vi (1)]) C dX7_setSeason_16 rfl m_X7_62 h01 rfl rfl rfl (c_thr0 (kL κ) hfl (kD κ) (kc κ) σ am bs ru se pf hd ca evs ln bl th hM 1) rfl (by omega) (by omega) (by omega) (fun _ _ hx => hx.elim) (fun v7 τ6 hp8 => ?_)
    obtain ⟨rfl, hN9, hN9k, hN9d⟩ := hp8
    show J κ τ6 [(0, .ref (am 0)), (1, vi (z))] 19 [vi (0)] _ _
    have hN9K := kp0.tr hN9k
    have hN9D := hN9d.trans dm0
    obtain ⟨hI10, gc10, gm10, gr10, gp10, gb10, go10, gf10, gg10, gt10, gz10, gk10, gl10, _, _, _, h010, ⟨hgc10, hgm10, hgr10, hgp10, hgb10, hgo10, hgf10, hgg10, hgt10, hgz10, hgk10, hgl10⟩, ⟨rfl, rfl, rfl⟩, hBn10, hRu10, hPr10, hTr10, hKi10, hLi10⟩ := id hN9
    have hI := hI10
    have hnb610 := hBn10.1
    refine j_if_eq (tgt := 24) C dX7_setSeason_19 rfl rfl ⟨by omega, by omega⟩ (fun _ => ?_) (fun cc11 => absurd cc11 (by decide))
    refine j_aload_n 0 C dX7_setSeason_24 rfl rfl rfl ?_
    refine j_get C dX7_setSeason_25 rfl fg_X7_73 h010 rfl ?_
    refine j_istore_n (lv' := [(0, .ref (am 0)), (1, vi (z)), (2, vi (se))]) [1, 2, 0] C dX7_setSeason_28 rfl rfl rfl rfl ?_
    refine j_aload_n 0 C dX7_setSeason_29 rfl rfl rfl ?_
    refine j_iload_n 1 C dX7_setSeason_30 rfl rfl rfl ?_
    refine j_put (fs' := [.ref (am 1), .ref (am 2), .ref (am 3), .ref (am 4), .ref (am 5), .ref (am 6), .ref (am 7), .ref (am 8), .ref (am 9), .ref (am 10), .ref (am 11), .ref (am 12), vi ((bs.length : Int)), vi (z), vi ((evs.length : Int)), vi (hd.2.1), vi (hd.2.2.2.1), vi (hd.2.2.1), vi ((ln.length : Int)), vi (bl.1), vi (bl.2.1), vi (bl.2.2), vi (0), vl (hd.2.2.2.2), vl (ca)]) C dX7_setSeason_31 rfl fa_X7_73 h010 rfl rfl rfl rfl (fun τ12 ee13 => ?_)
    have u14 : has τ12 (am 0) (.inr (7, [.ref (am 1), .ref (am 2), .ref (am 3), .ref (am 4), .ref (am 5), .ref (am 6), .ref (am 7), .ref (am 8), .ref (am 9), .ref (am 10), .ref (am 11), .ref (am 12), vi ((bs.length : Int)), vi (z), vi ((evs.length : Int)), vi (hd.2.1), vi (hd.2.2.2.1), vi (hd.2.2.1), vi ((ln.length : Int)), vi (bl.1), vi (bl.2.1), vi (bl.2.2), vi (0), vl (hd.2.2.2.2), vl (ca)])) := h010.self' ee13
    have u15 := hgc10.ne' ee13 (hI 1 0 (by decide) (by decide) (by decide))
    have u16 := hgm10.ne' ee13 (hI 2 0 (by decide) (by decide) (by decide))
    have u17 := hgr10.ne' ee13 (hI 3 0 (by decide) (by decide) (by decide))
    have u18 := hgp10.ne' ee13 (hI 4 0 (by decide) (by decide) (by decide))
    have u19 := hgb10.ne' ee13 (hI 5 0 (by decide) (by decide) (by decide))
    have u20 := hgo10.ne' ee13 (hI 6 0 (by decide) (by decide) (by decide))
    have u21 := hgf10.ne' ee13 (hI 7 0 (by decide) (by decide) (by decide))
    have u22 := hgg10.ne' ee13 (hI 8 0 (by decide) (by decide) (by decide))
    have u23 := hgt10.ne' ee13 (hI 9 0 (by decide) (by decide) (by decide))
    have u24 := hgz10.ne' ee13 (hI 10 0 (by decide) (by decide) (by decide))
    have u25 := hgk10.ne' ee13 (hI 11 0 (by decide) (by decide) (by decide))
    have u26 := hgl10.ne' ee13 (hI 12 0 (by decide) (by decide) (by decide))
    have kp27 := hN9K.put ee13 ⟨0, by decide, rfl⟩
    have dm28 := (dom_put ee13).trans hN9D
    refine j_iload_n 2 C dX7_setSeason_34 rfl rfl rfl ?_
    have hRz : RuM ru z gr10 := ⟨⟨by omega, by omega⟩, hRu10.2⟩
    have ho : o_setSeason bs ru se pf hd ca evs ln z = (0, se, (bs, ru, z, pf, hd, ca, evs, ln)) := by unfold o_setSeason; rw [if_neg (by omega)]
    exact j_iret C E dX7_setSeason_35 (by omega) (by omega) ⟨_, rfl, by rw [ho]; exact fun _ => rfl, ⟨_, by rw [ho]; exact ⟨hI, _, _, _, _, _, _, _, _, _, _, _, _, _, _, _, u14, ⟨u15, u16, u17, u18, u19, u20, u21, u22, u23, u24, u25, u26⟩, ⟨rfl, rfl, rfl⟩, hBn10, hRz, hPr10, hTr10, hKi10, hLi10⟩⟩, kp27, dm28⟩
  · replace cc5 := inI_F cc5
    refine j_iconst C dX7_setSeason_10 rfl ?_
    refine j_goto (tgt := 15) C dX7_setSeason_11 rfl ?_
    refine j_iconst C dX7_setSeason_15 rfl ?_
    refine j_callV (st' := []) (As := [vi (1), vi (1)]) C dX7_setSeason_16 rfl m_X7_62 h01 rfl rfl rfl (c_thr1 (kL κ) hfl (kD κ) (kc κ) σ am bs ru se pf hd ca evs ln bl th hM 1) rfl (by omega) (by omega) (by omega) (fun _ _ hx => hx.elim) (fun v30 τ29 hp31 => ?_)
    obtain ⟨rfl, hN32, hN32k, hN32d⟩ := hp31
    show J κ τ29 [(0, .ref (am 0)), (1, vi (z))] 19 [vi (1)] _ _
    have hN32K := kp0.tr hN32k
    have hN32D := hN32d.trans dm0
    obtain ⟨hI33, gc33, gm33, gr33, gp33, gb33, go33, gf33, gg33, gt33, gz33, gk33, gl33, _, _, _, h033, ⟨hgc33, hgm33, hgr33, hgp33, hgb33, hgo33, hgf33, hgg33, hgt33, hgz33, hgk33, hgl33⟩, ⟨rfl, rfl, rfl⟩, hBn33, hRu33, hPr33, hTr33, hKi33, hLi33⟩ := id hN32
    have hI := hI33
    have hnb633 := hBn33.1
    refine j_if_eq (tgt := 24) C dX7_setSeason_19 rfl rfl ⟨by omega, by omega⟩ (fun cc34 => absurd cc34 (by decide)) (fun _ => ?_)
    refine j_iconst C dX7_setSeason_22 rfl ?_
    have ho : o_setSeason bs ru se pf hd ca evs ln z = (1, 0, (bs, ru, se, pf, hd, ca, evs, ln)) := by unfold o_setSeason; rw [if_pos (by omega)]
    exact j_iret C E dX7_setSeason_23 (by omega) (by omega) ⟨_, rfl, by rw [ho]; exact fun h9 => absurd (show (1 : Int) = 0 from h9) (by decide), ⟨_, by rw [ho]; exact hN32⟩, hN32K, hN32D⟩
theorem ruK2x {ru : Nat → Int × Int} {se s g : Int} {gr : Nat → Int} (h : RuM ru se gr) (hs : 0 ≤ s ∧ s ≤ 3) (hg : 1 ≤ g ∧ g ≤ 3) {z : Int} (hz : z = 6 * s + 2 * g - 2) : gr z.toNat = (rAt ru s g).1 := ruK (se := s) ⟨hs, h.2⟩ hg hz
theorem kiK {evs : List Evt} {gk : Nat → Int} (h : KiM evs gk) {i : Nat} (hi : i < evs.length) : gk i = (evs.getD i (0, 0, 0, 0, 0, 0, 0)).1 ∧ (0 ≤ (evs.getD i (0, 0, 0, 0, 0, 0, 0)).1 ∧ (evs.getD i (0, 0, 0, 0, 0, 0, 0)).1 < 128) := by
  obtain ⟨h1, h2⟩ := h.2 i hi
  rw [h1] at h2
  exact ⟨h1, h2⟩
theorem liK {ln : List Int} {gl : Nat → Int} (h : LiM ln gl) {i : Nat} (hi : i < ln.length) : gl i = ln.getD i 0 ∧ (0 ≤ ln.getD i 0 ∧ ln.getD i 0 < 128) := by
  obtain ⟨h1, h2⟩ := h.2 i hi
  rw [h1] at h2
  exact ⟨h1, h2⟩
theorem RuM.set {ru : Nat → Int × Int} {se : Int} {gr : Nat → Int} (h : RuM ru se gr) {j k1 k2 : Nat} (hj : j < 12) (e1 : k1 = 2 * j) (e2 : k2 = 2 * j + 1) {y z : Int} (hy : 80 ≤ y ∧ y ≤ 300) (hz : 0 ≤ z ∧ z ≤ 100) : RuM (ruU ru j y z) se (ups (ups gr k1 y) k2 z) := by
  subst e1 e2
  refine ⟨h.1, fun i hi => ?_⟩
  obtain ⟨⟨a1, a2⟩, a3, a4⟩ := h.2 i hi
  unfold ruU
  by_cases c : i = j
  · subst c
    rw [if_pos rfl, ups_s, ups_n (by omega), ups_s]
    exact ⟨⟨rfl, rfl⟩, hy, hz⟩
  · rw [if_neg c, ups_n (by omega), ups_n (by omega), ups_n (by omega), ups_n (by omega)]
    exact ⟨⟨a1, a2⟩, a3, a4⟩
theorem PrM.set {pf gp : Nat → Int} (h : PrM pf gp) {j k : Nat} (e : k = j + 1) (y : Int) : PrM (ups pf k y) (ups gp j y) := by
  subst e
  intro i hi
  by_cases c : i = j
  · rw [ups_u c, ups_u (by omega)]
  · rw [ups_n c, ups_n (by omega)]
    exact h i hi
set_option maxHeartbeats 4000000 in
set_option maxRecDepth 20000 in
theorem m_setRule (l : Launch) (hfl : l.stackTraces = false) (D : va_G) (cy : Nat → Nat) (σ : Wd) (am : Nat → Nat) (bs : List Bn) (ru : Nat → Int × Int) (se : Int) (pf : Nat → Int) (hd : Hd) (ca : Int) (evs : List Evt) (ln : List Int) (bl : Int × Int × Int) (th : Int) (hM : RM cy σ am bs ru se pf hd ca evs ln bl th) (s : Int) (hs9 : (-2147483648 ≤ s ∧ s < 2147483648)) (g : Int) (hg9 : (-2147483648 ≤ g ∧ g < 2147483648)) (y : Int) (hy9 : (-2147483648 ≤ y ∧ y < 2147483648)) (z : Int) (hz9 : (-2147483648 ≤ z ∧ z < 2147483648)) : Ct l yX7_setRule cX7_setRule 7 (some .int) 2 0 0 D cy [.ref (am 0), vi (s), vi (g), vi (y), vi (z)] σ (fun v σ' => ∃ rz : Int, v = some (vi rz) ∧ ((o_setRule bs ru se pf hd ca evs ln s g y z).1 = 0 → rz = (o_setRule bs ru se pf hd ca evs ln s g y z).2.1) ∧ (∃ bl', RMs cy σ' am (o_setRule bs ru se pf hd ca evs ln s g y z).2.2 bl' (o_setRule bs ru se pf hd ca evs ln s g y z).1) ∧ Keep σ σ' (inM am) ∧ σ'.1 = σ.1) noX := by
  refine ct_start (by decide +kernel) hfl rfl (fun κ e1 e2 e3 C E NH => ?_)
  subst e1 e2 e3
  have C : Cx κ cX7_setRule 7 RX7 "setRule" 2 := C
  obtain ⟨-, -, -, -, hc, hs⟩ := id E
  show J κ σ [(0, .ref (am 0)), (1, vi (s)), (2, vi (g)), (3, vi (y)), (4, vi (z))] 0 [] 0 0
  obtain ⟨hI1, gc1, gm1, gr1, gp1, gb1, go1, gf1, gg1, gt1, gz1, gk1, gl1, _, _, _, h01, ⟨hgc1, hgm1, hgr1, hgp1, hgb1, hgo1, hgf1, hgg1, hgt1, hgz1, hgk1, hgl1⟩, ⟨rfl, rfl, rfl⟩, hBn1, hRu1, hPr1, hTr1, hKi1, hLi1⟩ := id hM
  have hI := hI1
  have hnb61 := hBn1.1
  have kp0 : Keep σ σ (inM am) := Keep.rf
  have dm0 : σ.1 = σ.1 := rfl
  refine j_aload_n 0 C dX7_setRule_0 rfl rfl rfl ?_
  refine j_iload_n 1 C dX7_setRule_1 rfl rfl rfl ?_
  refine j_iconst C dX7_setRule_2 rfl ?_
  refine j_iconst C dX7_setRule_3 rfl ?_
  refine j_callS (st' := [.ref (am 0)]) (As := [vi (s), vi (0), vi (3)]) C dX7_setRule_4 rfl m_X7_58 rfl rfl (c_isIn (kL κ) hfl (kD κ) (kc κ) σ s 0 3 ⟨by omega, by omega⟩ ⟨by omega, by omega⟩ ⟨by omega, by omega⟩) rfl (by omega) (by omega) (by omega) (fun _ _ hx => hx.elim) (fun v3 τ2 hp4 => ?_)
  obtain ⟨rfl, hs9⟩ := hp4
  replace hs9 := hs9.symm
  subst hs9
  show J κ σ [(0, .ref (am 0)), (1, vi (s)), (2, vi (g)), (3, vi (y)), (4, vi (z))] 7 [vi ((inI s 0 3)), .ref (am 0)] _ _
  refine j_if_eq (tgt := 37) C dX7_setRule_7 rfl rfl (inI_r _ _ _) (fun cc5 => ?_) (fun cc5 => ?_)
  · replace cc5 := inI_F cc5
    refine j_iconst C dX7_setRule_37 rfl ?_
    refine j_goto (tgt := 42) C dX7_setRule_38 rfl ?_
    refine j_iconst C dX7_setRule_42 rfl ?_
    refine j_callV (st' := []) (As := [vi (1), vi (1)]) C dX7_setRule_43 rfl m_X7_62 h01 rfl rfl rfl (c_thr1 (kL κ) hfl (kD κ) (kc κ) σ am bs ru se pf hd ca evs ln bl th hM 1) rfl (by omega) (by omega) (by omega) (fun _ _ hx => hx.elim) (fun v7 τ6 hp8 => ?_)
    obtain ⟨rfl, hN9, hN9k, hN9d⟩ := hp8
    show J κ τ6 [(0, .ref (am 0)), (1, vi (s)), (2, vi (g)), (3, vi (y)), (4, vi (z))] 46 [vi (1)] _ _
    have hN9K := kp0.tr hN9k
    have hN9D := hN9d.trans dm0
    obtain ⟨hI10, gc10, gm10, gr10, gp10, gb10, go10, gf10, gg10, gt10, gz10, gk10, gl10, _, _, _, h010, ⟨hgc10, hgm10, hgr10, hgp10, hgb10, hgo10, hgf10, hgg10, hgt10, hgz10, hgk10, hgl10⟩, ⟨rfl, rfl, rfl⟩, hBn10, hRu10, hPr10, hTr10, hKi10, hLi10⟩ := id hN9
    have hI := hI10
    have hnb610 := hBn10.1
    refine j_if_eq (tgt := 51) C dX7_setRule_46 rfl rfl ⟨by omega, by omega⟩ (fun cc11 => absurd cc11 (by decide)) (fun _ => ?_)
    refine j_iconst C dX7_setRule_49 rfl ?_
    have ho : o_setRule bs ru se pf hd ca evs ln s g y z = (1, 0, (bs, ru, se, pf, hd, ca, evs, ln)) := by unfold o_setRule; rw [if_pos (by omega)]
    exact j_iret C E dX7_setRule_50 (by omega) (by omega) ⟨_, rfl, by rw [ho]; exact fun h9 => absurd (show (1 : Int) = 0 from h9) (by decide), ⟨_, by rw [ho]; exact hN9⟩, hN9K, hN9D⟩
  · replace cc5 := inI_T cc5
    refine j_iload_n 2 C dX7_setRule_10 rfl rfl rfl ?_
    refine j_iconst C dX7_setRule_11 rfl ?_
    refine j_iconst C dX7_setRule_12 rfl ?_
    refine j_callS (st' := [.ref (am 0)]) (As := [vi (g), vi (1), vi (3)]) C dX7_setRule_13 rfl m_X7_58 rfl rfl (c_isIn (kL κ) hfl (kD κ) (kc κ) σ g 1 3 ⟨by omega, by omega⟩ ⟨by omega, by omega⟩ ⟨by omega, by omega⟩) rfl (by omega) (by omega) (by omega) (fun _ _ hx => hx.elim) (fun v13 τ12 hp14 => ?_)
    obtain ⟨rfl, hs9⟩ := hp14
    replace hs9 := hs9.symm
    subst hs9
    show J κ σ [(0, .ref (am 0)), (1, vi (s)), (2, vi (g)), (3, vi (y)), (4, vi (z))] 16 [vi ((inI g 1 3)), .ref (am 0)] _ _
    refine j_if_eq (tgt := 37) C dX7_setRule_16 rfl rfl (inI_r _ _ _) (fun cc15 => ?_) (fun cc15 => ?_)
    · replace cc15 := inI_F cc15
      refine j_iconst C dX7_setRule_37 rfl ?_
      refine j_goto (tgt := 42) C dX7_setRule_38 rfl ?_
      refine j_iconst C dX7_setRule_42 rfl ?_
      refine j_callV (st' := []) (As := [vi (1), vi (1)]) C dX7_setRule_43 rfl m_X7_62 h01 rfl rfl rfl (c_thr1 (kL κ) hfl (kD κ) (kc κ) σ am bs ru se pf hd ca evs ln bl th hM 1) rfl (by omega) (by omega) (by omega) (fun _ _ hx => hx.elim) (fun v17 τ16 hp18 => ?_)
      obtain ⟨rfl, hN19, hN19k, hN19d⟩ := hp18
      show J κ τ16 [(0, .ref (am 0)), (1, vi (s)), (2, vi (g)), (3, vi (y)), (4, vi (z))] 46 [vi (1)] _ _
      have hN19K := kp0.tr hN19k
      have hN19D := hN19d.trans dm0
      obtain ⟨hI20, gc20, gm20, gr20, gp20, gb20, go20, gf20, gg20, gt20, gz20, gk20, gl20, _, _, _, h020, ⟨hgc20, hgm20, hgr20, hgp20, hgb20, hgo20, hgf20, hgg20, hgt20, hgz20, hgk20, hgl20⟩, ⟨rfl, rfl, rfl⟩, hBn20, hRu20, hPr20, hTr20, hKi20, hLi20⟩ := id hN19
      have hI := hI20
      have hnb620 := hBn20.1
      refine j_if_eq (tgt := 51) C dX7_setRule_46 rfl rfl ⟨by omega, by omega⟩ (fun cc21 => absurd cc21 (by decide)) (fun _ => ?_)
      refine j_iconst C dX7_setRule_49 rfl ?_
      have ho : o_setRule bs ru se pf hd ca evs ln s g y z = (1, 0, (bs, ru, se, pf, hd, ca, evs, ln)) := by unfold o_setRule; rw [if_pos (by omega)]
      exact j_iret C E dX7_setRule_50 (by omega) (by omega) ⟨_, rfl, by rw [ho]; exact fun h9 => absurd (show (1 : Int) = 0 from h9) (by decide), ⟨_, by rw [ho]; exact hN19⟩, hN19K, hN19D⟩
    · replace cc15 := inI_T cc15
      refine j_iload_n 3 C dX7_setRule_19 rfl rfl rfl ?_
      refine j_callS (st' := [.ref (am 0)]) (As := [vi (y)]) C dX7_setRule_20 rfl m_X7_70 rfl rfl (c_isMoist (kL κ) hfl (kD κ) (kc κ) σ y ⟨by omega, by omega⟩) rfl (by omega) (by omega) (by omega) (fun _ _ hx => hx.elim) (fun v23 τ22 hp24 => ?_)
      obtain ⟨rfl, hs9⟩ := hp24
      replace hs9 := hs9.symm
      subst hs9
      show J κ σ [(0, .ref (am 0)), (1, vi (s)), (2, vi (g)), (3, vi (y)), (4, vi (z))] 23 [vi ((inI y 80 300)), .ref (am 0)] _ _
      refine j_if_eq (tgt := 37) C dX7_setRule_23 rfl rfl (inI_r _ _ _) (fun cc25 => ?_) (fun cc25 => ?_)
      · replace cc25 := inI_F cc25
        refine j_iconst C dX7_setRule_37 rfl ?_
        refine j_goto (tgt := 42) C dX7_setRule_38 rfl ?_
        refine j_iconst C dX7_setRule_42 rfl ?_
        refine j_callV (st' := []) (As := [vi (1), vi (1)]) C dX7_setRule_43 rfl m_X7_62 h01 rfl rfl rfl (c_thr1 (kL κ) hfl (kD κ) (kc κ) σ am bs ru se pf hd ca evs ln bl th hM 1) rfl (by omega) (by omega) (by omega) (fun _ _ hx => hx.elim) (fun v27 τ26 hp28 => ?_)
        obtain ⟨rfl, hN29, hN29k, hN29d⟩ := hp28
        show J κ τ26 [(0, .ref (am 0)), (1, vi (s)), (2, vi (g)), (3, vi (y)), (4, vi (z))] 46 [vi (1)] _ _
        have hN29K := kp0.tr hN29k
        have hN29D := hN29d.trans dm0
        obtain ⟨hI30, gc30, gm30, gr30, gp30, gb30, go30, gf30, gg30, gt30, gz30, gk30, gl30, _, _, _, h030, ⟨hgc30, hgm30, hgr30, hgp30, hgb30, hgo30, hgf30, hgg30, hgt30, hgz30, hgk30, hgl30⟩, ⟨rfl, rfl, rfl⟩, hBn30, hRu30, hPr30, hTr30, hKi30, hLi30⟩ := id hN29
        have hI := hI30
        have hnb630 := hBn30.1
        refine j_if_eq (tgt := 51) C dX7_setRule_46 rfl rfl ⟨by omega, by omega⟩ (fun cc31 => absurd cc31 (by decide)) (fun _ => ?_)
        refine j_iconst C dX7_setRule_49 rfl ?_
        have ho : o_setRule bs ru se pf hd ca evs ln s g y z = (1, 0, (bs, ru, se, pf, hd, ca, evs, ln)) := by unfold o_setRule; rw [if_pos (by omega)]
        exact j_iret C E dX7_setRule_50 (by omega) (by omega) ⟨_, rfl, by rw [ho]; exact fun h9 => absurd (show (1 : Int) = 0 from h9) (by decide), ⟨_, by rw [ho]; exact hN29⟩, hN29K, hN29D⟩
      · replace cc25 := inI_T cc25
        refine j_iload 4 C dX7_setRule_26 rfl rfl ?_
        refine j_iconst C dX7_setRule_28 rfl ?_
        refine j_bipush C dX7_setRule_29 rfl (by decide) ?_
        refine j_callS (st' := [.ref (am 0)]) (As := [vi (z), vi (0), vi (100)]) C dX7_setRule_31 rfl m_X7_58 rfl rfl (c_isIn (kL κ) hfl (kD κ) (kc κ) σ z 0 100 ⟨by omega, by omega⟩ ⟨by omega, by omega⟩ ⟨by omega, by omega⟩) rfl (by omega) (by omega) (by omega) (fun _ _ hx => hx.elim) (fun v33 τ32 hp34 => ?_)
        obtain ⟨rfl, hs9⟩ := hp34
        replace hs9 := hs9.symm
        subst hs9
        show J κ σ [(0, .ref (am 0)), (1, vi (s)), (2, vi (g)), (3, vi (y)), (4, vi (z))] 34 [vi ((inI z 0 100)), .ref (am 0)] _ _
        refine j_if_ne (tgt := 41) C dX7_setRule_34 rfl rfl (inI_r _ _ _) (fun cc35 => ?_) (fun cc35 => ?_)
        · replace cc35 := inI_T cc35
          refine j_iconst C dX7_setRule_41 rfl ?_
          refine j_iconst C dX7_setRule_42 rfl ?_
          refine j_callV (st' := []) (As := [vi (0), vi (1)]) C dX7_setRule_43 rfl m_X7_62 h01 rfl rfl rfl (c_thr0 (kL κ) hfl (kD κ) (kc κ) σ am bs ru se pf hd ca evs ln bl th hM 1) rfl (by omega) (by omega) (by omega) (fun _ _ hx => hx.elim) (fun v37 τ36 hp38 => ?_)
          obtain ⟨rfl, hN39, hN39k, hN39d⟩ := hp38
          show J κ τ36 [(0, .ref (am 0)), (1, vi (s)), (2, vi (g)), (3, vi (y)), (4, vi (z))] 46 [vi (0)] _ _
          have hN39K := kp0.tr hN39k
          have hN39D := hN39d.trans dm0
          obtain ⟨hI40, gc40, gm40, gr40, gp40, gb40, go40, gf40, gg40, gt40, gz40, gk40, gl40, _, _, _, h040, ⟨hgc40, hgm40, hgr40, hgp40, hgb40, hgo40, hgf40, hgg40, hgt40, hgz40, hgk40, hgl40⟩, ⟨rfl, rfl, rfl⟩, hBn40, hRu40, hPr40, hTr40, hKi40, hLi40⟩ := id hN39
          have hI := hI40
          have hnb640 := hBn40.1
          refine j_if_eq (tgt := 51) C dX7_setRule_46 rfl rfl ⟨by omega, by omega⟩ (fun _ => ?_) (fun cc41 => absurd cc41 (by decide))
          refine j_bipush C dX7_setRule_51 rfl (by decide) ?_
          refine j_iload_n 1 C dX7_setRule_53 rfl rfl rfl ?_
          refine j_imul C dX7_setRule_54 rfl ?_
          refine j_iconst C dX7_setRule_55 rfl ?_
          refine j_iload_n 2 C dX7_setRule_56 rfl rfl rfl ?_
          refine j_imul C dX7_setRule_57 rfl ?_
          refine j_iadd C dX7_setRule_58 rfl ?_
          refine j_iconst C dX7_setRule_59 rfl ?_
          refine j_isub C dX7_setRule_60 rfl ?_
          refine j_istore (lv' := [(0, .ref (am 0)), (1, vi (s)), (2, vi (g)), (3, vi (y)), (4, vi (z)), (5, vi (((6 * s) + (2 * g)) - 2))]) [1, 2, 3, 4, 5, 0] C dX7_setRule_61 rfl rfl rfl ?_
          refine j_aload_n 0 C dX7_setRule_63 rfl rfl rfl ?_
          refine j_get C dX7_setRule_64 rfl fg_X7_16 h040 rfl ?_
          refine j_iload 5 C dX7_setRule_67 rfl rfl ?_
          refine j_iald C dX7_setRule_69 rfl hgr40 ⟨by omega, by omega⟩ (by omega) ((ruK2x (s := s) (g := g) hRu40 ⟨by omega, by omega⟩ ⟨by omega, by omega⟩ (z := ((6 * s) + (2 * g)) - 2) (by omega))) ?_
          refine j_istore (lv' := [(0, .ref (am 0)), (1, vi (s)), (2, vi (g)), (3, vi (y)), (4, vi (z)), (5, vi (((6 * s) + (2 * g)) - 2)), (6, vi ((rAt ru s g).1))]) [1, 2, 3, 4, 5, 6, 0] C dX7_setRule_70 rfl rfl rfl ?_
          refine j_aload_n 0 C dX7_setRule_72 rfl rfl rfl ?_
          refine j_get C dX7_setRule_73 rfl fg_X7_16 h040 rfl ?_
          refine j_iload 5 C dX7_setRule_76 rfl rfl ?_
          refine j_iload_n 3 C dX7_setRule_78 rfl rfl rfl ?_
          refine j_iast C dX7_setRule_79 rfl hgr40 ⟨by omega, by omega⟩ (by omega) (fun τ42 ee43 => ?_)
          have u44 := h040.ne' ee43 (hI 0 3 (by decide) (by decide) (by decide))
          have u45 := hgc40.ne' ee43 (hI 1 3 (by decide) (by decide) (by decide))
          have u46 := hgm40.ne' ee43 (hI 2 3 (by decide) (by decide) (by decide))
          have u47 : has τ42 (am 3) (iA (kc κ) 24 (ups gr40 (((6 * s) + (2 * g)) - 2).toNat y)) := hgr40.self' ee43
          have u48 := hgp40.ne' ee43 (hI 4 3 (by decide) (by decide) (by decide))
          have u49 := hgb40.ne' ee43 (hI 5 3 (by decide) (by decide) (by decide))
          have u50 := hgo40.ne' ee43 (hI 6 3 (by decide) (by decide) (by decide))
          have u51 := hgf40.ne' ee43 (hI 7 3 (by decide) (by decide) (by decide))
          have u52 := hgg40.ne' ee43 (hI 8 3 (by decide) (by decide) (by decide))
          have u53 := hgt40.ne' ee43 (hI 9 3 (by decide) (by decide) (by decide))
          have u54 := hgz40.ne' ee43 (hI 10 3 (by decide) (by decide) (by decide))
          have u55 := hgk40.ne' ee43 (hI 11 3 (by decide) (by decide) (by decide))
          have u56 := hgl40.ne' ee43 (hI 12 3 (by decide) (by decide) (by decide))
          have kp57 := hN39K.put ee43 ⟨3, by decide, rfl⟩
          have dm58 := (dom_put ee43).trans hN39D
          refine j_aload_n 0 C dX7_setRule_80 rfl rfl rfl ?_
          refine j_get C dX7_setRule_81 rfl fg_X7_16 u44 rfl ?_
          refine j_iload 5 C dX7_setRule_84 rfl rfl ?_
          refine j_iconst C dX7_setRule_86 rfl ?_
          refine j_iadd C dX7_setRule_87 rfl ?_
          refine j_iload 4 C dX7_setRule_88 rfl rfl ?_
          refine j_iast C dX7_setRule_90 rfl u47 ⟨by omega, by omega⟩ (by omega) (fun τ59 ee60 => ?_)
          have u61 := u44.ne' ee60 (hI 0 3 (by decide) (by decide) (by decide))
          have u62 := u45.ne' ee60 (hI 1 3 (by decide) (by decide) (by decide))
          have u63 := u46.ne' ee60 (hI 2 3 (by decide) (by decide) (by decide))
          have u64 : has τ59 (am 3) (iA (kc κ) 24 (ups (ups gr40 (((6 * s) + (2 * g)) - 2).toNat y) ((((6 * s) + (2 * g)) - 2) + 1).toNat z)) := u47.self' ee60
          have u65 := u48.ne' ee60 (hI 4 3 (by decide) (by decide) (by decide))
          have u66 := u49.ne' ee60 (hI 5 3 (by decide) (by decide) (by decide))
          have u67 := u50.ne' ee60 (hI 6 3 (by decide) (by decide) (by decide))
          have u68 := u51.ne' ee60 (hI 7 3 (by decide) (by decide) (by decide))
          have u69 := u52.ne' ee60 (hI 8 3 (by decide) (by decide) (by decide))
          have u70 := u53.ne' ee60 (hI 9 3 (by decide) (by decide) (by decide))
          have u71 := u54.ne' ee60 (hI 10 3 (by decide) (by decide) (by decide))
          have u72 := u55.ne' ee60 (hI 11 3 (by decide) (by decide) (by decide))
          have u73 := u56.ne' ee60 (hI 12 3 (by decide) (by decide) (by decide))
          have kp74 := kp57.put ee60 ⟨3, by decide, rfl⟩
          have dm75 := (dom_put ee60).trans dm58
          refine j_iload 6 C dX7_setRule_91 rfl rfl ?_
          have hRx := hRu40.set (j := (s * 3 + g - 1).toNat) (by omega) (k1 := (((6 * s) + (2 * g)) - 2).toNat) (k2 := ((((6 * s) + (2 * g)) - 2) + 1).toNat) (by omega) (by omega) (y := y) (z := z) ⟨by omega, by omega⟩ ⟨by omega, by omega⟩
          have ho : o_setRule bs ru se pf hd ca evs ln s g y z = (0, (rAt ru s g).1, (bs, ruU ru (s * 3 + g - 1).toNat y z, se, pf, hd, ca, evs, ln)) := by unfold o_setRule; rw [if_neg (by omega)]
          exact j_iret C E dX7_setRule_93 (by omega) (by omega) ⟨_, rfl, by rw [ho]; exact fun _ => rfl, ⟨_, by rw [ho]; exact ⟨hI, _, _, _, _, _, _, _, _, _, _, _, _, _, _, _, u61, ⟨u62, u63, u64, u65, u66, u67, u68, u69, u70, u71, u72, u73⟩, ⟨rfl, rfl, rfl⟩, hBn40, hRx, hPr40, hTr40, hKi40, hLi40⟩⟩, kp74, dm75⟩
        · replace cc35 := inI_F cc35
          refine j_iconst C dX7_setRule_37 rfl ?_
          refine j_goto (tgt := 42) C dX7_setRule_38 rfl ?_
          refine j_iconst C dX7_setRule_42 rfl ?_
          refine j_callV (st' := []) (As := [vi (1), vi (1)]) C dX7_setRule_43 rfl m_X7_62 h01 rfl rfl rfl (c_thr1 (kL κ) hfl (kD κ) (kc κ) σ am bs ru se pf hd ca evs ln bl th hM 1) rfl (by omega) (by omega) (by omega) (fun _ _ hx => hx.elim) (fun v77 τ76 hp78 => ?_)
          obtain ⟨rfl, hN79, hN79k, hN79d⟩ := hp78
          show J κ τ76 [(0, .ref (am 0)), (1, vi (s)), (2, vi (g)), (3, vi (y)), (4, vi (z))] 46 [vi (1)] _ _
          have hN79K := kp0.tr hN79k
          have hN79D := hN79d.trans dm0
          obtain ⟨hI80, gc80, gm80, gr80, gp80, gb80, go80, gf80, gg80, gt80, gz80, gk80, gl80, _, _, _, h080, ⟨hgc80, hgm80, hgr80, hgp80, hgb80, hgo80, hgf80, hgg80, hgt80, hgz80, hgk80, hgl80⟩, ⟨rfl, rfl, rfl⟩, hBn80, hRu80, hPr80, hTr80, hKi80, hLi80⟩ := id hN79
          have hI := hI80
          have hnb680 := hBn80.1
          refine j_if_eq (tgt := 51) C dX7_setRule_46 rfl rfl ⟨by omega, by omega⟩ (fun cc81 => absurd cc81 (by decide)) (fun _ => ?_)
          refine j_iconst C dX7_setRule_49 rfl ?_
          have ho : o_setRule bs ru se pf hd ca evs ln s g y z = (1, 0, (bs, ru, se, pf, hd, ca, evs, ln)) := by unfold o_setRule; rw [if_pos (by omega)]
          exact j_iret C E dX7_setRule_50 (by omega) (by omega) ⟨_, rfl, by rw [ho]; exact fun h9 => absurd (show (1 : Int) = 0 from h9) (by decide), ⟨_, by rw [ho]; exact hN79⟩, hN79K, hN79D⟩
set_option maxHeartbeats 4000000 in
set_option maxRecDepth 20000 in
theorem m_setPrice (l : Launch) (hfl : l.stackTraces = false) (D : va_G) (cy : Nat → Nat) (σ : Wd) (am : Nat → Nat) (bs : List Bn) (ru : Nat → Int × Int) (se : Int) (pf : Nat → Int) (hd : Hd) (ca : Int) (evs : List Evt) (ln : List Int) (bl : Int × Int × Int) (th : Int) (hM : RM cy σ am bs ru se pf hd ca evs ln bl th) (z : Int) (hz9 : (-2147483648 ≤ z ∧ z < 2147483648)) (y : Int) (hy9 : (-2147483648 ≤ y ∧ y < 2147483648)) : Ct l yX7_setPrice cX7_setPrice 4 (some .int) 2 0 0 D cy [.ref (am 0), vi (z), vi (y)] σ (fun v σ' => ∃ rz : Int, v = some (vi rz) ∧ ((o_setPrice bs ru se pf hd ca evs ln z y).1 = 0 → rz = (o_setPrice bs ru se pf hd ca evs ln z y).2.1) ∧ (∃ bl', RMs cy σ' am (o_setPrice bs ru se pf hd ca evs ln z y).2.2 bl' (o_setPrice bs ru se pf hd ca evs ln z y).1) ∧ Keep σ σ' (inM am) ∧ σ'.1 = σ.1) noX := by
  refine ct_start (by decide +kernel) hfl rfl (fun κ e1 e2 e3 C E NH => ?_)
  subst e1 e2 e3
  have C : Cx κ cX7_setPrice 4 RX7 "setPrice" 2 := C
  obtain ⟨-, -, -, -, hc, hs⟩ := id E
  show J κ σ [(0, .ref (am 0)), (1, vi (z)), (2, vi (y))] 0 [] 0 0
  obtain ⟨hI1, gc1, gm1, gr1, gp1, gb1, go1, gf1, gg1, gt1, gz1, gk1, gl1, _, _, _, h01, ⟨hgc1, hgm1, hgr1, hgp1, hgb1, hgo1, hgf1, hgg1, hgt1, hgz1, hgk1, hgl1⟩, ⟨rfl, rfl, rfl⟩, hBn1, hRu1, hPr1, hTr1, hKi1, hLi1⟩ := id hM
  have hI := hI1
  have hnb61 := hBn1.1
  have kp0 : Keep σ σ (inM am) := Keep.rf
  have dm0 : σ.1 = σ.1 := rfl
  refine j_aload_n 0 C dX7_setPrice_0 rfl rfl rfl ?_
  refine j_iload_n 1 C dX7_setPrice_1 rfl rfl rfl ?_
  refine j_iconst C dX7_setPrice_2 rfl ?_
  refine j_iconst C dX7_setPrice_3 rfl ?_
  refine j_callS (st' := [.ref (am 0)]) (As := [vi (z), vi (1), vi (4)]) C dX7_setPrice_4 rfl m_X7_58 rfl rfl (c_isIn (kL κ) hfl (kD κ) (kc κ) σ z 1 4 ⟨by omega, by omega⟩ ⟨by omega, by omega⟩ ⟨by omega, by omega⟩) rfl (by omega) (by omega) (by omega) (fun _ _ hx => hx.elim) (fun v3 τ2 hp4 => ?_)
  obtain ⟨rfl, hs9⟩ := hp4
  replace hs9 := hs9.symm
  subst hs9
  show J κ σ [(0, .ref (am 0)), (1, vi (z)), (2, vi (y))] 7 [vi ((inI z 1 4)), .ref (am 0)] _ _
  refine j_if_eq (tgt := 21) C dX7_setPrice_7 rfl rfl (inI_r _ _ _) (fun cc5 => ?_) (fun cc5 => ?_)
  · replace cc5 := inI_F cc5
    refine j_iconst C dX7_setPrice_21 rfl ?_
    refine j_goto (tgt := 26) C dX7_setPrice_22 rfl ?_
    refine j_iconst C dX7_setPrice_26 rfl ?_
    refine j_callV (st' := []) (As := [vi (1), vi (1)]) C dX7_setPrice_27 rfl m_X7_62 h01 rfl rfl rfl (c_thr1 (kL κ) hfl (kD κ) (kc κ) σ am bs ru se pf hd ca evs ln bl th hM 1) rfl (by omega) (by omega) (by omega) (fun _ _ hx => hx.elim) (fun v7 τ6 hp8 => ?_)
    obtain ⟨rfl, hN9, hN9k, hN9d⟩ := hp8
    show J κ τ6 [(0, .ref (am 0)), (1, vi (z)), (2, vi (y))] 30 [vi (1)] _ _
    have hN9K := kp0.tr hN9k
    have hN9D := hN9d.trans dm0
    obtain ⟨hI10, gc10, gm10, gr10, gp10, gb10, go10, gf10, gg10, gt10, gz10, gk10, gl10, _, _, _, h010, ⟨hgc10, hgm10, hgr10, hgp10, hgb10, hgo10, hgf10, hgg10, hgt10, hgz10, hgk10, hgl10⟩, ⟨rfl, rfl, rfl⟩, hBn10, hRu10, hPr10, hTr10, hKi10, hLi10⟩ := id hN9
    have hI := hI10
    have hnb610 := hBn10.1
    refine j_if_eq (tgt := 35) C dX7_setPrice_30 rfl rfl ⟨by omega, by omega⟩ (fun cc11 => absurd cc11 (by decide)) (fun _ => ?_)
    refine j_iconst C dX7_setPrice_33 rfl ?_
    have ho : o_setPrice bs ru se pf hd ca evs ln z y = (1, 0, (bs, ru, se, pf, hd, ca, evs, ln)) := by unfold o_setPrice; rw [if_pos (by omega)]
    exact j_iret C E dX7_setPrice_34 (by omega) (by omega) ⟨_, rfl, by rw [ho]; exact fun h9 => absurd (show (1 : Int) = 0 from h9) (by decide), ⟨_, by rw [ho]; exact hN9⟩, hN9K, hN9D⟩
  · replace cc5 := inI_T cc5
    refine j_iload_n 2 C dX7_setPrice_10 rfl rfl rfl ?_
    refine j_iconst C dX7_setPrice_11 rfl ?_
    refine j_sipush C dX7_setPrice_12 rfl (by decide) ?_
    refine j_callS (st' := [.ref (am 0)]) (As := [vi (y), vi (0), vi (2000)]) C dX7_setPrice_15 rfl m_X7_58 rfl rfl (c_isIn (kL κ) hfl (kD κ) (kc κ) σ y 0 2000 ⟨by omega, by omega⟩ ⟨by omega, by omega⟩ ⟨by omega, by omega⟩) rfl (by omega) (by omega) (by omega) (fun _ _ hx => hx.elim) (fun v13 τ12 hp14 => ?_)
    obtain ⟨rfl, hs9⟩ := hp14
    replace hs9 := hs9.symm
    subst hs9
    show J κ σ [(0, .ref (am 0)), (1, vi (z)), (2, vi (y))] 18 [vi ((inI y 0 2000)), .ref (am 0)] _ _
    refine j_if_ne (tgt := 25) C dX7_setPrice_18 rfl rfl (inI_r _ _ _) (fun cc15 => ?_) (fun cc15 => ?_)
    · replace cc15 := inI_T cc15
      refine j_iconst C dX7_setPrice_25 rfl ?_
      refine j_iconst C dX7_setPrice_26 rfl ?_
      refine j_callV (st' := []) (As := [vi (0), vi (1)]) C dX7_setPrice_27 rfl m_X7_62 h01 rfl rfl rfl (c_thr0 (kL κ) hfl (kD κ) (kc κ) σ am bs ru se pf hd ca evs ln bl th hM 1) rfl (by omega) (by omega) (by omega) (fun _ _ hx => hx.elim) (fun v17 τ16 hp18 => ?_)
      obtain ⟨rfl, hN19, hN19k, hN19d⟩ := hp18
      show J κ τ16 [(0, .ref (am 0)), (1, vi (z)), (2, vi (y))] 30 [vi (0)] _ _
      have hN19K := kp0.tr hN19k
      have hN19D := hN19d.trans dm0
      obtain ⟨hI20, gc20, gm20, gr20, gp20, gb20, go20, gf20, gg20, gt20, gz20, gk20, gl20, _, _, _, h020, ⟨hgc20, hgm20, hgr20, hgp20, hgb20, hgo20, hgf20, hgg20, hgt20, hgz20, hgk20, hgl20⟩, ⟨rfl, rfl, rfl⟩, hBn20, hRu20, hPr20, hTr20, hKi20, hLi20⟩ := id hN19
      have hI := hI20
      have hnb620 := hBn20.1
      refine j_if_eq (tgt := 35) C dX7_setPrice_30 rfl rfl ⟨by omega, by omega⟩ (fun _ => ?_) (fun cc21 => absurd cc21 (by decide))
      refine j_aload_n 0 C dX7_setPrice_35 rfl rfl rfl ?_
      refine j_get C dX7_setPrice_36 rfl fg_X7_19 h020 rfl ?_
      refine j_iload_n 1 C dX7_setPrice_39 rfl rfl rfl ?_
      refine j_iconst C dX7_setPrice_40 rfl ?_
      refine j_isub C dX7_setPrice_41 rfl ?_
      refine j_iald C dX7_setPrice_42 rfl hgp20 ⟨by omega, by omega⟩ (by omega) (prK hPr20 (g := z) ⟨by omega, by omega⟩ (z := z - 1) (by omega)) ?_
      refine j_istore_n (lv' := [(0, .ref (am 0)), (1, vi (z)), (2, vi (y)), (3, vi (pf z.toNat))]) [1, 2, 3, 0] C dX7_setPrice_43 rfl rfl rfl rfl ?_
      refine j_aload_n 0 C dX7_setPrice_44 rfl rfl rfl ?_
      refine j_get C dX7_setPrice_45 rfl fg_X7_19 h020 rfl ?_
      refine j_iload_n 1 C dX7_setPrice_48 rfl rfl rfl ?_
      refine j_iconst C dX7_setPrice_49 rfl ?_
      refine j_isub C dX7_setPrice_50 rfl ?_
      refine j_iload_n 2 C dX7_setPrice_51 rfl rfl rfl ?_
      refine j_iast C dX7_setPrice_52 rfl hgp20 ⟨by omega, by omega⟩ (by omega) (fun τ22 ee23 => ?_)
      have u24 := h020.ne' ee23 (hI 0 4 (by decide) (by decide) (by decide))
      have u25 := hgc20.ne' ee23 (hI 1 4 (by decide) (by decide) (by decide))
      have u26 := hgm20.ne' ee23 (hI 2 4 (by decide) (by decide) (by decide))
      have u27 := hgr20.ne' ee23 (hI 3 4 (by decide) (by decide) (by decide))
      have u28 : has τ22 (am 4) (iA (kc κ) 4 (ups gp20 (z - 1).toNat y)) := hgp20.self' ee23
      have u29 := hgb20.ne' ee23 (hI 5 4 (by decide) (by decide) (by decide))
      have u30 := hgo20.ne' ee23 (hI 6 4 (by decide) (by decide) (by decide))
      have u31 := hgf20.ne' ee23 (hI 7 4 (by decide) (by decide) (by decide))
      have u32 := hgg20.ne' ee23 (hI 8 4 (by decide) (by decide) (by decide))
      have u33 := hgt20.ne' ee23 (hI 9 4 (by decide) (by decide) (by decide))
      have u34 := hgz20.ne' ee23 (hI 10 4 (by decide) (by decide) (by decide))
      have u35 := hgk20.ne' ee23 (hI 11 4 (by decide) (by decide) (by decide))
      have u36 := hgl20.ne' ee23 (hI 12 4 (by decide) (by decide) (by decide))
      have kp37 := hN19K.put ee23 ⟨4, by decide, rfl⟩
      have dm38 := (dom_put ee23).trans hN19D
      refine j_iload_n 3 C dX7_setPrice_53 rfl rfl rfl ?_
      have ho : o_setPrice bs ru se pf hd ca evs ln z y = (0, pf z.toNat, (bs, ru, se, ups pf z.toNat y, hd, ca, evs, ln)) := by unfold o_setPrice; rw [if_neg (by omega)]
      exact j_iret C E dX7_setPrice_54 (by omega) (by omega) ⟨_, rfl, by rw [ho]; exact fun _ => rfl, ⟨_, by rw [ho]; exact ⟨hI, _, _, _, _, _, _, _, _, _, _, _, _, _, _, _, u24, ⟨u25, u26, u27, u28, u29, u30, u31, u32, u33, u34, u35, u36⟩, ⟨rfl, rfl, rfl⟩, hBn20, hRu20, (hPr20.set (by omega) y), hTr20, hKi20, hLi20⟩⟩, kp37, dm38⟩
    · replace cc15 := inI_F cc15
      refine j_iconst C dX7_setPrice_21 rfl ?_
      refine j_goto (tgt := 26) C dX7_setPrice_22 rfl ?_
      refine j_iconst C dX7_setPrice_26 rfl ?_
      refine j_callV (st' := []) (As := [vi (1), vi (1)]) C dX7_setPrice_27 rfl m_X7_62 h01 rfl rfl rfl (c_thr1 (kL κ) hfl (kD κ) (kc κ) σ am bs ru se pf hd ca evs ln bl th hM 1) rfl (by omega) (by omega) (by omega) (fun _ _ hx => hx.elim) (fun v40 τ39 hp41 => ?_)
      obtain ⟨rfl, hN42, hN42k, hN42d⟩ := hp41
      show J κ τ39 [(0, .ref (am 0)), (1, vi (z)), (2, vi (y))] 30 [vi (1)] _ _
      have hN42K := kp0.tr hN42k
      have hN42D := hN42d.trans dm0
      obtain ⟨hI43, gc43, gm43, gr43, gp43, gb43, go43, gf43, gg43, gt43, gz43, gk43, gl43, _, _, _, h043, ⟨hgc43, hgm43, hgr43, hgp43, hgb43, hgo43, hgf43, hgg43, hgt43, hgz43, hgk43, hgl43⟩, ⟨rfl, rfl, rfl⟩, hBn43, hRu43, hPr43, hTr43, hKi43, hLi43⟩ := id hN42
      have hI := hI43
      have hnb643 := hBn43.1
      refine j_if_eq (tgt := 35) C dX7_setPrice_30 rfl rfl ⟨by omega, by omega⟩ (fun cc44 => absurd cc44 (by decide)) (fun _ => ?_)
      refine j_iconst C dX7_setPrice_33 rfl ?_
      have ho : o_setPrice bs ru se pf hd ca evs ln z y = (1, 0, (bs, ru, se, pf, hd, ca, evs, ln)) := by unfold o_setPrice; rw [if_pos (by omega)]
      exact j_iret C E dX7_setPrice_34 (by omega) (by omega) ⟨_, rfl, by rw [ho]; exact fun h9 => absurd (show (1 : Int) = 0 from h9) (by decide), ⟨_, by rw [ho]; exact hN42⟩, hN42K, hN42D⟩
set_option maxHeartbeats 4000000 in
set_option maxRecDepth 20000 in
theorem m_priceOf (l : Launch) (hfl : l.stackTraces = false) (D : va_G) (cy : Nat → Nat) (σ : Wd) (am : Nat → Nat) (bs : List Bn) (ru : Nat → Int × Int) (se : Int) (pf : Nat → Int) (hd : Hd) (ca : Int) (evs : List Evt) (ln : List Int) (bl : Int × Int × Int) (th : Int) (hM : RM cy σ am bs ru se pf hd ca evs ln bl th) (z : Int) (hz9 : (-2147483648 ≤ z ∧ z < 2147483648)) : Ct l yX7_priceOf cX7_priceOf 2 (some .int) 2 0 0 D cy [.ref (am 0), vi (z)] σ (fun v σ' => ∃ rz : Int, v = some (vi rz) ∧ ((o_priceOf bs ru se pf hd ca evs ln z).1 = 0 → rz = (o_priceOf bs ru se pf hd ca evs ln z).2.1) ∧ (∃ bl', RMs cy σ' am (o_priceOf bs ru se pf hd ca evs ln z).2.2 bl' (o_priceOf bs ru se pf hd ca evs ln z).1) ∧ Keep σ σ' (inM am) ∧ σ'.1 = σ.1) noX := by
  refine ct_start (by decide +kernel) hfl rfl (fun κ e1 e2 e3 C E NH => ?_)
  subst e1 e2 e3
  have C : Cx κ cX7_priceOf 2 RX7 "priceOf" 2 := C
  obtain ⟨-, -, -, -, hc, hs⟩ := id E
  show J κ σ [(0, .ref (am 0)), (1, vi (z))] 0 [] 0 0
  obtain ⟨hI1, gc1, gm1, gr1, gp1, gb1, go1, gf1, gg1, gt1, gz1, gk1, gl1, _, _, _, h01, ⟨hgc1, hgm1, hgr1, hgp1, hgb1, hgo1, hgf1, hgg1, hgt1, hgz1, hgk1, hgl1⟩, ⟨rfl, rfl, rfl⟩, hBn1, hRu1, hPr1, hTr1, hKi1, hLi1⟩ := id hM
  have hI := hI1
  have hnb61 := hBn1.1
  have kp0 : Keep σ σ (inM am) := Keep.rf
  have dm0 : σ.1 = σ.1 := rfl
  refine j_aload_n 0 C dX7_priceOf_0 rfl rfl rfl ?_
  refine j_iload_n 1 C dX7_priceOf_1 rfl rfl rfl ?_
  refine j_iconst C dX7_priceOf_2 rfl ?_
  refine j_iconst C dX7_priceOf_3 rfl ?_
  refine j_callS (st' := [.ref (am 0)]) (As := [vi (z), vi (1), vi (4)]) C dX7_priceOf_4 rfl m_X7_58 rfl rfl (c_isIn (kL κ) hfl (kD κ) (kc κ) σ z 1 4 ⟨by omega, by omega⟩ ⟨by omega, by omega⟩ ⟨by omega, by omega⟩) rfl (by omega) (by omega) (by omega) (fun _ _ hx => hx.elim) (fun v3 τ2 hp4 => ?_)
  obtain ⟨rfl, hs9⟩ := hp4
  replace hs9 := hs9.symm
  subst hs9
  show J κ σ [(0, .ref (am 0)), (1, vi (z))] 7 [vi ((inI z 1 4)), .ref (am 0)] _ _
  refine j_if_ne (tgt := 14) C dX7_priceOf_7 rfl rfl (inI_r _ _ _) (fun cc5 => ?_) (fun cc5 => ?_)
  · replace cc5 := inI_T cc5
    refine j_iconst C dX7_priceOf_14 rfl ?_
    refine j_iconst C dX7_priceOf_15 rfl ?_
    refine j_callV (st' := []) (As := [vi (0), vi (1)]) C dX7_priceOf_16 rfl m_X7_62 h01 rfl rfl rfl (c_thr0 (kL κ) hfl (kD κ) (kc κ) σ am bs ru se pf hd ca evs ln bl th hM 1) rfl (by omega) (by omega) (by omega) (fun _ _ hx => hx.elim) (fun v7 τ6 hp8 => ?_)
    obtain ⟨rfl, hN9, hN9k, hN9d⟩ := hp8
    show J κ τ6 [(0, .ref (am 0)), (1, vi (z))] 19 [vi (0)] _ _
    have hN9K := kp0.tr hN9k
    have hN9D := hN9d.trans dm0
    obtain ⟨hI10, gc10, gm10, gr10, gp10, gb10, go10, gf10, gg10, gt10, gz10, gk10, gl10, _, _, _, h010, ⟨hgc10, hgm10, hgr10, hgp10, hgb10, hgo10, hgf10, hgg10, hgt10, hgz10, hgk10, hgl10⟩, ⟨rfl, rfl, rfl⟩, hBn10, hRu10, hPr10, hTr10, hKi10, hLi10⟩ := id hN9
    have hI := hI10
    have hnb610 := hBn10.1
    refine j_if_eq (tgt := 26) C dX7_priceOf_19 rfl rfl ⟨by omega, by omega⟩ (fun _ => ?_) (fun cc11 => absurd cc11 (by decide))
    refine j_aload_n 0 C dX7_priceOf_26 rfl rfl rfl ?_
    refine j_get C dX7_priceOf_27 rfl fg_X7_19 h010 rfl ?_
    refine j_iload_n 1 C dX7_priceOf_30 rfl rfl rfl ?_
    refine j_iconst C dX7_priceOf_31 rfl ?_
    refine j_isub C dX7_priceOf_32 rfl ?_
    refine j_iald C dX7_priceOf_33 rfl hgp10 ⟨by omega, by omega⟩ (by omega) (prK hPr10 (g := z) ⟨by omega, by omega⟩ (z := z - 1) (by omega)) ?_
    have ho : o_priceOf bs ru se pf hd ca evs ln z = (0, pf z.toNat, (bs, ru, se, pf, hd, ca, evs, ln)) := by unfold o_priceOf; rw [if_neg (by omega)]
    exact j_iret C E dX7_priceOf_34 (by omega) (by omega) ⟨_, rfl, by rw [ho]; exact fun _ => rfl, ⟨_, by rw [ho]; exact hN9⟩, hN9K, hN9D⟩
  · replace cc5 := inI_F cc5
    refine j_iconst C dX7_priceOf_10 rfl ?_
    refine j_goto (tgt := 15) C dX7_priceOf_11 rfl ?_
    refine j_iconst C dX7_priceOf_15 rfl ?_
    refine j_callV (st' := []) (As := [vi (1), vi (1)]) C dX7_priceOf_16 rfl m_X7_62 h01 rfl rfl rfl (c_thr1 (kL κ) hfl (kD κ) (kc κ) σ am bs ru se pf hd ca evs ln bl th hM 1) rfl (by omega) (by omega) (by omega) (fun _ _ hx => hx.elim) (fun v13 τ12 hp14 => ?_)
    obtain ⟨rfl, hN15, hN15k, hN15d⟩ := hp14
    show J κ τ12 [(0, .ref (am 0)), (1, vi (z))] 19 [vi (1)] _ _
    have hN15K := kp0.tr hN15k
    have hN15D := hN15d.trans dm0
    obtain ⟨hI16, gc16, gm16, gr16, gp16, gb16, go16, gf16, gg16, gt16, gz16, gk16, gl16, _, _, _, h016, ⟨hgc16, hgm16, hgr16, hgp16, hgb16, hgo16, hgf16, hgg16, hgt16, hgz16, hgk16, hgl16⟩, ⟨rfl, rfl, rfl⟩, hBn16, hRu16, hPr16, hTr16, hKi16, hLi16⟩ := id hN15
    have hI := hI16
    have hnb616 := hBn16.1
    refine j_if_eq (tgt := 26) C dX7_priceOf_19 rfl rfl ⟨by omega, by omega⟩ (fun cc17 => absurd cc17 (by decide)) (fun _ => ?_)
    refine j_iconst C dX7_priceOf_22 rfl ?_
    refine j_goto (tgt := 34) C dX7_priceOf_23 rfl ?_
    have ho : o_priceOf bs ru se pf hd ca evs ln z = (1, 0, (bs, ru, se, pf, hd, ca, evs, ln)) := by unfold o_priceOf; rw [if_pos (by omega)]
    exact j_iret C E dX7_priceOf_34 (by omega) (by omega) ⟨_, rfl, by rw [ho]; exact fun h9 => absurd (show (1 : Int) = 0 from h9) (by decide), ⟨_, by rw [ho]; exact hN15⟩, hN15K, hN15D⟩
set_option maxHeartbeats 4000000 in
set_option maxRecDepth 20000 in
theorem m_setFutures (l : Launch) (hfl : l.stackTraces = false) (D : va_G) (cy : Nat → Nat) (σ : Wd) (am : Nat → Nat) (bs : List Bn) (ru : Nat → Int × Int) (se : Int) (pf : Nat → Int) (hd : Hd) (ca : Int) (evs : List Evt) (ln : List Int) (bl : Int × Int × Int) (th : Int) (hM : RM cy σ am bs ru se pf hd ca evs ln bl th) (z : Int) (hz9 : (-2147483648 ≤ z ∧ z < 2147483648)) (hO : Ok bs ru se pf hd evs ln) : Ct l yX7_setFutures cX7_setFutures 3 (some .int) 2 0 0 D cy [.ref (am 0), vi (z)] σ (fun v σ' => ∃ rz : Int, v = some (vi rz) ∧ ((o_setFutures bs ru se pf hd ca evs ln z).1 = 0 → rz = (o_setFutures bs ru se pf hd ca evs ln z).2.1) ∧ (∃ bl', RMs cy σ' am (o_setFutures bs ru se pf hd ca evs ln z).2.2 bl' (o_setFutures bs ru se pf hd ca evs ln z).1) ∧ Keep σ σ' (inM am) ∧ σ'.1 = σ.1) noX := by
  refine ct_start (by decide +kernel) hfl rfl (fun κ e1 e2 e3 C E NH => ?_)
  subst e1 e2 e3
  have C : Cx κ cX7_setFutures 3 RX7 "setFutures" 2 := C
  obtain ⟨-, -, -, -, hc, hs⟩ := id E
  show J κ σ [(0, .ref (am 0)), (1, vi (z))] 0 [] 0 0
  obtain ⟨hI1, gc1, gm1, gr1, gp1, gb1, go1, gf1, gg1, gt1, gz1, gk1, gl1, _, _, _, h01, ⟨hgc1, hgm1, hgr1, hgp1, hgb1, hgo1, hgf1, hgg1, hgt1, hgz1, hgk1, hgl1⟩, ⟨rfl, rfl, rfl⟩, hBn1, hRu1, hPr1, hTr1, hKi1, hLi1⟩ := id hM
  have hI := hI1
  have hnb61 := hBn1.1
  have kp0 : Keep σ σ (inM am) := Keep.rf
  have dm0 : σ.1 = σ.1 := rfl
  obtain ⟨⟨hc1, hc2⟩, hc3, hc4⟩ := hO.2.2.2.1
  have h6 := hO.1
  have hlb := hO.2.2.1
  have hTb := totB_in hO.2.1
  have hprr := hO.2.2.2.2.1
  have hh := hO.2.2.2.1
  have htb := totB_in hO.2.1
  have h6 := hO.1
  refine j_aload_n 0 C dX7_setFutures_0 rfl rfl rfl ?_
  refine j_iload_n 1 C dX7_setFutures_1 rfl rfl rfl ?_
  refine j_iconst C dX7_setFutures_2 rfl ?_
  refine j_sipush C dX7_setFutures_3 rfl (by decide) ?_
  refine j_callS (st' := [.ref (am 0)]) (As := [vi (z), vi (0), vi (2000)]) C dX7_setFutures_6 rfl m_X7_58 rfl rfl (c_isIn (kL κ) hfl (kD κ) (kc κ) σ z 0 2000 ⟨by omega, by omega⟩ ⟨by omega, by omega⟩ ⟨by omega, by omega⟩) rfl (by omega) (by omega) (by omega) (fun _ _ hx => hx.elim) (fun v3 τ2 hp4 => ?_)
  obtain ⟨rfl, hs9⟩ := hp4
  replace hs9 := hs9.symm
  subst hs9
  show J κ σ [(0, .ref (am 0)), (1, vi (z))] 9 [vi ((inI z 0 2000)), .ref (am 0)] _ _
  refine j_if_ne (tgt := 16) C dX7_setFutures_9 rfl rfl (inI_r _ _ _) (fun cc5 => ?_) (fun cc5 => ?_)
  · replace cc5 := inI_T cc5
    refine j_iconst C dX7_setFutures_16 rfl ?_
    refine j_iconst C dX7_setFutures_17 rfl ?_
    refine j_callV (st' := []) (As := [vi (0), vi (1)]) C dX7_setFutures_18 rfl m_X7_62 h01 rfl rfl rfl (c_thr0 (kL κ) hfl (kD κ) (kc κ) σ am bs ru se pf hd ca evs ln bl th hM 1) rfl (by omega) (by omega) (by omega) (fun _ _ hx => hx.elim) (fun v7 τ6 hp8 => ?_)
    obtain ⟨rfl, hN9, hN9k, hN9d⟩ := hp8
    show J κ τ6 [(0, .ref (am 0)), (1, vi (z))] 21 [vi (0)] _ _
    have hN9K := kp0.tr hN9k
    have hN9D := hN9d.trans dm0
    obtain ⟨hI10, gc10, gm10, gr10, gp10, gb10, go10, gf10, gg10, gt10, gz10, gk10, gl10, _, _, _, h010, ⟨hgc10, hgm10, hgr10, hgp10, hgb10, hgo10, hgf10, hgg10, hgt10, hgz10, hgk10, hgl10⟩, ⟨rfl, rfl, rfl⟩, hBn10, hRu10, hPr10, hTr10, hKi10, hLi10⟩ := id hN9
    have hI := hI10
    have hnb610 := hBn10.1
    refine j_if_eq (tgt := 26) C dX7_setFutures_21 rfl rfl ⟨by omega, by omega⟩ (fun _ => ?_) (fun cc11 => absurd cc11 (by decide))
    refine j_aload_n 0 C dX7_setFutures_26 rfl rfl rfl ?_
    refine j_get C dX7_setFutures_27 rfl fg_X7_48 h010 rfl ?_
    refine j_istore_n (lv' := [(0, .ref (am 0)), (1, vi (z)), (2, vi (hd.2.2.2.1))]) [1, 2, 0] C dX7_setFutures_30 rfl rfl rfl rfl ?_
    refine j_aload_n 0 C dX7_setFutures_31 rfl rfl rfl ?_
    refine j_dup C dX7_setFutures_32 rfl rfl ?_
    refine j_get C dX7_setFutures_33 rfl fg_X7_170 h010 rfl ?_
    refine j_aload_n 0 C dX7_setFutures_36 rfl rfl rfl ?_
    refine j_get C dX7_setFutures_37 rfl fg_X7_87 h010 rfl ?_
    refine j_i2l C dX7_setFutures_40 rfl ⟨by omega, by omega⟩ ?_
    refine j_aload_n 0 C dX7_setFutures_41 rfl rfl rfl ?_
    refine j_get C dX7_setFutures_42 rfl fg_X7_48 h010 rfl ?_
    refine j_iload_n 1 C dX7_setFutures_45 rfl rfl rfl ?_
    refine j_isub C dX7_setFutures_46 rfl ?_
    refine j_i2l C dX7_setFutures_47 rfl ⟨by omega, by omega⟩ ?_
    refine j_lmul C dX7_setFutures_48 rfl ?_
    refine j_ladd C dX7_setFutures_49 rfl ?_
    refine j_put (fs' := [.ref (am 1), .ref (am 2), .ref (am 3), .ref (am 4), .ref (am 5), .ref (am 6), .ref (am 7), .ref (am 8), .ref (am 9), .ref (am 10), .ref (am 11), .ref (am 12), vi ((bs.length : Int)), vi (se), vi ((evs.length : Int)), vi (hd.2.1), vi (hd.2.2.2.1), vi (hd.2.2.1), vi ((ln.length : Int)), vi (bl.1), vi (bl.2.1), vi (bl.2.2), vi (0), vl (hd.2.2.2.2 + (hd.2.2.1 * (hd.2.2.2.1 - z))), vl (ca)]) C dX7_setFutures_50 rfl fa_X7_170 h010 rfl rfl rfl rfl (fun τ12 ee13 => ?_)
    have u14 : has τ12 (am 0) (.inr (7, [.ref (am 1), .ref (am 2), .ref (am 3), .ref (am 4), .ref (am 5), .ref (am 6), .ref (am 7), .ref (am 8), .ref (am 9), .ref (am 10), .ref (am 11), .ref (am 12), vi ((bs.length : Int)), vi (se), vi ((evs.length : Int)), vi (hd.2.1), vi (hd.2.2.2.1), vi (hd.2.2.1), vi ((ln.length : Int)), vi (bl.1), vi (bl.2.1), vi (bl.2.2), vi (0), vl (hd.2.2.2.2 + (hd.2.2.1 * (hd.2.2.2.1 - z))), vl (ca)])) := h010.self' ee13
    have u15 := hgc10.ne' ee13 (hI 1 0 (by decide) (by decide) (by decide))
    have u16 := hgm10.ne' ee13 (hI 2 0 (by decide) (by decide) (by decide))
    have u17 := hgr10.ne' ee13 (hI 3 0 (by decide) (by decide) (by decide))
    have u18 := hgp10.ne' ee13 (hI 4 0 (by decide) (by decide) (by decide))
    have u19 := hgb10.ne' ee13 (hI 5 0 (by decide) (by decide) (by decide))
    have u20 := hgo10.ne' ee13 (hI 6 0 (by decide) (by decide) (by decide))
    have u21 := hgf10.ne' ee13 (hI 7 0 (by decide) (by decide) (by decide))
    have u22 := hgg10.ne' ee13 (hI 8 0 (by decide) (by decide) (by decide))
    have u23 := hgt10.ne' ee13 (hI 9 0 (by decide) (by decide) (by decide))
    have u24 := hgz10.ne' ee13 (hI 10 0 (by decide) (by decide) (by decide))
    have u25 := hgk10.ne' ee13 (hI 11 0 (by decide) (by decide) (by decide))
    have u26 := hgl10.ne' ee13 (hI 12 0 (by decide) (by decide) (by decide))
    have kp27 := hN9K.put ee13 ⟨0, by decide, rfl⟩
    have dm28 := (dom_put ee13).trans hN9D
    refine j_aload_n 0 C dX7_setFutures_53 rfl rfl rfl ?_
    refine j_iload_n 1 C dX7_setFutures_54 rfl rfl rfl ?_
    refine j_put (fs' := [.ref (am 1), .ref (am 2), .ref (am 3), .ref (am 4), .ref (am 5), .ref (am 6), .ref (am 7), .ref (am 8), .ref (am 9), .ref (am 10), .ref (am 11), .ref (am 12), vi ((bs.length : Int)), vi (se), vi ((evs.length : Int)), vi (hd.2.1), vi (z), vi (hd.2.2.1), vi ((ln.length : Int)), vi (bl.1), vi (bl.2.1), vi (bl.2.2), vi (0), vl (hd.2.2.2.2 + (hd.2.2.1 * (hd.2.2.2.1 - z))), vl (ca)]) C dX7_setFutures_55 rfl fa_X7_48 u14 rfl rfl rfl rfl (fun τ29 ee30 => ?_)
    have u31 : has τ29 (am 0) (.inr (7, [.ref (am 1), .ref (am 2), .ref (am 3), .ref (am 4), .ref (am 5), .ref (am 6), .ref (am 7), .ref (am 8), .ref (am 9), .ref (am 10), .ref (am 11), .ref (am 12), vi ((bs.length : Int)), vi (se), vi ((evs.length : Int)), vi (hd.2.1), vi (z), vi (hd.2.2.1), vi ((ln.length : Int)), vi (bl.1), vi (bl.2.1), vi (bl.2.2), vi (0), vl (hd.2.2.2.2 + (hd.2.2.1 * (hd.2.2.2.1 - z))), vl (ca)])) := u14.self' ee30
    have u32 := u15.ne' ee30 (hI 1 0 (by decide) (by decide) (by decide))
    have u33 := u16.ne' ee30 (hI 2 0 (by decide) (by decide) (by decide))
    have u34 := u17.ne' ee30 (hI 3 0 (by decide) (by decide) (by decide))
    have u35 := u18.ne' ee30 (hI 4 0 (by decide) (by decide) (by decide))
    have u36 := u19.ne' ee30 (hI 5 0 (by decide) (by decide) (by decide))
    have u37 := u20.ne' ee30 (hI 6 0 (by decide) (by decide) (by decide))
    have u38 := u21.ne' ee30 (hI 7 0 (by decide) (by decide) (by decide))
    have u39 := u22.ne' ee30 (hI 8 0 (by decide) (by decide) (by decide))
    have u40 := u23.ne' ee30 (hI 9 0 (by decide) (by decide) (by decide))
    have u41 := u24.ne' ee30 (hI 10 0 (by decide) (by decide) (by decide))
    have u42 := u25.ne' ee30 (hI 11 0 (by decide) (by decide) (by decide))
    have u43 := u26.ne' ee30 (hI 12 0 (by decide) (by decide) (by decide))
    have kp44 := kp27.put ee30 ⟨0, by decide, rfl⟩
    have dm45 := (dom_put ee30).trans dm28
    refine j_iload_n 2 C dX7_setFutures_58 rfl rfl rfl ?_
    have ho : o_setFutures bs ru se pf hd ca evs ln z = (0, hd.2.2.2.1, (bs, ru, se, pf, hdP hd z, ca, evs, ln)) := by unfold o_setFutures; rw [if_neg (by omega)]
    exact j_iret C E dX7_setFutures_59 (by omega) (by omega) ⟨_, rfl, by rw [ho]; exact fun _ => rfl, ⟨_, by rw [ho]; exact ⟨hI, _, _, _, _, _, _, _, _, _, _, _, _, _, _, _, u31, ⟨u32, u33, u34, u35, u36, u37, u38, u39, u40, u41, u42, u43⟩, ⟨rfl, rfl, rfl⟩, hBn10, hRu10, hPr10, hTr10, hKi10, hLi10⟩⟩, kp44, dm45⟩
  · replace cc5 := inI_F cc5
    refine j_iconst C dX7_setFutures_12 rfl ?_
    refine j_goto (tgt := 17) C dX7_setFutures_13 rfl ?_
    refine j_iconst C dX7_setFutures_17 rfl ?_
    refine j_callV (st' := []) (As := [vi (1), vi (1)]) C dX7_setFutures_18 rfl m_X7_62 h01 rfl rfl rfl (c_thr1 (kL κ) hfl (kD κ) (kc κ) σ am bs ru se pf hd ca evs ln bl th hM 1) rfl (by omega) (by omega) (by omega) (fun _ _ hx => hx.elim) (fun v47 τ46 hp48 => ?_)
    obtain ⟨rfl, hN49, hN49k, hN49d⟩ := hp48
    show J κ τ46 [(0, .ref (am 0)), (1, vi (z))] 21 [vi (1)] _ _
    have hN49K := kp0.tr hN49k
    have hN49D := hN49d.trans dm0
    obtain ⟨hI50, gc50, gm50, gr50, gp50, gb50, go50, gf50, gg50, gt50, gz50, gk50, gl50, _, _, _, h050, ⟨hgc50, hgm50, hgr50, hgp50, hgb50, hgo50, hgf50, hgg50, hgt50, hgz50, hgk50, hgl50⟩, ⟨rfl, rfl, rfl⟩, hBn50, hRu50, hPr50, hTr50, hKi50, hLi50⟩ := id hN49
    have hI := hI50
    have hnb650 := hBn50.1
    refine j_if_eq (tgt := 26) C dX7_setFutures_21 rfl rfl ⟨by omega, by omega⟩ (fun cc51 => absurd cc51 (by decide)) (fun _ => ?_)
    refine j_iconst C dX7_setFutures_24 rfl ?_
    have ho : o_setFutures bs ru se pf hd ca evs ln z = (1, 0, (bs, ru, se, pf, hd, ca, evs, ln)) := by unfold o_setFutures; rw [if_pos (by omega)]
    exact j_iret C E dX7_setFutures_25 (by omega) (by omega) ⟨_, rfl, by rw [ho]; exact fun h9 => absurd (show (1 : Int) = 0 from h9) (by decide), ⟨_, by rw [ho]; exact hN49⟩, hN49K, hN49D⟩
set_option maxHeartbeats 4000000 in
set_option maxRecDepth 20000 in
theorem m_tradeAt (l : Launch) (hfl : l.stackTraces = false) (D : va_G) (cy : Nat → Nat) (σ : Wd) (am : Nat → Nat) (bs : List Bn) (ru : Nat → Int × Int) (se : Int) (pf : Nat → Int) (hd : Hd) (ca : Int) (evs : List Evt) (ln : List Int) (bl : Int × Int × Int) (th : Int) (hM : RM cy σ am bs ru se pf hd ca evs ln bl th) (z : Int) (hz9 : (-2147483648 ≤ z ∧ z < 2147483648)) : Ct l yX7_tradeAt cX7_tradeAt 2 (some .int) 2 0 0 D cy [.ref (am 0), vi (z)] σ (fun v σ' => ∃ rz : Int, v = some (vi rz) ∧ ((o_tradeAt bs ru se pf hd ca evs ln z).1 = 0 → rz = (o_tradeAt bs ru se pf hd ca evs ln z).2.1) ∧ (∃ bl', RMs cy σ' am (o_tradeAt bs ru se pf hd ca evs ln z).2.2 bl' (o_tradeAt bs ru se pf hd ca evs ln z).1) ∧ Keep σ σ' (inM am) ∧ σ'.1 = σ.1) noX := by
  refine ct_start (by decide +kernel) hfl rfl (fun κ e1 e2 e3 C E NH => ?_)
  subst e1 e2 e3
  have C : Cx κ cX7_tradeAt 2 RX7 "tradeAt" 2 := C
  obtain ⟨-, -, -, -, hc, hs⟩ := id E
  show J κ σ [(0, .ref (am 0)), (1, vi (z))] 0 [] 0 0
  obtain ⟨hI1, gc1, gm1, gr1, gp1, gb1, go1, gf1, gg1, gt1, gz1, gk1, gl1, _, _, _, h01, ⟨hgc1, hgm1, hgr1, hgp1, hgb1, hgo1, hgf1, hgg1, hgt1, hgz1, hgk1, hgl1⟩, ⟨rfl, rfl, rfl⟩, hBn1, hRu1, hPr1, hTr1, hKi1, hLi1⟩ := id hM
  have hI := hI1
  have hnb61 := hBn1.1
  have kp0 : Keep σ σ (inM am) := Keep.rf
  have dm0 : σ.1 = σ.1 := rfl
  have htr := hTr1.1
  refine j_aload_n 0 C dX7_tradeAt_0 rfl rfl rfl ?_
  refine j_iload_n 1 C dX7_tradeAt_1 rfl rfl rfl ?_
  refine j_iconst C dX7_tradeAt_2 rfl ?_
  refine j_aload_n 0 C dX7_tradeAt_3 rfl rfl rfl ?_
  refine j_get C dX7_tradeAt_4 rfl fg_X7_90 h01 rfl ?_
  refine j_iconst C dX7_tradeAt_7 rfl ?_
  refine j_isub C dX7_tradeAt_8 rfl ?_
  refine j_callS (st' := [.ref (am 0)]) (As := [vi (z), vi (0), vi (hd.2.1 - 1)]) C dX7_tradeAt_9 rfl m_X7_58 rfl rfl (c_isIn (kL κ) hfl (kD κ) (kc κ) σ z 0 (hd.2.1 - 1) ⟨by omega, by omega⟩ ⟨by omega, by omega⟩ ⟨by omega, by omega⟩) rfl (by omega) (by omega) (by omega) (fun _ _ hx => hx.elim) (fun v3 τ2 hp4 => ?_)
  obtain ⟨rfl, hs9⟩ := hp4
  replace hs9 := hs9.symm
  subst hs9
  show J κ σ [(0, .ref (am 0)), (1, vi (z))] 12 [vi ((inI z 0 (hd.2.1 - 1))), .ref (am 0)] _ _
  refine j_if_ne (tgt := 19) C dX7_tradeAt_12 rfl rfl (inI_r _ _ _) (fun cc5 => ?_) (fun cc5 => ?_)
  · replace cc5 := inI_T cc5
    refine j_iconst C dX7_tradeAt_19 rfl ?_
    refine j_iconst C dX7_tradeAt_20 rfl ?_
    refine j_callV (st' := []) (As := [vi (0), vi (1)]) C dX7_tradeAt_21 rfl m_X7_62 h01 rfl rfl rfl (c_thr0 (kL κ) hfl (kD κ) (kc κ) σ am bs ru se pf hd ca evs ln bl th hM 1) rfl (by omega) (by omega) (by omega) (fun _ _ hx => hx.elim) (fun v7 τ6 hp8 => ?_)
    obtain ⟨rfl, hN9, hN9k, hN9d⟩ := hp8
    show J κ τ6 [(0, .ref (am 0)), (1, vi (z))] 24 [vi (0)] _ _
    have hN9K := kp0.tr hN9k
    have hN9D := hN9d.trans dm0
    obtain ⟨hI10, gc10, gm10, gr10, gp10, gb10, go10, gf10, gg10, gt10, gz10, gk10, gl10, _, _, _, h010, ⟨hgc10, hgm10, hgr10, hgp10, hgb10, hgo10, hgf10, hgg10, hgt10, hgz10, hgk10, hgl10⟩, ⟨rfl, rfl, rfl⟩, hBn10, hRu10, hPr10, hTr10, hKi10, hLi10⟩ := id hN9
    have hI := hI10
    have hnb610 := hBn10.1
    refine j_if_eq (tgt := 31) C dX7_tradeAt_24 rfl rfl ⟨by omega, by omega⟩ (fun _ => ?_) (fun cc11 => absurd cc11 (by decide))
    refine j_aload_n 0 C dX7_tradeAt_31 rfl rfl rfl ?_
    refine j_get C dX7_tradeAt_32 rfl fg_X7_34 h010 rfl ?_
    refine j_iload_n 1 C dX7_tradeAt_35 rfl rfl rfl ?_
    refine j_iald C dX7_tradeAt_36 rfl hgt10 ⟨by omega, by omega⟩ (by omega) (hTr10.2 z.toNat (by omega)) ?_
    have ho : o_tradeAt bs ru se pf hd ca evs ln z = (0, hd.1 z.toNat, (bs, ru, se, pf, hd, ca, evs, ln)) := by unfold o_tradeAt; rw [if_neg (by omega)]
    exact j_iret C E dX7_tradeAt_37 (by omega) (by omega) ⟨_, rfl, by rw [ho]; exact fun _ => rfl, ⟨_, by rw [ho]; exact hN9⟩, hN9K, hN9D⟩
  · replace cc5 := inI_F cc5
    refine j_iconst C dX7_tradeAt_15 rfl ?_
    refine j_goto (tgt := 20) C dX7_tradeAt_16 rfl ?_
    refine j_iconst C dX7_tradeAt_20 rfl ?_
    refine j_callV (st' := []) (As := [vi (1), vi (1)]) C dX7_tradeAt_21 rfl m_X7_62 h01 rfl rfl rfl (c_thr1 (kL κ) hfl (kD κ) (kc κ) σ am bs ru se pf hd ca evs ln bl th hM 1) rfl (by omega) (by omega) (by omega) (fun _ _ hx => hx.elim) (fun v13 τ12 hp14 => ?_)
    obtain ⟨rfl, hN15, hN15k, hN15d⟩ := hp14
    show J κ τ12 [(0, .ref (am 0)), (1, vi (z))] 24 [vi (1)] _ _
    have hN15K := kp0.tr hN15k
    have hN15D := hN15d.trans dm0
    obtain ⟨hI16, gc16, gm16, gr16, gp16, gb16, go16, gf16, gg16, gt16, gz16, gk16, gl16, _, _, _, h016, ⟨hgc16, hgm16, hgr16, hgp16, hgb16, hgo16, hgf16, hgg16, hgt16, hgz16, hgk16, hgl16⟩, ⟨rfl, rfl, rfl⟩, hBn16, hRu16, hPr16, hTr16, hKi16, hLi16⟩ := id hN15
    have hI := hI16
    have hnb616 := hBn16.1
    refine j_if_eq (tgt := 31) C dX7_tradeAt_24 rfl rfl ⟨by omega, by omega⟩ (fun cc17 => absurd cc17 (by decide)) (fun _ => ?_)
    refine j_iconst C dX7_tradeAt_27 rfl ?_
    refine j_goto (tgt := 37) C dX7_tradeAt_28 rfl ?_
    have ho : o_tradeAt bs ru se pf hd ca evs ln z = (1, 0, (bs, ru, se, pf, hd, ca, evs, ln)) := by unfold o_tradeAt; rw [if_pos (by omega)]
    exact j_iret C E dX7_tradeAt_37 (by omega) (by omega) ⟨_, rfl, by rw [ho]; exact fun h9 => absurd (show (1 : Int) = 0 from h9) (by decide), ⟨_, by rw [ho]; exact hN15⟩, hN15K, hN15D⟩
set_option maxHeartbeats 4000000 in
set_option maxRecDepth 20000 in
theorem m_eventKind (l : Launch) (hfl : l.stackTraces = false) (D : va_G) (cy : Nat → Nat) (σ : Wd) (am : Nat → Nat) (bs : List Bn) (ru : Nat → Int × Int) (se : Int) (pf : Nat → Int) (hd : Hd) (ca : Int) (evs : List Evt) (ln : List Int) (bl : Int × Int × Int) (th : Int) (hM : RM cy σ am bs ru se pf hd ca evs ln bl th) (z : Int) (hz9 : (-2147483648 ≤ z ∧ z < 2147483648)) : Ct l yX7_eventKind cX7_eventKind 2 (some .char) 2 0 0 D cy [.ref (am 0), vi (z)] σ (fun v σ' => ∃ rz : Int, v = some (vi rz) ∧ ((o_eventKind bs ru se pf hd ca evs ln z).1 = 0 → rz = (o_eventKind bs ru se pf hd ca evs ln z).2.1) ∧ (∃ bl', RMs cy σ' am (o_eventKind bs ru se pf hd ca evs ln z).2.2 bl' (o_eventKind bs ru se pf hd ca evs ln z).1) ∧ Keep σ σ' (inM am) ∧ σ'.1 = σ.1) noX := by
  refine ct_start (by decide +kernel) hfl rfl (fun κ e1 e2 e3 C E NH => ?_)
  subst e1 e2 e3
  have C : Cx κ cX7_eventKind 2 RX7 "eventKind" 2 := C
  obtain ⟨-, -, -, -, hc, hs⟩ := id E
  show J κ σ [(0, .ref (am 0)), (1, vi (z))] 0 [] 0 0
  obtain ⟨hI1, gc1, gm1, gr1, gp1, gb1, go1, gf1, gg1, gt1, gz1, gk1, gl1, _, _, _, h01, ⟨hgc1, hgm1, hgr1, hgp1, hgb1, hgo1, hgf1, hgg1, hgt1, hgz1, hgk1, hgl1⟩, ⟨rfl, rfl, rfl⟩, hBn1, hRu1, hPr1, hTr1, hKi1, hLi1⟩ := id hM
  have hI := hI1
  have hnb61 := hBn1.1
  have kp0 : Keep σ σ (inM am) := Keep.rf
  have dm0 : σ.1 = σ.1 := rfl
  have hki := hKi1.1
  have hli := hLi1.1
  refine j_aload_n 0 C dX7_eventKind_0 rfl rfl rfl ?_
  refine j_iload_n 1 C dX7_eventKind_1 rfl rfl rfl ?_
  refine j_iconst C dX7_eventKind_2 rfl ?_
  refine j_aload_n 0 C dX7_eventKind_3 rfl rfl rfl ?_
  refine j_get C dX7_eventKind_4 rfl fg_X7_80 h01 rfl ?_
  refine j_iconst C dX7_eventKind_7 rfl ?_
  refine j_isub C dX7_eventKind_8 rfl ?_
  refine j_callS (st' := [.ref (am 0)]) (As := [vi (z), vi (0), vi ((evs.length : Int) - 1)]) C dX7_eventKind_9 rfl m_X7_58 rfl rfl (c_isIn (kL κ) hfl (kD κ) (kc κ) σ z 0 ((evs.length : Int) - 1) ⟨by omega, by omega⟩ ⟨by omega, by omega⟩ ⟨by omega, by omega⟩) rfl (by omega) (by omega) (by omega) (fun _ _ hx => hx.elim) (fun v3 τ2 hp4 => ?_)
  obtain ⟨rfl, hs9⟩ := hp4
  replace hs9 := hs9.symm
  subst hs9
  show J κ σ [(0, .ref (am 0)), (1, vi (z))] 12 [vi ((inI z 0 ((evs.length : Int) - 1))), .ref (am 0)] _ _
  refine j_if_ne (tgt := 19) C dX7_eventKind_12 rfl rfl (inI_r _ _ _) (fun cc5 => ?_) (fun cc5 => ?_)
  · replace cc5 := inI_T cc5
    refine j_iconst C dX7_eventKind_19 rfl ?_
    refine j_iconst C dX7_eventKind_20 rfl ?_
    refine j_callV (st' := []) (As := [vi (0), vi (1)]) C dX7_eventKind_21 rfl m_X7_62 h01 rfl rfl rfl (c_thr0 (kL κ) hfl (kD κ) (kc κ) σ am bs ru se pf hd ca evs ln bl th hM 1) rfl (by omega) (by omega) (by omega) (fun _ _ hx => hx.elim) (fun v7 τ6 hp8 => ?_)
    obtain ⟨rfl, hN9, hN9k, hN9d⟩ := hp8
    show J κ τ6 [(0, .ref (am 0)), (1, vi (z))] 24 [vi (0)] _ _
    have hN9K := kp0.tr hN9k
    have hN9D := hN9d.trans dm0
    obtain ⟨hI10, gc10, gm10, gr10, gp10, gb10, go10, gf10, gg10, gt10, gz10, gk10, gl10, _, _, _, h010, ⟨hgc10, hgm10, hgr10, hgp10, hgb10, hgo10, hgf10, hgg10, hgt10, hgz10, hgk10, hgl10⟩, ⟨rfl, rfl, rfl⟩, hBn10, hRu10, hPr10, hTr10, hKi10, hLi10⟩ := id hN9
    have hI := hI10
    have hnb610 := hBn10.1
    refine j_if_eq (tgt := 32) C dX7_eventKind_24 rfl rfl ⟨by omega, by omega⟩ (fun _ => ?_) (fun cc11 => absurd cc11 (by decide))
    have hrg : 0 ≤ (evs.getD z.toNat (0, 0, 0, 0, 0, 0, 0)).1 ∧ (evs.getD z.toNat (0, 0, 0, 0, 0, 0, 0)).1 < 128 := (kiK hKi10 (i := z.toNat) (by omega)).2
    refine j_aload_n 0 C dX7_eventKind_32 rfl rfl rfl ?_
    refine j_get C dX7_eventKind_33 rfl fg_X7_41 h010 rfl ?_
    refine j_iload_n 1 C dX7_eventKind_36 rfl rfl rfl ?_
    refine j_cald C dX7_eventKind_37 rfl hgk10 ⟨by omega, by omega⟩ (by omega) (kiK hKi10 (i := z.toNat) (by omega)).1 ?_
    have ho : o_eventKind bs ru se pf hd ca evs ln z = (0, (evs.getD z.toNat (0, 0, 0, 0, 0, 0, 0)).1, (bs, ru, se, pf, hd, ca, evs, ln)) := by unfold o_eventKind; rw [if_neg (by omega)]
    exact j_zret C E dX7_eventKind_38 (z_nc hrg) (by omega) (by omega) ⟨_, rfl, by rw [ho]; exact fun _ => rfl, ⟨_, by rw [ho]; exact hN9⟩, hN9K, hN9D⟩
  · replace cc5 := inI_F cc5
    refine j_iconst C dX7_eventKind_15 rfl ?_
    refine j_goto (tgt := 20) C dX7_eventKind_16 rfl ?_
    refine j_iconst C dX7_eventKind_20 rfl ?_
    refine j_callV (st' := []) (As := [vi (1), vi (1)]) C dX7_eventKind_21 rfl m_X7_62 h01 rfl rfl rfl (c_thr1 (kL κ) hfl (kD κ) (kc κ) σ am bs ru se pf hd ca evs ln bl th hM 1) rfl (by omega) (by omega) (by omega) (fun _ _ hx => hx.elim) (fun v13 τ12 hp14 => ?_)
    obtain ⟨rfl, hN15, hN15k, hN15d⟩ := hp14
    show J κ τ12 [(0, .ref (am 0)), (1, vi (z))] 24 [vi (1)] _ _
    have hN15K := kp0.tr hN15k
    have hN15D := hN15d.trans dm0
    obtain ⟨hI16, gc16, gm16, gr16, gp16, gb16, go16, gf16, gg16, gt16, gz16, gk16, gl16, _, _, _, h016, ⟨hgc16, hgm16, hgr16, hgp16, hgb16, hgo16, hgf16, hgg16, hgt16, hgz16, hgk16, hgl16⟩, ⟨rfl, rfl, rfl⟩, hBn16, hRu16, hPr16, hTr16, hKi16, hLi16⟩ := id hN15
    have hI := hI16
    have hnb616 := hBn16.1
    refine j_if_eq (tgt := 32) C dX7_eventKind_24 rfl rfl ⟨by omega, by omega⟩ (fun cc17 => absurd cc17 (by decide)) (fun _ => ?_)
    refine j_bipush C dX7_eventKind_27 rfl (by decide) ?_
    refine j_goto (tgt := 38) C dX7_eventKind_29 rfl ?_
    have ho : o_eventKind bs ru se pf hd ca evs ln z = (1, 0, (bs, ru, se, pf, hd, ca, evs, ln)) := by unfold o_eventKind; rw [if_pos (by omega)]
    exact j_zret C E dX7_eventKind_38 (by decide) (by omega) (by omega) ⟨_, rfl, by rw [ho]; exact fun h9 => absurd (show (1 : Int) = 0 from h9) (by decide), ⟨_, by rw [ho]; exact hN15⟩, hN15K, hN15D⟩
set_option maxHeartbeats 4000000 in
set_option maxRecDepth 20000 in
theorem m_lineAt (l : Launch) (hfl : l.stackTraces = false) (D : va_G) (cy : Nat → Nat) (σ : Wd) (am : Nat → Nat) (bs : List Bn) (ru : Nat → Int × Int) (se : Int) (pf : Nat → Int) (hd : Hd) (ca : Int) (evs : List Evt) (ln : List Int) (bl : Int × Int × Int) (th : Int) (hM : RM cy σ am bs ru se pf hd ca evs ln bl th) (z : Int) (hz9 : (-2147483648 ≤ z ∧ z < 2147483648)) : Ct l yX7_lineAt cX7_lineAt 2 (some .char) 2 0 0 D cy [.ref (am 0), vi (z)] σ (fun v σ' => ∃ rz : Int, v = some (vi rz) ∧ ((o_lineAt bs ru se pf hd ca evs ln z).1 = 0 → rz = (o_lineAt bs ru se pf hd ca evs ln z).2.1) ∧ (∃ bl', RMs cy σ' am (o_lineAt bs ru se pf hd ca evs ln z).2.2 bl' (o_lineAt bs ru se pf hd ca evs ln z).1) ∧ Keep σ σ' (inM am) ∧ σ'.1 = σ.1) noX := by
  refine ct_start (by decide +kernel) hfl rfl (fun κ e1 e2 e3 C E NH => ?_)
  subst e1 e2 e3
  have C : Cx κ cX7_lineAt 2 RX7 "lineAt" 2 := C
  obtain ⟨-, -, -, -, hc, hs⟩ := id E
  show J κ σ [(0, .ref (am 0)), (1, vi (z))] 0 [] 0 0
  obtain ⟨hI1, gc1, gm1, gr1, gp1, gb1, go1, gf1, gg1, gt1, gz1, gk1, gl1, _, _, _, h01, ⟨hgc1, hgm1, hgr1, hgp1, hgb1, hgo1, hgf1, hgg1, hgt1, hgz1, hgk1, hgl1⟩, ⟨rfl, rfl, rfl⟩, hBn1, hRu1, hPr1, hTr1, hKi1, hLi1⟩ := id hM
  have hI := hI1
  have hnb61 := hBn1.1
  have kp0 : Keep σ σ (inM am) := Keep.rf
  have dm0 : σ.1 = σ.1 := rfl
  have hki := hKi1.1
  have hli := hLi1.1
  refine j_aload_n 0 C dX7_lineAt_0 rfl rfl rfl ?_
  refine j_iload_n 1 C dX7_lineAt_1 rfl rfl rfl ?_
  refine j_iconst C dX7_lineAt_2 rfl ?_
  refine j_aload_n 0 C dX7_lineAt_3 rfl rfl rfl ?_
  refine j_get C dX7_lineAt_4 rfl fg_X7_173 h01 rfl ?_
  refine j_iconst C dX7_lineAt_7 rfl ?_
  refine j_isub C dX7_lineAt_8 rfl ?_
  refine j_callS (st' := [.ref (am 0)]) (As := [vi (z), vi (0), vi ((ln.length : Int) - 1)]) C dX7_lineAt_9 rfl m_X7_58 rfl rfl (c_isIn (kL κ) hfl (kD κ) (kc κ) σ z 0 ((ln.length : Int) - 1) ⟨by omega, by omega⟩ ⟨by omega, by omega⟩ ⟨by omega, by omega⟩) rfl (by omega) (by omega) (by omega) (fun _ _ hx => hx.elim) (fun v3 τ2 hp4 => ?_)
  obtain ⟨rfl, hs9⟩ := hp4
  replace hs9 := hs9.symm
  subst hs9
  show J κ σ [(0, .ref (am 0)), (1, vi (z))] 12 [vi ((inI z 0 ((ln.length : Int) - 1))), .ref (am 0)] _ _
  refine j_if_ne (tgt := 19) C dX7_lineAt_12 rfl rfl (inI_r _ _ _) (fun cc5 => ?_) (fun cc5 => ?_)
  · replace cc5 := inI_T cc5
    refine j_iconst C dX7_lineAt_19 rfl ?_
    refine j_iconst C dX7_lineAt_20 rfl ?_
    refine j_callV (st' := []) (As := [vi (0), vi (1)]) C dX7_lineAt_21 rfl m_X7_62 h01 rfl rfl rfl (c_thr0 (kL κ) hfl (kD κ) (kc κ) σ am bs ru se pf hd ca evs ln bl th hM 1) rfl (by omega) (by omega) (by omega) (fun _ _ hx => hx.elim) (fun v7 τ6 hp8 => ?_)
    obtain ⟨rfl, hN9, hN9k, hN9d⟩ := hp8
    show J κ τ6 [(0, .ref (am 0)), (1, vi (z))] 24 [vi (0)] _ _
    have hN9K := kp0.tr hN9k
    have hN9D := hN9d.trans dm0
    obtain ⟨hI10, gc10, gm10, gr10, gp10, gb10, go10, gf10, gg10, gt10, gz10, gk10, gl10, _, _, _, h010, ⟨hgc10, hgm10, hgr10, hgp10, hgb10, hgo10, hgf10, hgg10, hgt10, hgz10, hgk10, hgl10⟩, ⟨rfl, rfl, rfl⟩, hBn10, hRu10, hPr10, hTr10, hKi10, hLi10⟩ := id hN9
    have hI := hI10
    have hnb610 := hBn10.1
    refine j_if_eq (tgt := 32) C dX7_lineAt_24 rfl rfl ⟨by omega, by omega⟩ (fun _ => ?_) (fun cc11 => absurd cc11 (by decide))
    have hrg : 0 ≤ ln.getD z.toNat 0 ∧ ln.getD z.toNat 0 < 128 := (liK hLi10 (i := z.toNat) (by omega)).2
    refine j_aload_n 0 C dX7_lineAt_32 rfl rfl rfl ?_
    refine j_get C dX7_lineAt_33 rfl fg_X7_45 h010 rfl ?_
    refine j_iload_n 1 C dX7_lineAt_36 rfl rfl rfl ?_
    refine j_cald C dX7_lineAt_37 rfl hgl10 ⟨by omega, by omega⟩ (by omega) (liK hLi10 (i := z.toNat) (by omega)).1 ?_
    have ho : o_lineAt bs ru se pf hd ca evs ln z = (0, ln.getD z.toNat 0, (bs, ru, se, pf, hd, ca, evs, ln)) := by unfold o_lineAt; rw [if_neg (by omega)]
    exact j_zret C E dX7_lineAt_38 (z_nc hrg) (by omega) (by omega) ⟨_, rfl, by rw [ho]; exact fun _ => rfl, ⟨_, by rw [ho]; exact hN9⟩, hN9K, hN9D⟩
  · replace cc5 := inI_F cc5
    refine j_iconst C dX7_lineAt_15 rfl ?_
    refine j_goto (tgt := 20) C dX7_lineAt_16 rfl ?_
    refine j_iconst C dX7_lineAt_20 rfl ?_
    refine j_callV (st' := []) (As := [vi (1), vi (1)]) C dX7_lineAt_21 rfl m_X7_62 h01 rfl rfl rfl (c_thr1 (kL κ) hfl (kD κ) (kc κ) σ am bs ru se pf hd ca evs ln bl th hM 1) rfl (by omega) (by omega) (by omega) (fun _ _ hx => hx.elim) (fun v13 τ12 hp14 => ?_)
    obtain ⟨rfl, hN15, hN15k, hN15d⟩ := hp14
    show J κ τ12 [(0, .ref (am 0)), (1, vi (z))] 24 [vi (1)] _ _
    have hN15K := kp0.tr hN15k
    have hN15D := hN15d.trans dm0
    obtain ⟨hI16, gc16, gm16, gr16, gp16, gb16, go16, gf16, gg16, gt16, gz16, gk16, gl16, _, _, _, h016, ⟨hgc16, hgm16, hgr16, hgp16, hgb16, hgo16, hgf16, hgg16, hgt16, hgz16, hgk16, hgl16⟩, ⟨rfl, rfl, rfl⟩, hBn16, hRu16, hPr16, hTr16, hKi16, hLi16⟩ := id hN15
    have hI := hI16
    have hnb616 := hBn16.1
    refine j_if_eq (tgt := 32) C dX7_lineAt_24 rfl rfl ⟨by omega, by omega⟩ (fun cc17 => absurd cc17 (by decide)) (fun _ => ?_)
    refine j_bipush C dX7_lineAt_27 rfl (by decide) ?_
    refine j_goto (tgt := 38) C dX7_lineAt_29 rfl ?_
    have ho : o_lineAt bs ru se pf hd ca evs ln z = (1, 0, (bs, ru, se, pf, hd, ca, evs, ln)) := by unfold o_lineAt; rw [if_pos (by omega)]
    exact j_zret C E dX7_lineAt_38 (by decide) (by omega) (by omega) ⟨_, rfl, by rw [ho]; exact fun h9 => absurd (show (1 : Int) = 0 from h9) (by decide), ⟨_, by rw [ho]; exact hN15⟩, hN15K, hN15D⟩
