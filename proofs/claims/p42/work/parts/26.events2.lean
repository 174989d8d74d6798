/-! GrainElevator: sell, transfer, dry -/
theorem sell_ev {bs : List Bn} {ru : Nat → Int × Int} {se : Int} {pf : Nat → Int} {hd : Hd} {evs : List Evt} {ln : List Int} (h : Ok bs ru se pf hd evs ln) (hl : evs.length < 80) {i : Nat} (hi : i < bs.length) {n : Int} (hn : 0 ≤ n ∧ n ≤ tot (gB bs i).2.2) : evOk bs (115, (i : Int), (i : Int), n, 0, 0, 0) ∧ apB (gradeF ru se) bs (115, (i : Int), (i : Int), n, 0, 0, 0) = outB bs i n ∧ Ok (apB (gradeF ru se) bs (115, (i : Int), (i : Int), n, 0, 0, 0)) ru se pf (hdF hd (totB (apB (gradeF ru se) bs (115, (i : Int), (i : Int), n, 0, 0, 0)))) (evs ++ [(115, (i : Int), (i : Int), n, 0, 0, 0)]) ln := by
  have hm := gB_mem (bs := bs) (i := (i : Int)) (by omega) (by omega)
  have hb := h.2.1 _ hm
  obtain ⟨b1, b2, b3⟩ := hb
  have hev : evOk bs (115, (i : Int), (i : Int), n, 0, 0, 0) := evOk.mk ⟨by omega, by omega⟩ ⟨by omega, by omega⟩ ⟨by omega, by omega⟩ ⟨by omega, by omega⟩ (fun c => absurd c (by decide)) (fun c => absurd c (by decide)) (fun c => absurd c (by decide)) (Or.inr (Or.inr (Or.inr (Or.inl rfl))))
  have ea : apB (gradeF ru se) bs (115, (i : Int), (i : Int), n, 0, 0, 0) = outB bs i n := by
    unfold apB
    rw [if_neg (show ¬ (115 : Int) = 108 by decide), if_neg (show ¬ (115 : Int) = 116 by decide), if_neg (show ¬ (115 : Int) = 100 by decide)]
    show outB (outB bs i n) i 0 = outB bs i n
    exact outB_0 (bs := outB bs i n) (i := (i : Int)) (by omega) (by rw [outB_len]; omega)
  refine ⟨hev, ea, h.ev hl hev _ ?_ ?_⟩
  · rw [ea]
    exact outB_ok h.2.1 (by omega) (by omega) hn.1 hn.2
  · rw [ea]
    have := outB_lenB_le (bs := bs) (i := (i : Int)) (by omega) (by omega) n
    have h3 := h.2.2.1
    omega
theorem trans_ev {bs : List Bn} {ru : Nat → Int × Int} {se : Int} {pf : Nat → Int} {hd : Hd} {evs : List Evt} {ln : List Int} (h : Ok bs ru se pf hd evs ln) (hl : evs.length < 80) {i j : Nat} (hi : i < bs.length) (hj : j < bs.length) (hij : i ≠ j) {n : Int} (hn : 0 ≤ n ∧ n ≤ tot (gB bs i).2.2) (hr : n ≤ (gB bs j).1 - tot (gB bs j).2.2) : evOk bs (116, (i : Int), (j : Int), n, 0, 0, 0) ∧ apB (gradeF ru se) bs (116, (i : Int), (j : Int), n, 0, 0, 0) = setL (outB bs i n) j ((gB bs j).2.2 ++ takeL n (fl (gB bs i))) ∧ Ok (apB (gradeF ru se) bs (116, (i : Int), (j : Int), n, 0, 0, 0)) ru se pf (hdF hd (totB (apB (gradeF ru se) bs (116, (i : Int), (j : Int), n, 0, 0, 0)))) (evs ++ [(116, (i : Int), (j : Int), n, 0, 0, 0)]) ln := by
  have hbi := h.2.1 _ (gB_mem (bs := bs) (i := (i : Int)) (by omega) (by omega))
  have hbj := h.2.1 _ (gB_mem (bs := bs) (i := (j : Int)) (by omega) (by omega))
  obtain ⟨b1, b2, b3⟩ := hbi
  obtain ⟨c1, c2, c3⟩ := hbj
  have hok : lysOk (fl (gB bs i)) := fl_ok b2
  have ht : tot (fl (gB bs i)) = tot (gB bs i).2.2 := sum_fl _ _
  have ho := outB_ok h.2.1 (i := (i : Int)) (by omega) (by omega) hn.1 hn.2
  have hgo : gB (outB bs i n) j = gB bs j := by
    unfold outB
    rw [gB_set (by omega) (by omega) (by omega), if_neg (by omega)]
  have hLj := lenB_setL (bs := outB bs i n) (i := (j : Int)) (by omega) (by rw [outB_len]; omega) ((gB bs j).2.2 ++ takeL n (fl (gB bs i)))
  have hLi := outB_lenB (bs := bs) (i := (i : Int)) (by omega) (by omega) n
  have hdt := drop_take_len (fl (gB bs i)) n
  rw [fl_len] at hdt
  rw [hgo, List.length_append] at hLj
  have h3 := h.2.2.1
  have hlen : lenB (setL (outB bs i n) j ((gB bs j).2.2 ++ takeL n (fl (gB bs i)))) ≤ evs.length + 1 := by omega
  have hall : ∀ b ∈ setL (outB bs i n) j ((gB bs j).2.2 ++ takeL n (fl (gB bs i))), BnOk b := by
    refine setL_ok ho (by omega) (by rw [outB_len]; omega) ?_ ?_
    · intro y hy
      rcases List.mem_append.mp hy with hy | hy
      · exact c2 y hy
      · exact take_ok _ _ hok y hy
    · rw [hgo]
      have e := take_tot _ _ hok hn.1 (by omega)
      unfold tot at e hr ⊢
      rw [sumL_app]
      omega
  have hmj := gB_mem (bs := setL (outB bs i n) j ((gB bs j).2.2 ++ takeL n (fl (gB bs i)))) (i := (j : Int)) (by omega) (by rw [setL_len, outB_len]; omega)
  have hlj := len_lenB hmj
  rw [gB_set (by omega) (by rw [outB_len]; omega) (by omega), if_pos rfl] at hlj
  have hev : evOk bs (116, (i : Int), (j : Int), n, 0, 0, 0) := evOk.mk ⟨by omega, by omega⟩ ⟨by omega, by omega⟩ ⟨by omega, by omega⟩ ⟨by omega, by omega⟩ (fun c => absurd c (by decide)) (fun _ => ⟨by omega, by have z : ((gB bs j).2.2 ++ takeL n (fl (gB bs i))).length ≤ _ := hlj; omega⟩) (fun c => absurd c (by decide)) (Or.inr (Or.inl rfl))
  have ea : apB (gradeF ru se) bs (116, (i : Int), (j : Int), n, 0, 0, 0) = setL (outB bs i n) j ((gB bs j).2.2 ++ takeL n (fl (gB bs i))) := by
    unfold apB
    rw [if_neg (show ¬ (116 : Int) = 108 by decide), if_pos rfl]
  refine ⟨hev, ea, h.ev hl hev _ ?_ ?_⟩
  · rw [ea]; exact hall
  · rw [ea]; exact hlen
theorem dry_ev {bs : List Bn} {ru : Nat → Int × Int} {se : Int} {pf : Nat → Int} {hd : Hd} {evs : List Evt} {ln : List Int} (h : Ok bs ru se pf hd evs ln) (hl : evs.length < 80) {i : Nat} (hi : i < bs.length) {x : Int} (hx : 80 ≤ x ∧ x ≤ 300) : evOk bs (100, (i : Int), (i : Int), 0, 0, x, 0) ∧ apB (gradeF ru se) bs (100, (i : Int), (i : Int), 0, 0, x, 0) = setL bs i (dryL (gradeF ru se) x (gB bs i).2.2) ∧ Ok (apB (gradeF ru se) bs (100, (i : Int), (i : Int), 0, 0, x, 0)) ru se pf (hdF hd (totB (apB (gradeF ru se) bs (100, (i : Int), (i : Int), 0, 0, x, 0)))) (evs ++ [(100, (i : Int), (i : Int), 0, 0, x, 0)]) ln := by
  obtain ⟨b1, b2, b3⟩ := h.2.1 _ (gB_mem (bs := bs) (i := (i : Int)) (by omega) (by omega))
  have hev : evOk bs (100, (i : Int), (i : Int), 0, 0, x, 0) := evOk.mk ⟨by omega, by omega⟩ ⟨by omega, by omega⟩ ⟨by decide, by decide⟩ ⟨by decide, by decide⟩ (fun c => absurd c (by decide)) (fun c => absurd c (by decide)) (fun _ => hx) (Or.inr (Or.inr (Or.inl rfl)))
  have ea : apB (gradeF ru se) bs (100, (i : Int), (i : Int), 0, 0, x, 0) = setL bs i (dryL (gradeF ru se) x (gB bs i).2.2) := by
    unfold apB
    rw [if_neg (show ¬ (100 : Int) = 108 by decide), if_neg (show ¬ (100 : Int) = 116 by decide), if_pos rfl]
  refine ⟨hev, ea, h.ev hl hev _ ?_ ?_⟩
  · rw [ea]
    refine setL_ok h.2.1 (by omega) (by omega) (dryL_ok (gradeF_in ru se) hx b2) ?_
    have := dryL_tot (gradeF ru se) hx b2
    omega
  · rw [ea]
    have h2 := lenB_setL (bs := bs) (i := (i : Int)) (by omega) (by omega) (dryL (gradeF ru se) x (gB bs i).2.2)
    have h3 := dryL_len (gradeF ru se) x (gB bs i).2.2
    have h4 := h.2.2.1
    omega
theorem RX.bin {cy : Nat → Nat} {σ : Wd} {tg ad : Nat → Nat} {bs : List Bn} {ru : Nat → Int × Int} {se : Int} {pf : Nat → Int} {hd : Hd} {ca : Int} {evs : List Evt} {ln : List Int} (h : RX cy σ tg ad bs ru se pf hd ca evs ln) {ad0 : Nat → Nat} (hA : ∀ k, 100 ≤ k → k < 300 → ad k = ad0 k) {i : Nat} (hi : i < bs.length) : BinR cy σ (bq ad0 100 i 0) (bq ad0 100 i 1) (bq ad0 100 i 2) (bq ad0 100 i 3) (bq ad0 100 i 4) (gB bs i) := by
  have h6 := h.2.1.2.1
  have hb := (h.2.1.2.2 i hi).1
  unfold bq at hb ⊢
  rw [hA _ (by omega) (by omega), hA _ (by omega) (by omega), hA _ (by omega) (by omega), hA _ (by omega) (by omega), hA _ (by omega) (by omega)] at hb
  exact hb
set_option maxHeartbeats 8000000 in
set_option maxRecDepth 20000 in
theorem c_sell (l : Launch) (hfl : l.stackTraces = false) (D : va_G) (cy : Nat → Nat) (σ : Wd) (tg ad : Nat → Nat) (bs : List Bn) (ru : Nat → Int × Int) (se : Int) (pf : Nat → Int) (hd : Hd) (ca : Int) (evs : List Evt) (ln : List Int) (hX0 : RX cy σ tg ad bs ru se pf hd ca evs ln) (i : Nat) (hi : i < bs.length) (n : Int) (hn9 : (-2147483648 ≤ n ∧ n < 2147483648)) (hn : 1 ≤ n ∧ n ≤ 5000) (hr : n ≤ tot (gB bs i).2.2) (hl : evs.length < 80) : Ct l yX6_sell cX6_sell 6 (some .int) 7 3 264 D cy [.ref (ad 0), vi ((i : Int)), vi (n)] σ (fun v σ' => v = some (vi (sumL (cf pf) (takeL n (fl (gB bs i))))) ∧ ∃ tg' ad' : Nat → Nat, RX cy σ' tg' ad' (apB (gradeF ru se) bs (115, (i : Int), (i : Int), n, 0, 0, 0)) ru se pf (hdF hd (totB (apB (gradeF ru se) bs (115, (i : Int), (i : Int), n, 0, 0, 0)))) (ca + sumL (cf pf) (takeL n (fl (gB bs i)))) (evs ++ [(115, (i : Int), (i : Int), n, 0, 0, 0)]) ln ∧ (∀ y, y ∈ σ.1 → tg' y = tg y) ∧ ad' 0 = ad 0 ∧ Keep σ σ' (fun y => tg y < 1000) ∧ ∀ y, y ∈ σ.1 → y ∈ σ'.1) noX := by
  refine ct_start (by decide +kernel) hfl rfl (fun κ e1 e2 e3 C E NH => ?_)
  subst e1 e2 e3
  have C : Cx κ cX6_sell 6 RX6 "sell" 7 := C
  obtain ⟨-, -, -, -, hc, hs⟩ := id E
  show J κ σ [(0, .ref (ad 0)), (1, vi ((i : Int))), (2, vi (n))] 0 [] 0 0
  have hXX := hX0
  obtain ⟨⟨x1, x2⟩, hB, ⟨bsA, hA, hAe⟩, hEv, hX, hO⟩ := hXX
  obtain ⟨⟨hR, t7, t8, t9⟩, ⟨hPr, t10⟩, ⟨hH, t11, t12⟩, cap0, hSb, t13, t14⟩ := id hX
  have hL1 := hB.1.1
  have hL5 := hEv.1.1
  have hbl := bins_len ad 100 bs.length
  have hel9 := evl_len ad evs.length
  have h6 := hB.2.1
  obtain ⟨⟨hc1, hc2⟩, hc3, hc4⟩ := hO.2.2.2.1
  have hev80 := hO.2.2.1.2
  have hpr := hO.2.2.2.2.1
  have hRo := hR.1
  have hHo := hH.1
  obtain ⟨ml0, g0, hSc, -⟩ := id hSb
  have hSo := hSc.1
  have hTb := totB_in hO.2.1
  obtain ⟨m91, hl91, -⟩ := id hL1
  obtain ⟨m92, hl92, -⟩ := id hL5
  obtain ⟨⟨cap, mf, ly⟩, hg7⟩ : ∃ z, gB bs (i : Int) = z := ⟨_, rfl⟩
  have hb7 := hB.at hi hg7
  have hbk7 := hO.2.1 _ (gB_mem (bs := bs) (i := (i : Int)) (by omega) (by omega))
  rw [hg7] at hbk7
  obtain ⟨hcp7, hly7, htc7⟩ := hbk7
  dsimp only at hcp7 hly7 htc7
  have ht07 := tot_0 hly7
  obtain ⟨old7, ga7, gb7, gc7, gd7, ⟨hh7, -, -⟩, -, hcn7, -, hok7⟩ := id hb7
  dsimp only at hh7 hcn7 hok7
  have hev5 := sell_ev hO hl hi ⟨by omega, hr⟩
  rw [hg7] at hr
  dsimp only at hr
  have hgf : fl (gB bs i) = fl (cap, mf, ly) := by rw [hg7]
  rw [hgf] at E
  refine j_aload_n 0 C dX6_sell_0 rfl rfl rfl ?_
  refine j_get C dX6_sell_1 rfl fg_X6_12 x1 rfl ?_
  refine j_iload_n 1 C dX6_sell_4 rfl rfl rfl ?_
  refine j_callS (st' := []) (As := [.ref (ad 1), vi ((i : Int))]) C dX6_sell_5 rfl m_X6_75 rfl rfl (c_biG (kL κ) hfl (kD κ) (kc κ) σ (ad 1) (ad 2) _ hL1 i _ (bins_at hi) _ hh7) rfl (by omega) (by omega) (by omega) (fun _ _ hx => hx.elim) (fun v2 τ1 hp3 => ?_)
  obtain ⟨rfl, hs9⟩ := hp3
  replace hs9 := hs9.symm
  subst hs9
  show J κ σ [(0, .ref (ad 0)), (1, vi ((i : Int))), (2, vi (n))] 8 [.ref (bq ad 100 i 0)] _ _
  refine j_astore_n (lv' := [(0, .ref (ad 0)), (1, vi ((i : Int))), (2, vi (n)), (3, .ref (bq ad 100 i 0))]) [1, 2, 3, 0] C dX6_sell_8 rfl rfl rfl rfl ?_
  refine j_iload_n 2 C dX6_sell_9 rfl rfl rfl ?_
  refine j_iconst C dX6_sell_10 rfl ?_
  refine j_sipush C dX6_sell_11 rfl (by decide) ?_
  refine j_callS (st' := []) (As := [vi (n), vi (1), vi (5000)]) C dX6_sell_14 rfl m_X6_51 rfl rfl (c_crG (kL κ) hfl (kD κ) (kc κ) σ n 1 5000 hn9 ⟨by omega, by omega⟩ hn) rfl (by omega) (by omega) (by omega) (fun _ _ hx => hx.elim) (fun v5 τ4 hp6 => ?_)
  obtain ⟨rfl, hs9⟩ := hp6
  replace hs9 := hs9.symm
  subst hs9
  show J κ σ [(0, .ref (ad 0)), (1, vi ((i : Int))), (2, vi (n)), (3, .ref (bq ad 100 i 0))] 17 [] _ _
  refine j_aload_n 3 C dX6_sell_17 rfl rfl rfl ?_
  refine j_iload_n 2 C dX6_sell_18 rfl rfl rfl ?_
  refine j_callS (st' := []) (As := [.ref (bq ad 100 i 0), vi (n)]) C dX6_sell_19 rfl m_X6_115 rfl rfl (c_csG (kL κ) hfl (kD κ) (kc κ) σ (bq ad 100 i 0) (bq ad 100 i 1) (bq ad 100 i 2) (bq ad 100 i 3) (bq ad 100 i 4) cap old7 ly.length (tot ly) (b01 mf) hh7 n ⟨⟨by omega, by omega⟩, ⟨by omega, by omega⟩, ⟨by omega, by omega⟩⟩ ⟨by omega, by omega⟩ hr) rfl (by omega) (by omega) (by omega) (fun _ _ hx => hx.elim) (fun v8 τ7 hp9 => ?_)
  obtain ⟨rfl, hs9⟩ := hp9
  replace hs9 := hs9.symm
  subst hs9
  show J κ σ [(0, .ref (ad 0)), (1, vi ((i : Int))), (2, vi (n)), (3, .ref (bq ad 100 i 0))] 22 [] _ _
  refine j_aload_n 0 C dX6_sell_22 rfl rfl rfl ?_
  refine j_callV (st' := []) (As := []) C dX6_sell_23 rfl m_X6_102 x1 rfl rfl rfl (c_ceG (kL κ) hfl (kD κ) (kc κ) σ (ad 0) (ad 1) (ad 3) (ad 5) (ad 7) (ad 10) (ad 11) (ad 13) ca x1 (ad 6) _ hL5 (by rw [hel9]; exact hl)) rfl (by omega) (by omega) (by omega) (fun _ _ hx => hx.elim) (fun v11 τ10 hp12 => ?_)
  obtain ⟨rfl, hs9⟩ := hp12
  replace hs9 := hs9.symm
  subst hs9
  show J κ σ [(0, .ref (ad 0)), (1, vi ((i : Int))), (2, vi (n)), (3, .ref (bq ad 100 i 0))] 26 [] _ _
  have kp0 : Keep σ σ (fun _ => False) := Keep.rf
  have dm0 : σ.1 = σ.1 := rfl
  refine j_new C dX6_sell_26 rfl na_X6_118 (by omega) (by omega) (k' := 1) (n' := 7) (by first | rfl | omega) (by first | rfl | omega) (fun fo τ13 nq15 ee14 => ?_)
  have u16 := x1.old' ee14 nq15
  have u17 := hl91.old' ee14 nq15
  have u18 := hl92.old' ee14 nq15
  have u19 := hRo.old' ee14 nq15
  have u20 := hPr.old' ee14 nq15
  have u21 := hHo.old' ee14 nq15
  have u22 := hH.2.old' ee14 nq15
  have u23 := hSo.old' ee14 nq15
  have u24 := hh7.old' ee14 nq15
  have u25 : has τ13 fo (.inr (3, [.null, .null, vi (0), vi (0), vi (0), vi (0), vi (0)])) := has.fresh' ee14
  have kp26 := kp0.new ee14 nq15
  have dm27 := (dom_new ee14).trans (congrArg (· ++ [fo]) dm0)
  refine j_dup C dX6_sell_29 rfl rfl ?_
  refine j_aload_n 3 C dX6_sell_30 rfl rfl rfl ?_
  refine j_aload_n 0 C dX6_sell_31 rfl rfl rfl ?_
  refine j_get C dX6_sell_32 rfl fg_X6_29 u16 rfl ?_
  have hbFfo := hb7.keep kp26 (fun _ _ z => z)
  have hpFfo := kp26 _ _ hPr (fun z => z)
  have nnfo : fo ∉ σ.1 := fun z => nq15 (by rw [dm0]; first | exact z | simp [z])
  refine j_callI (st' := [.ref fo]) (As := [.ref (bq ad 100 i 0), .ref (ad 10)]) C dX6_sell_35 rfl m_X6_120 rfl rfl (c_flowInit (kL κ) hfl (kD κ) (kc κ) τ13 (bq ad 100 i 0) (bq ad 100 i 1) (bq ad 100 i 2) (bq ad 100 i 3) (bq ad 100 i 4) cap mf ly hbFfo fo (ad 10) pf hpFfo u25) rfl (by omega) (by omega) (by omega) (fun _ _ hx => hx.elim) (fun v29 τ28 hp30 => ?_)
  obtain ⟨rfl, hFfo, hkFfo, hdFfo⟩ := hp30
  show J κ τ28 [(0, .ref (ad 0)), (1, vi ((i : Int))), (2, vi (n)), (3, .ref (bq ad 100 i 0))] 38 [.ref fo] _ _
  have kffo : Keep σ τ28 (fun _ => False) := kp26.tr2 hkFfo (fun y z => Or.inr (by rw [show y = fo from z]; exact nnfo))
  have dnfo := hdFfo.trans dm27
  have x15 := kffo _ _ x1 (fun z => z)
  obtain ⟨i9, u9, hfo, -⟩ := id hFfo
  refine j_astore (lv' := [(0, .ref (ad 0)), (1, vi ((i : Int))), (2, vi (n)), (3, .ref (bq ad 100 i 0)), (4, .ref fo)]) [1, 2, 3, 4, 0] C dX6_sell_38 rfl rfl rfl ?_
  refine j_aload 4 C dX6_sell_40 rfl rfl ?_
  refine j_iload_n 2 C dX6_sell_42 rfl rfl rfl ?_
  have hbG := hb7.keep kffo (fun _ _ z => z)
  have hpG := kffo _ _ hPr (fun z => z)
  refine j_callV (st' := []) (As := [vi (n)]) C dX6_sell_43 rfl m_X6_123 hfo rfl rfl rfl (c_goOn (kL κ) hfl (kD κ) (kc κ) τ28 (bq ad 100 i 0) (bq ad 100 i 1) (bq ad 100 i 2) (bq ad 100 i 3) (bq ad 100 i 4) cap mf ly hbG fo (ad 10) pf 0 n hpG hFfo ⟨by omega, by omega⟩) rfl (by omega) (by omega) (by omega) (fun _ _ hx => hx.elim) (fun v33 τ32 hp34 => ?_)
  obtain ⟨rfl, hFw31, hFw31k, hFw31d⟩ := hp34
  show J κ τ32 [(0, .ref (ad 0)), (1, vi ((i : Int))), (2, vi (n)), (3, .ref (bq ad 100 i 0)), (4, .ref fo)] 46 [] _ _
  have hFw31K : Keep σ τ32 (fun _ => False) := kffo.tr2 hFw31k (fun y z => Or.inr (by rw [show y = fo from z]; exact nnfo))
  have hFw31D := hFw31d.trans dnfo
  rw [show min (0 + n) (tot ly) = n by omega] at hFw31
  obtain ⟨i8, u8, hfo2, -⟩ := id hFw31
  obtain ⟨pd, hpd⟩ : ∃ z, sumL (cf pf) (takeL n (fl (cap, mf, ly))) = z := ⟨_, rfl⟩
  have hokf : lysOk (fl (cap, mf, ly)) := fl_ok (b := (cap, mf, ly)) hly7
  have hcin := cost_in hpr (take_ok (fl (cap, mf, ly)) n hokf)
  have httk := take_tot (fl (cap, mf, ly)) n hokf (by omega) (by rw [show tot (fl (cap, mf, ly)) = tot ly from sum_fl _ (cap, mf, ly)]; exact hr)
  rw [hpd] at hcin hfo2 E
  rw [httk] at hcin
  refine j_aload 4 C dX6_sell_46 rfl rfl ?_
  refine j_get C dX6_sell_48 rfl fg_X6_127 hfo2 rfl ?_
  refine j_istore (lv' := [(0, .ref (ad 0)), (1, vi ((i : Int))), (2, vi (n)), (3, .ref (bq ad 100 i 0)), (4, .ref fo), (5, vi (pd))]) [1, 2, 3, 4, 5, 0] C dX6_sell_51 rfl rfl rfl ?_
  refine j_aload_n 0 C dX6_sell_53 rfl rfl rfl ?_
  refine j_iload_n 1 C dX6_sell_54 rfl rfl rfl ?_
  refine j_iload_n 2 C dX6_sell_55 rfl rfl rfl ?_
  have hX5 := hX0.keep hFw31K (fun _ _ z => z.elim)
  refine j_callS (st' := [.ref (ad 0)]) (As := [vi ((i : Int)), vi (n)]) C dX6_sell_56 rfl m_X6_130 rfl rfl (c_ofSale (kL κ) hfl (kD κ) (kc κ) τ32 (i : Int) n) rfl (by omega) (by omega) (by omega) (fun _ _ hx => hx.elim) (fun v36 τ35 hp37 => ?_)
  obtain ⟨e, rfl, hE1, hE2, hE3, hE4⟩ := hp37
  show J κ τ35 [(0, .ref (ad 0)), (1, vi ((i : Int))), (2, vi (n)), (3, .ref (bq ad 100 i 0)), (4, .ref fo), (5, vi (pd))] 59 [.ref e, .ref (ad 0)] 2 14
  obtain ⟨ad1, ha1⟩ : ∃ f, updN ad (300 + evs.length) e = f := ⟨_, rfl⟩
  obtain ⟨tg1, htg1⟩ : ∃ f, updN tg e (300 + evs.length) = f := ⟨_, rfl⟩
  have hadn1 : ∀ k, k ≠ 300 + evs.length → ad1 k = ad k := fun k hk => by rw [← ha1]; exact updN_n hk
  have hade : ad1 (300 + evs.length) = e := by rw [← ha1]; exact updN_s
  have htge : tg1 e = 300 + evs.length := by rw [← htg1]; exact updN_s
  have hT1 : ∀ y, y ∈ τ32.1 → tg1 y = tg y := fun y hy => by rw [← htg1]; exact updN_n (fun z => hE2 (by rw [← z]; exact hy))
  have hX1 := (hX5.retag hT1 hadn1).keep hE3 (fun _ _ z => z.elim)
  refine j_iload 5 C dX6_sell_59 rfl rfl ?_
  refine j_eq_st (st' := [vi (pd), .ref (ad1 (300 + evs.length)), .ref (ad1 0)]) (by rw [hade, hadn1 0 (by omega)]) ?_
  have hx1o := hX1.1.1
  refine j_callV (st' := []) (As := [.ref (ad1 (300 + evs.length)), vi (pd)]) C dX6_sell_61 rfl m_X6_111 hx1o rfl rfl rfl (c_happen (kL κ) hfl (kD κ) (kc κ) τ35 tg1 ad1 bs ru se pf hd ca evs ln hX1 (115, (i : Int), (i : Int), n, 0, 0, 0) (by rw [hade]; exact hE1) (by rw [hade]; exact htge) hl hev5.1 (pd) ⟨by omega, by omega⟩ hev5.2.2) rfl (by omega) (by omega) (by omega) (fun _ _ hx => hx.elim) (fun v39 τ38 hp40 => ?_)
  obtain ⟨rfl, tg', ad', hR9, hT9, hA9, hK9, hM9⟩ := hp40
  show J κ τ38 [(0, .ref (ad 0)), (1, vi ((i : Int))), (2, vi (n)), (3, .ref (bq ad 100 i 0)), (4, .ref fo), (5, vi (pd))] 64 [] 3 264
  have hm0 : ∀ y, y ∈ τ32.1 → y ∈ τ35.1 := fun y hy => by rw [hE4]; exact List.mem_append_left _ hy
  have hT8 : ∀ y, y ∈ τ32.1 → tg' y = tg y := fun y hy => (hT9 y (hm0 y hy)).trans (hT1 y hy)
  have hK8 : Keep τ32 τ38 (fun y => tg y < 1000) := (hE3.mono (fun _ z => z.elim)).tr2 hK9 (fun y z => (Classical.em (y ∈ τ32.1)).elim (fun hy => Or.inl (by show tg y < 1000; rw [← hT1 y hy]; exact z)) Or.inr)
  have hm5 : ∀ y, y ∈ σ.1 → y ∈ τ32.1 := fun y hy => by rw [hFw31D]; first | exact hy | simp [hy]
  refine j_iload 5 C dX6_sell_64 rfl rfl ?_
  exact j_iret C E dX6_sell_66 (by omega) (by omega) ⟨rfl, tg', ad', hR9, fun y hy => hT8 y (hm5 y hy), (hA9 0 (by decide)).trans (hadn1 0 (by omega)), (hFw31K.mono (fun _ z => z.elim)).tr2 hK8 (fun y z => Or.inl z), fun y hy => hM9 y (hm0 y (hm5 y hy))⟩
set_option maxHeartbeats 8000000 in
set_option maxRecDepth 20000 in
theorem c_transfer (l : Launch) (hfl : l.stackTraces = false) (D : va_G) (cy : Nat → Nat) (σ : Wd) (tg ad : Nat → Nat) (bs : List Bn) (ru : Nat → Int × Int) (se : Int) (pf : Nat → Int) (hd : Hd) (ca : Int) (evs : List Evt) (ln : List Int) (hX0 : RX cy σ tg ad bs ru se pf hd ca evs ln) (i : Nat) (hi : i < bs.length) (j : Nat) (hj : j < bs.length) (hij : i ≠ j) (n : Int) (hn9 : (-2147483648 ≤ n ∧ n < 2147483648)) (hn : 1 ≤ n ∧ n ≤ 5000) (hs9 : n ≤ tot (gB bs i).2.2) (hr : n ≤ (gB bs j).1 - tot (gB bs j).2.2) (hl : evs.length < 80) : Ct l yX6_transfer cX6_transfer 7 (some .int) 7 2 257 D cy [.ref (ad 0), vi ((i : Int)), vi ((j : Int)), vi (n)] σ (fun v σ' => v = some (vi (((gB (apB (gradeF ru se) bs (116, (i : Int), (j : Int), n, 0, 0, 0)) j).2.2.length : Int) - ((gB bs j).2.2.length : Int))) ∧ ∃ tg' ad' : Nat → Nat, RX cy σ' tg' ad' (apB (gradeF ru se) bs (116, (i : Int), (j : Int), n, 0, 0, 0)) ru se pf (hdF hd (totB (apB (gradeF ru se) bs (116, (i : Int), (j : Int), n, 0, 0, 0)))) (ca) (evs ++ [(116, (i : Int), (j : Int), n, 0, 0, 0)]) ln ∧ (∀ y, y ∈ σ.1 → tg' y = tg y) ∧ ad' 0 = ad 0 ∧ Keep σ σ' (fun y => tg y < 1000) ∧ ∀ y, y ∈ σ.1 → y ∈ σ'.1) noX := by
  refine ct_start (by decide +kernel) hfl rfl (fun κ e1 e2 e3 C E NH => ?_)
  subst e1 e2 e3
  have C : Cx κ cX6_transfer 7 RX6 "transfer" 7 := C
  obtain ⟨-, -, -, -, hc, hs⟩ := id E
  show J κ σ [(0, .ref (ad 0)), (1, vi ((i : Int))), (2, vi ((j : Int))), (3, vi (n))] 0 [] 0 0
  have hXX := hX0
  obtain ⟨⟨x1, x2⟩, hB, ⟨bsA, hA, hAe⟩, hEv, hX, hO⟩ := hXX
  obtain ⟨⟨hR, t7, t8, t9⟩, ⟨hPr, t10⟩, ⟨hH, t11, t12⟩, cap0, hSb, t13, t14⟩ := id hX
  have hL1 := hB.1.1
  have hL5 := hEv.1.1
  have hbl := bins_len ad 100 bs.length
  have hel9 := evl_len ad evs.length
  have h6 := hB.2.1
  obtain ⟨⟨hc1, hc2⟩, hc3, hc4⟩ := hO.2.2.2.1
  have hev80 := hO.2.2.1.2
  have hpr := hO.2.2.2.2.1
  have hRo := hR.1
  have hHo := hH.1
  obtain ⟨ml0, g0, hSc, -⟩ := id hSb
  have hSo := hSc.1
  have hTb := totB_in hO.2.1
  obtain ⟨m91, hl91, -⟩ := id hL1
  obtain ⟨m92, hl92, -⟩ := id hL5
  obtain ⟨⟨cap, mf, ly⟩, hg7⟩ : ∃ z, gB bs (i : Int) = z := ⟨_, rfl⟩
  have hb7 := hB.at hi hg7
  have hbk7 := hO.2.1 _ (gB_mem (bs := bs) (i := (i : Int)) (by omega) (by omega))
  rw [hg7] at hbk7
  obtain ⟨hcp7, hly7, htc7⟩ := hbk7
  dsimp only at hcp7 hly7 htc7
  have ht07 := tot_0 hly7
  obtain ⟨old7, ga7, gb7, gc7, gd7, ⟨hh7, -, -⟩, -, hcn7, -, hok7⟩ := id hb7
  dsimp only at hh7 hcn7 hok7
  obtain ⟨⟨cap', mf', lz⟩, hg8⟩ : ∃ z, gB bs (j : Int) = z := ⟨_, rfl⟩
  have hb8 := hB.at hj hg8
  have hbk8 := hO.2.1 _ (gB_mem (bs := bs) (i := (j : Int)) (by omega) (by omega))
  rw [hg8] at hbk8
  obtain ⟨hcp8, hly8, htc8⟩ := hbk8
  dsimp only at hcp8 hly8 htc8
  have ht08 := tot_0 hly8
  obtain ⟨old8, ga8, gb8, gc8, gd8, ⟨hh8, -, -⟩, -, hcn8, -, hok8⟩ := id hb8
  dsimp only at hh8 hcn8 hok8
  have hev5 := trans_ev hO hl hi hj hij ⟨by omega, hs9⟩ hr
  rw [hg7] at hs9
  rw [hg8] at hr E
  dsimp only at hs9 hr
  refine j_aload_n 0 C dX6_transfer_0 rfl rfl rfl ?_
  refine j_get C dX6_transfer_1 rfl fg_X6_12 x1 rfl ?_
  refine j_iload_n 1 C dX6_transfer_4 rfl rfl rfl ?_
  refine j_callS (st' := []) (As := [.ref (ad 1), vi ((i : Int))]) C dX6_transfer_5 rfl m_X6_75 rfl rfl (c_biG (kL κ) hfl (kD κ) (kc κ) σ (ad 1) (ad 2) _ hL1 i _ (bins_at hi) _ hh7) rfl (by omega) (by omega) (by omega) (fun _ _ hx => hx.elim) (fun v2 τ1 hp3 => ?_)
  obtain ⟨rfl, hs9⟩ := hp3
  replace hs9 := hs9.symm
  subst hs9
  show J κ σ [(0, .ref (ad 0)), (1, vi ((i : Int))), (2, vi ((j : Int))), (3, vi (n))] 8 [.ref (bq ad 100 i 0)] _ _
  refine j_astore (lv' := [(0, .ref (ad 0)), (1, vi ((i : Int))), (2, vi ((j : Int))), (3, vi (n)), (4, .ref (bq ad 100 i 0))]) [1, 2, 3, 4, 0] C dX6_transfer_8 rfl rfl rfl ?_
  refine j_aload_n 0 C dX6_transfer_10 rfl rfl rfl ?_
  refine j_get C dX6_transfer_11 rfl fg_X6_12 x1 rfl ?_
  refine j_iload_n 2 C dX6_transfer_14 rfl rfl rfl ?_
  refine j_callS (st' := []) (As := [.ref (ad 1), vi ((j : Int))]) C dX6_transfer_15 rfl m_X6_75 rfl rfl (c_biG (kL κ) hfl (kD κ) (kc κ) σ (ad 1) (ad 2) _ hL1 j _ (bins_at hj) _ hh8) rfl (by omega) (by omega) (by omega) (fun _ _ hx => hx.elim) (fun v5 τ4 hp6 => ?_)
  obtain ⟨rfl, hs9⟩ := hp6
  replace hs9 := hs9.symm
  subst hs9
  show J κ σ [(0, .ref (ad 0)), (1, vi ((i : Int))), (2, vi ((j : Int))), (3, vi (n)), (4, .ref (bq ad 100 i 0))] 18 [.ref (bq ad 100 j 0)] _ _
  refine j_astore (lv' := [(0, .ref (ad 0)), (1, vi ((i : Int))), (2, vi ((j : Int))), (3, vi (n)), (4, .ref (bq ad 100 i 0)), (5, .ref (bq ad 100 j 0))]) [1, 2, 3, 4, 5, 0] C dX6_transfer_18 rfl rfl rfl ?_
  refine j_iload_n 1 C dX6_transfer_20 rfl rfl rfl ?_
  refine j_iload_n 2 C dX6_transfer_21 rfl rfl rfl ?_
  refine j_callS (st' := []) (As := [vi ((i : Int)), vi ((j : Int))]) C dX6_transfer_22 rfl m_X6_134 rfl rfl (c_cdG (kL κ) hfl (kD κ) (kc κ) σ (i : Int) (j : Int) ⟨by omega, by omega⟩ ⟨by omega, by omega⟩ (by omega)) rfl (by omega) (by omega) (by omega) (fun _ _ hx => hx.elim) (fun v8 τ7 hp9 => ?_)
  obtain ⟨rfl, hs9⟩ := hp9
  replace hs9 := hs9.symm
  subst hs9
  show J κ σ [(0, .ref (ad 0)), (1, vi ((i : Int))), (2, vi ((j : Int))), (3, vi (n)), (4, .ref (bq ad 100 i 0)), (5, .ref (bq ad 100 j 0))] 25 [] _ _
  refine j_iload_n 3 C dX6_transfer_25 rfl rfl rfl ?_
  refine j_iconst C dX6_transfer_26 rfl ?_
  refine j_sipush C dX6_transfer_27 rfl (by decide) ?_
  refine j_callS (st' := []) (As := [vi (n), vi (1), vi (5000)]) C dX6_transfer_30 rfl m_X6_51 rfl rfl (c_crG (kL κ) hfl (kD κ) (kc κ) σ n 1 5000 hn9 ⟨by omega, by omega⟩ hn) rfl (by omega) (by omega) (by omega) (fun _ _ hx => hx.elim) (fun v11 τ10 hp12 => ?_)
  obtain ⟨rfl, hs9⟩ := hp12
  replace hs9 := hs9.symm
  subst hs9
  show J κ σ [(0, .ref (ad 0)), (1, vi ((i : Int))), (2, vi ((j : Int))), (3, vi (n)), (4, .ref (bq ad 100 i 0)), (5, .ref (bq ad 100 j 0))] 33 [] _ _
  refine j_aload 4 C dX6_transfer_33 rfl rfl ?_
  refine j_iload_n 3 C dX6_transfer_35 rfl rfl rfl ?_
  refine j_callS (st' := []) (As := [.ref (bq ad 100 i 0), vi (n)]) C dX6_transfer_36 rfl m_X6_115 rfl rfl (c_csG (kL κ) hfl (kD κ) (kc κ) σ (bq ad 100 i 0) (bq ad 100 i 1) (bq ad 100 i 2) (bq ad 100 i 3) (bq ad 100 i 4) cap old7 ly.length (tot ly) (b01 mf) hh7 n ⟨⟨by omega, by omega⟩, ⟨by omega, by omega⟩, ⟨by omega, by omega⟩⟩ ⟨by omega, by omega⟩ hs9) rfl (by omega) (by omega) (by omega) (fun _ _ hx => hx.elim) (fun v14 τ13 hp15 => ?_)
  obtain ⟨rfl, hs9⟩ := hp15
  replace hs9 := hs9.symm
  subst hs9
  show J κ σ [(0, .ref (ad 0)), (1, vi ((i : Int))), (2, vi ((j : Int))), (3, vi (n)), (4, .ref (bq ad 100 i 0)), (5, .ref (bq ad 100 j 0))] 39 [] _ _
  refine j_aload 5 C dX6_transfer_39 rfl rfl ?_
  refine j_iload_n 3 C dX6_transfer_41 rfl rfl rfl ?_
  refine j_callS (st' := []) (As := [.ref (bq ad 100 j 0), vi (n)]) C dX6_transfer_42 rfl m_X6_98 rfl rfl (c_croG (kL κ) hfl (kD κ) (kc κ) σ (bq ad 100 j 0) (bq ad 100 j 1) (bq ad 100 j 2) (bq ad 100 j 3) (bq ad 100 j 4) cap' old8 lz.length (tot lz) (b01 mf') hh8 n ⟨⟨by omega, by omega⟩, ⟨by omega, by omega⟩, ⟨by omega, by omega⟩⟩ ⟨by omega, by omega⟩ hr) rfl (by omega) (by omega) (by omega) (fun _ _ hx => hx.elim) (fun v17 τ16 hp18 => ?_)
  obtain ⟨rfl, hs9⟩ := hp18
  replace hs9 := hs9.symm
  subst hs9
  show J κ σ [(0, .ref (ad 0)), (1, vi ((i : Int))), (2, vi ((j : Int))), (3, vi (n)), (4, .ref (bq ad 100 i 0)), (5, .ref (bq ad 100 j 0))] 45 [] _ _
  refine j_aload_n 0 C dX6_transfer_45 rfl rfl rfl ?_
  refine j_callV (st' := []) (As := []) C dX6_transfer_46 rfl m_X6_102 x1 rfl rfl rfl (c_ceG (kL κ) hfl (kD κ) (kc κ) σ (ad 0) (ad 1) (ad 3) (ad 5) (ad 7) (ad 10) (ad 11) (ad 13) ca x1 (ad 6) _ hL5 (by rw [hel9]; exact hl)) rfl (by omega) (by omega) (by omega) (fun _ _ hx => hx.elim) (fun v20 τ19 hp21 => ?_)
  obtain ⟨rfl, hs9⟩ := hp21
  replace hs9 := hs9.symm
  subst hs9
  show J κ σ [(0, .ref (ad 0)), (1, vi ((i : Int))), (2, vi ((j : Int))), (3, vi (n)), (4, .ref (bq ad 100 i 0)), (5, .ref (bq ad 100 j 0))] 49 [] _ _
  refine j_aload 5 C dX6_transfer_49 rfl rfl ?_
  refine j_get C dX6_transfer_51 rfl fg_X6_137 hh8 rfl ?_
  refine j_istore (lv' := [(0, .ref (ad 0)), (1, vi ((i : Int))), (2, vi ((j : Int))), (3, vi (n)), (4, .ref (bq ad 100 i 0)), (5, .ref (bq ad 100 j 0)), (6, vi ((lz.length : Int)))]) [1, 2, 3, 4, 5, 6, 0] C dX6_transfer_54 rfl rfl rfl ?_
  refine j_aload_n 0 C dX6_transfer_56 rfl rfl rfl ?_
  refine j_iload_n 1 C dX6_transfer_57 rfl rfl rfl ?_
  refine j_iload_n 2 C dX6_transfer_58 rfl rfl rfl ?_
  refine j_iload_n 3 C dX6_transfer_59 rfl rfl rfl ?_
  refine j_callS (st' := [.ref (ad 0)]) (As := [vi ((i : Int)), vi ((j : Int)), vi (n)]) C dX6_transfer_60 rfl m_X6_140 rfl rfl (c_ofTransfer (kL κ) hfl (kD κ) (kc κ) σ (i : Int) (j : Int) n) rfl (by omega) (by omega) (by omega) (fun _ _ hx => hx.elim) (fun v23 τ22 hp24 => ?_)
  obtain ⟨e, rfl, hE1, hE2, hE3, hE4⟩ := hp24
  show J κ τ22 [(0, .ref (ad 0)), (1, vi ((i : Int))), (2, vi ((j : Int))), (3, vi (n)), (4, .ref (bq ad 100 i 0)), (5, .ref (bq ad 100 j 0)), (6, vi ((lz.length : Int)))] 63 [.ref e, .ref (ad 0)] 1 7
  obtain ⟨ad1, ha1⟩ : ∃ f, updN ad (300 + evs.length) e = f := ⟨_, rfl⟩
  obtain ⟨tg1, htg1⟩ : ∃ f, updN tg e (300 + evs.length) = f := ⟨_, rfl⟩
  have hadn1 : ∀ k, k ≠ 300 + evs.length → ad1 k = ad k := fun k hk => by rw [← ha1]; exact updN_n hk
  have hade : ad1 (300 + evs.length) = e := by rw [← ha1]; exact updN_s
  have htge : tg1 e = 300 + evs.length := by rw [← htg1]; exact updN_s
  have hT1 : ∀ y, y ∈ σ.1 → tg1 y = tg y := fun y hy => by rw [← htg1]; exact updN_n (fun z => hE2 (by rw [← z]; exact hy))
  have hX1 := (hX0.retag hT1 hadn1).keep hE3 (fun _ _ z => z.elim)
  refine j_iconst C dX6_transfer_63 rfl ?_
  refine j_eq_st (st' := [vi (0), .ref (ad1 (300 + evs.length)), .ref (ad1 0)]) (by rw [hade, hadn1 0 (by omega)]) ?_
  have hx1o := hX1.1.1
  refine j_callV (st' := []) (As := [.ref (ad1 (300 + evs.length)), vi (0)]) C dX6_transfer_64 rfl m_X6_111 hx1o rfl rfl rfl (c_happen (kL κ) hfl (kD κ) (kc κ) τ22 tg1 ad1 bs ru se pf hd ca evs ln hX1 (116, (i : Int), (j : Int), n, 0, 0, 0) (by rw [hade]; exact hE1) (by rw [hade]; exact htge) hl hev5.1 (0) ⟨by decide, by decide⟩ hev5.2.2) rfl (by omega) (by omega) (by omega) (fun _ _ hx => hx.elim) (fun v26 τ25 hp27 => ?_)
  obtain ⟨rfl, tg', ad', hR9, hT9, hA9, hK9, hM9⟩ := hp27
  show J κ τ25 [(0, .ref (ad 0)), (1, vi ((i : Int))), (2, vi ((j : Int))), (3, vi (n)), (4, .ref (bq ad 100 i 0)), (5, .ref (bq ad 100 j 0)), (6, vi ((lz.length : Int)))] 67 [] 2 257
  have hm0 : ∀ y, y ∈ σ.1 → y ∈ τ22.1 := fun y hy => by rw [hE4]; exact List.mem_append_left _ hy
  have hT8 : ∀ y, y ∈ σ.1 → tg' y = tg y := fun y hy => (hT9 y (hm0 y hy)).trans (hT1 y hy)
  have hK8 : Keep σ τ25 (fun y => tg y < 1000) := (hE3.mono (fun _ z => z.elim)).tr2 hK9 (fun y z => (Classical.em (y ∈ σ.1)).elim (fun hy => Or.inl (by show tg y < 1000; rw [← hT1 y hy]; exact z)) Or.inr)
  have hbA5 := hR9.bin (ad0 := ad) (fun k a b => (hA9 k (by omega)).trans (hadn1 k (by omega))) (i := j) (by rw [apB_len]; exact hj)
  obtain ⟨⟨cap5, mf5, ly5⟩, hgA5⟩ : ∃ z, gB (apB (gradeF ru se) bs (116, (i : Int), (j : Int), n, 0, 0, 0)) (j : Int) = z := ⟨_, rfl⟩
  rw [hgA5] at hbA5 E
  have hmA5 := hR9.2.2.2.2.2.2.1 _ (gB_mem (bs := (apB (gradeF ru se) bs (116, (i : Int), (j : Int), n, 0, 0, 0))) (i := (j : Int)) (by omega) (by rw [apB_len]; omega))
  rw [hgA5] at hmA5
  obtain ⟨⟨hmB5, hmC5⟩, hmD5, hmE5⟩ := hmA5
  dsimp only at hmB5 hmC5 hmD5 hmE5
  obtain ⟨oldA5, gaA5, gbA5, gcA5, gdA5, ⟨hhA5, -, -⟩, -⟩ := id hbA5
  dsimp only at hhA5
  refine j_aload 5 C dX6_transfer_67 rfl rfl ?_
  refine j_get C dX6_transfer_69 rfl fg_X6_137 hhA5 rfl ?_
  refine j_iload 6 C dX6_transfer_72 rfl rfl ?_
  refine j_isub C dX6_transfer_74 rfl ?_
  exact j_iret C E dX6_transfer_75 (by omega) (by omega) ⟨rfl, tg', ad', (by rw [show ca + 0 = ca by omega] at hR9; exact hR9), fun y hy => hT8 y hy, (hA9 0 (by decide)).trans (hadn1 0 (by omega)), hK8, fun y hy => hM9 y (hm0 y hy)⟩
theorem wet_tot (w : Int) {l : List Ly} (h : lysOk l) : 0 ≤ sumL (wetF w) l ∧ sumL (wetF w) l ≤ tot l := by
  constructor
  · exact sumL_0 (fun x hx => by have := (h x hx).1; unfold wetF; split <;> omega)
  · exact sumL_le (fun x hx => by have := (h x hx).1; unfold wetF; split <;> omega)
theorem dryC_in {w : Int} (hw : 80 ≤ w ∧ w ≤ 300) : ∀ {l : List Ly}, lysOk l → 0 ≤ sumL (dryC w) l ∧ sumL (dryC w) l ≤ 60000 * (l.length : Int)
  | [], _ => by simp [sumL]
  | x :: l, h => by
    obtain ⟨⟨a1, a2⟩, ⟨b1, b2⟩, -⟩ := h x List.mem_cons_self
    have ih := dryC_in hw (l := l) (fun y hy => h y (List.mem_cons_of_mem _ hy))
    have h1 : 0 ≤ dryC w x ∧ dryC w x ≤ 60000 := by
      unfold dryC
      by_cases c : 0 < x.2.1 - w
      · rw [if_pos c]
        have p1 : 0 ≤ x.1 * (x.2.1 - w) := Int.mul_nonneg (by omega) (by omega)
        have p2 : x.1 * (x.2.1 - w) ≤ 2000 * (x.2.1 - w) := Int.mul_le_mul_of_nonneg_right (by omega) (by omega)
        obtain ⟨pp, hpp⟩ : ∃ z, x.1 * (x.2.1 - w) = z := ⟨_, rfl⟩
        rw [hpp] at p1 p2 ⊢
        omega
      · rw [if_neg c]; omega
    simp only [sumL, List.length_cons]
    omega
set_option maxHeartbeats 8000000 in
set_option maxRecDepth 20000 in
theorem c_dry (l : Launch) (hfl : l.stackTraces = false) (D : va_G) (cy : Nat → Nat) (σ : Wd) (tg ad : Nat → Nat) (bs : List Bn) (ru : Nat → Int × Int) (se : Int) (pf : Nat → Int) (hd : Hd) (ca : Int) (evs : List Evt) (ln : List Int) (hX0 : RX cy σ tg ad bs ru se pf hd ca evs ln) (i : Nat) (hi : i < bs.length) (x : Int) (hx8 : (-2147483648 ≤ x ∧ x < 2147483648)) (hx9 : 80 ≤ x ∧ x ≤ 300) (hwt : ¬ sumL (wetF x) (gB bs i).2.2 = 0) (hl : evs.length < 80) : Ct l yX6_dry cX6_dry 5 (some .int) 7 2 257 D cy [.ref (ad 0), vi ((i : Int)), vi (x)] σ (fun v σ' => v = some (vi (tot (gB bs i).2.2 - tot (gB (apB (gradeF ru se) bs (100, (i : Int), (i : Int), 0, 0, x, 0)) i).2.2)) ∧ ∃ tg' ad' : Nat → Nat, RX cy σ' tg' ad' (apB (gradeF ru se) bs (100, (i : Int), (i : Int), 0, 0, x, 0)) ru se pf (hdF hd (totB (apB (gradeF ru se) bs (100, (i : Int), (i : Int), 0, 0, x, 0)))) (ca + -sumL (dryC x) (gB bs i).2.2) (evs ++ [(100, (i : Int), (i : Int), 0, 0, x, 0)]) ln ∧ (∀ y, y ∈ σ.1 → tg' y = tg y) ∧ ad' 0 = ad 0 ∧ Keep σ σ' (fun y => tg y < 1000) ∧ ∀ y, y ∈ σ.1 → y ∈ σ'.1) noX := by
  refine ct_start (by decide +kernel) hfl rfl (fun κ e1 e2 e3 C E NH => ?_)
  subst e1 e2 e3
  have C : Cx κ cX6_dry 5 RX6 "dry" 7 := C
  obtain ⟨-, -, -, -, hc, hs⟩ := id E
  show J κ σ [(0, .ref (ad 0)), (1, vi ((i : Int))), (2, vi (x))] 0 [] 0 0
  have hXX := hX0
  obtain ⟨⟨x1, x2⟩, hB, ⟨bsA, hA, hAe⟩, hEv, hX, hO⟩ := hXX
  obtain ⟨⟨hR, t7, t8, t9⟩, ⟨hPr, t10⟩, ⟨hH, t11, t12⟩, cap0, hSb, t13, t14⟩ := id hX
  have hL1 := hB.1.1
  have hL5 := hEv.1.1
  have hbl := bins_len ad 100 bs.length
  have hel9 := evl_len ad evs.length
  have h6 := hB.2.1
  obtain ⟨⟨hc1, hc2⟩, hc3, hc4⟩ := hO.2.2.2.1
  have hev80 := hO.2.2.1.2
  have hpr := hO.2.2.2.2.1
  have hRo := hR.1
  have hHo := hH.1
  obtain ⟨ml0, g0, hSc, -⟩ := id hSb
  have hSo := hSc.1
  have hTb := totB_in hO.2.1
  obtain ⟨m91, hl91, -⟩ := id hL1
  obtain ⟨m92, hl92, -⟩ := id hL5
  obtain ⟨⟨cap, mf, ly⟩, hg7⟩ : ∃ z, gB bs (i : Int) = z := ⟨_, rfl⟩
  have hb7 := hB.at hi hg7
  have hbk7 := hO.2.1 _ (gB_mem (bs := bs) (i := (i : Int)) (by omega) (by omega))
  rw [hg7] at hbk7
  obtain ⟨hcp7, hly7, htc7⟩ := hbk7
  dsimp only at hcp7 hly7 htc7
  have ht07 := tot_0 hly7
  obtain ⟨old7, ga7, gb7, gc7, gd7, ⟨hh7, -, -⟩, -, hcn7, -, hok7⟩ := id hb7
  dsimp only at hh7 hcn7 hok7
  have hev5 := dry_ev hO hl hi hx9
  rw [hg7] at hwt E
  dsimp only at hwt
  have hwi := wet_tot x hly7
  have hdi := dryC_in hx9 hly7
  refine j_aload_n 0 C dX6_dry_0 rfl rfl rfl ?_
  refine j_get C dX6_dry_1 rfl fg_X6_12 x1 rfl ?_
  refine j_iload_n 1 C dX6_dry_4 rfl rfl rfl ?_
  refine j_callS (st' := []) (As := [.ref (ad 1), vi ((i : Int))]) C dX6_dry_5 rfl m_X6_75 rfl rfl (c_biG (kL κ) hfl (kD κ) (kc κ) σ (ad 1) (ad 2) _ hL1 i _ (bins_at hi) _ hh7) rfl (by omega) (by omega) (by omega) (fun _ _ hx => hx.elim) (fun v2 τ1 hp3 => ?_)
  obtain ⟨rfl, hs9⟩ := hp3
  replace hs9 := hs9.symm
  subst hs9
  show J κ σ [(0, .ref (ad 0)), (1, vi ((i : Int))), (2, vi (x))] 8 [.ref (bq ad 100 i 0)] _ _
  refine j_astore_n (lv' := [(0, .ref (ad 0)), (1, vi ((i : Int))), (2, vi (x)), (3, .ref (bq ad 100 i 0))]) [1, 2, 3, 0] C dX6_dry_8 rfl rfl rfl rfl ?_
  refine j_iload_n 2 C dX6_dry_9 rfl rfl rfl ?_
  refine j_callS (st' := []) (As := [vi (x)]) C dX6_dry_10 rfl m_X6_144 rfl rfl (c_cmG (kL κ) hfl (kD κ) (kc κ) σ x hx8 hx9) rfl (by omega) (by omega) (by omega) (fun _ _ hx => hx.elim) (fun v5 τ4 hp6 => ?_)
  obtain ⟨rfl, hs9⟩ := hp6
  replace hs9 := hs9.symm
  subst hs9
  show J κ σ [(0, .ref (ad 0)), (1, vi ((i : Int))), (2, vi (x)), (3, .ref (bq ad 100 i 0))] 13 [] _ _
  refine j_aload_n 3 C dX6_dry_13 rfl rfl rfl ?_
  refine j_iload_n 2 C dX6_dry_14 rfl rfl rfl ?_
  refine j_callV (st' := []) (As := [vi (x)]) C dX6_dry_15 rfl m_X6_147 hh7 rfl rfl rfl (c_wetterThan (kL κ) hfl (kD κ) (kc κ) σ (bq ad 100 i 0) (bq ad 100 i 1) (bq ad 100 i 2) (bq ad 100 i 3) (bq ad 100 i 4) cap mf ly hb7 x ⟨by omega, by omega⟩) rfl (by omega) (by omega) (by omega) (fun _ _ hx => hx.elim) (fun v8 τ7 hp9 => ?_)
  obtain ⟨rfl, hs9⟩ := hp9
  replace hs9 := hs9.symm
  subst hs9
  show J κ σ [(0, .ref (ad 0)), (1, vi ((i : Int))), (2, vi (x)), (3, .ref (bq ad 100 i 0))] 18 [vi (sumL (wetF x) ly)] _ _
  refine j_if_ne (tgt := 31) C dX6_dry_18 rfl rfl ⟨by omega, by omega⟩ (fun cc10 => ?_) (fun cc10 => ?_)
  · refine j_aload_n 0 C dX6_dry_31 rfl rfl rfl ?_
    refine j_callV (st' := []) (As := []) C dX6_dry_32 rfl m_X6_102 x1 rfl rfl rfl (c_ceG (kL κ) hfl (kD κ) (kc κ) σ (ad 0) (ad 1) (ad 3) (ad 5) (ad 7) (ad 10) (ad 11) (ad 13) ca x1 (ad 6) _ hL5 (by rw [hel9]; exact hl)) rfl (by omega) (by omega) (by omega) (fun _ _ hx => hx.elim) (fun v12 τ11 hp13 => ?_)
    obtain ⟨rfl, hs9⟩ := hp13
    replace hs9 := hs9.symm
    subst hs9
    show J κ σ [(0, .ref (ad 0)), (1, vi ((i : Int))), (2, vi (x)), (3, .ref (bq ad 100 i 0))] 35 [] _ _
    refine j_aload_n 3 C dX6_dry_35 rfl rfl rfl ?_
    refine j_get C dX6_dry_36 rfl fg_X6_153 hh7 rfl ?_
    refine j_istore (lv' := [(0, .ref (ad 0)), (1, vi ((i : Int))), (2, vi (x)), (3, .ref (bq ad 100 i 0)), (4, vi (tot ly))]) [1, 2, 3, 4, 0] C dX6_dry_39 rfl rfl rfl ?_
    refine j_aload_n 0 C dX6_dry_41 rfl rfl rfl ?_
    refine j_iload_n 1 C dX6_dry_42 rfl rfl rfl ?_
    refine j_iload_n 2 C dX6_dry_43 rfl rfl rfl ?_
    refine j_callS (st' := [.ref (ad 0)]) (As := [vi ((i : Int)), vi (x)]) C dX6_dry_44 rfl m_X6_156 rfl rfl (c_ofDrying (kL κ) hfl (kD κ) (kc κ) σ (i : Int) x) rfl (by omega) (by omega) (by omega) (fun _ _ hx => hx.elim) (fun v15 τ14 hp16 => ?_)
    obtain ⟨e, rfl, hE1, hE2, hE3, hE4⟩ := hp16
    show J κ τ14 [(0, .ref (ad 0)), (1, vi ((i : Int))), (2, vi (x)), (3, .ref (bq ad 100 i 0)), (4, vi (tot ly))] 47 [.ref e, .ref (ad 0)] 1 7
    obtain ⟨ad1, ha1⟩ : ∃ f, updN ad (300 + evs.length) e = f := ⟨_, rfl⟩
    obtain ⟨tg1, htg1⟩ : ∃ f, updN tg e (300 + evs.length) = f := ⟨_, rfl⟩
    have hadn1 : ∀ k, k ≠ 300 + evs.length → ad1 k = ad k := fun k hk => by rw [← ha1]; exact updN_n hk
    have hade : ad1 (300 + evs.length) = e := by rw [← ha1]; exact updN_s
    have htge : tg1 e = 300 + evs.length := by rw [← htg1]; exact updN_s
    have hT1 : ∀ y, y ∈ σ.1 → tg1 y = tg y := fun y hy => by rw [← htg1]; exact updN_n (fun z => hE2 (by rw [← z]; exact hy))
    have hX1 := (hX0.retag hT1 hadn1).keep hE3 (fun _ _ z => z.elim)
    have hb19 := hb7.keep hE3 (fun _ _ z => z)
    obtain ⟨old6, ga6, gb6, gc6, gd6, ⟨hh6, -, -⟩, -, hcn6, -, hok6⟩ := id hb19
    dsimp only at hh6 hcn6 hok6
    refine j_aload_n 3 C dX6_dry_47 rfl rfl rfl ?_
    refine j_iload_n 2 C dX6_dry_48 rfl rfl rfl ?_
    refine j_callV (st' := [.ref e, .ref (ad 0)]) (As := [vi (x)]) C dX6_dry_49 rfl m_X6_159 hh6 rfl rfl rfl (c_costOfDrying (kL κ) hfl (kD κ) (kc κ) τ14 (bq ad 100 i 0) (bq ad 100 i 1) (bq ad 100 i 2) (bq ad 100 i 3) (bq ad 100 i 4) cap mf ly hb19 x hx9) rfl (by omega) (by omega) (by omega) (fun _ _ hx => hx.elim) (fun v18 τ17 hp19 => ?_)
    obtain ⟨rfl, hs9⟩ := hp19
    replace hs9 := hs9.symm
    subst hs9
    show J κ τ14 [(0, .ref (ad 0)), (1, vi ((i : Int))), (2, vi (x)), (3, .ref (bq ad 100 i 0)), (4, vi (tot ly))] 52 [vi (sumL (dryC x) ly), .ref e, .ref (ad 0)] _ _
    refine j_ineg C dX6_dry_52 rfl ?_
    refine j_eq_st (st' := [vi (-sumL (dryC x) ly), .ref (ad1 (300 + evs.length)), .ref (ad1 0)]) (by rw [hade, hadn1 0 (by omega)]) ?_
    have hx1o := hX1.1.1
    refine j_callV (st' := []) (As := [.ref (ad1 (300 + evs.length)), vi (-sumL (dryC x) ly)]) C dX6_dry_53 rfl m_X6_111 hx1o rfl rfl rfl (c_happen (kL κ) hfl (kD κ) (kc κ) τ14 tg1 ad1 bs ru se pf hd ca evs ln hX1 (100, (i : Int), (i : Int), 0, 0, x, 0) (by rw [hade]; exact hE1) (by rw [hade]; exact htge) hl hev5.1 (-sumL (dryC x) ly) ⟨by omega, by omega⟩ hev5.2.2) rfl (by omega) (by omega) (by omega) (fun _ _ hx => hx.elim) (fun v21 τ20 hp22 => ?_)
    obtain ⟨rfl, tg', ad', hR9, hT9, hA9, hK9, hM9⟩ := hp22
    show J κ τ20 [(0, .ref (ad 0)), (1, vi ((i : Int))), (2, vi (x)), (3, .ref (bq ad 100 i 0)), (4, vi (tot ly))] 56 [] 2 257
    have hm0 : ∀ y, y ∈ σ.1 → y ∈ τ14.1 := fun y hy => by rw [hE4]; exact List.mem_append_left _ hy
    have hT8 : ∀ y, y ∈ σ.1 → tg' y = tg y := fun y hy => (hT9 y (hm0 y hy)).trans (hT1 y hy)
    have hK8 : Keep σ τ20 (fun y => tg y < 1000) := (hE3.mono (fun _ z => z.elim)).tr2 hK9 (fun y z => (Classical.em (y ∈ σ.1)).elim (fun hy => Or.inl (by show tg y < 1000; rw [← hT1 y hy]; exact z)) Or.inr)
    have hbA5 := hR9.bin (ad0 := ad) (fun k a b => (hA9 k (by omega)).trans (hadn1 k (by omega))) (i := i) (by rw [apB_len]; exact hi)
    obtain ⟨⟨cap5, mf5, ly5⟩, hgA5⟩ : ∃ z, gB (apB (gradeF ru se) bs (100, (i : Int), (i : Int), 0, 0, x, 0)) (i : Int) = z := ⟨_, rfl⟩
    rw [hgA5] at hbA5 E
    have hmA5 := hR9.2.2.2.2.2.2.1 _ (gB_mem (bs := (apB (gradeF ru se) bs (100, (i : Int), (i : Int), 0, 0, x, 0))) (i := (i : Int)) (by omega) (by rw [apB_len]; omega))
    rw [hgA5] at hmA5
    obtain ⟨⟨hmB5, hmC5⟩, hmD5, hmE5⟩ := hmA5
    dsimp only at hmB5 hmC5 hmD5 hmE5
    obtain ⟨oldA5, gaA5, gbA5, gcA5, gdA5, ⟨hhA5, -, -⟩, -⟩ := id hbA5
    dsimp only at hhA5
    refine j_iload 4 C dX6_dry_56 rfl rfl ?_
    refine j_aload_n 3 C dX6_dry_58 rfl rfl rfl ?_
    refine j_get C dX6_dry_59 rfl fg_X6_153 hhA5 rfl ?_
    refine j_isub C dX6_dry_62 rfl ?_
    exact j_iret C E dX6_dry_63 (by omega) (by omega) ⟨rfl, tg', ad', hR9, fun y hy => hT8 y hy, (hA9 0 (by decide)).trans (hadn1 0 (by omega)), hK8, fun y hy => hM9 y (hm0 y hy)⟩
  · exact absurd cc10 hwt
