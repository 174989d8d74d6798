/-! GrainElevator: worth -/
theorem take_all {f : Ly → Int} (hf : Lin f) (L : List Ly) (hok : lysOk L) : sumL f (takeL (tot L) L) = sumL f L := by
  have h1 := drop_take f hf L (tot L)
  have h2 := drop_tot L (tot L) hok (tot_0 hok) (Int.le_refl _)
  have h3 := tot_len (drop_ok L (tot L) hok)
  have h4 : dropL (tot L) L = [] := List.eq_nil_of_length_eq_zero (by omega)
  rw [h4] at h1
  simp only [sumL] at h1
  omega
def costB (pf : Nat → Int) : List Bn → Int
  | [] => 0
  | b :: l => sumL (cf pf) b.2.2 + costB pf l
theorem costB_take (pf : Nat → Int) : ∀ (bs : List Bn) (i : Nat), i < bs.length → costB pf (bs.take (i + 1)) = costB pf (bs.take i) + sumL (cf pf) (gB bs i).2.2
  | [], i, h => by simp at h
  | b :: l, 0, h => by simp [costB, gB]
  | b :: l, i + 1, h => by
    have ih := costB_take pf l i (by simpa using h)
    rw [List.take_succ_cons, List.take_succ_cons, costB, costB, ih]
    have e : gB (b :: l) ((i + 1 : Nat) : Int) = gB l (i : Int) := by
      unfold gB
      rw [show (((i + 1 : Nat) : Int)).toNat = i + 1 by omega, List.getD_cons_succ]
      rfl
    rw [e]
    omega
set_option maxHeartbeats 4000000 in
set_option maxRecDepth 20000 in
theorem c_worth (l : Launch) (hfl : l.stackTraces = false) (D : va_G) (cy : Nat → Nat) (σ : Wd) (tg ad : Nat → Nat) (bs : List Bn) (ru : Nat → Int × Int) (se : Int) (pf : Nat → Int) (hd : Hd) (ca : Int) (evs : List Evt) (ln : List Int) (hX0 : RX cy σ tg ad bs ru se pf hd ca evs ln) : Ct l yX6_worth cX6_worth 5 (some .long) 7 6 42 D cy [.ref (ad 0)] σ (fun v σ' => v = some (vl (costB pf bs)) ∧ Keep σ σ' (fun _ => False)) noX := by
  refine ct_start (by decide +kernel) hfl rfl (fun κ e1 e2 e3 C E NH => ?_)
  subst e1 e2 e3
  have C : Cx κ cX6_worth 5 RX6 "worth" 7 := C
  obtain ⟨-, -, -, -, hc, hs⟩ := id E
  show J κ σ [(0, .ref (ad 0))] 0 [] 0 0
  have hXX := hX0
  obtain ⟨⟨x1, x2⟩, hB, ⟨bsA, hA, hAe⟩, hEv, hX, hO⟩ := hXX
  obtain ⟨⟨hR, t7, t8, t9⟩, ⟨hPr, t10⟩, ⟨hH, t11, t12⟩, cap0, hSb, t13, t14⟩ := id hX
  have hL1 := hB.1.1
  have hL5 := hEv.1.1
  have hbl := bins_len ad 100 bs.length
  have hel9 := evl_len ad evs.length
  have h6 := hB.2.1
  obtain ⟨⟨hc1, hc2⟩, hc3, hc4⟩ := hO.2.2.2.1
  have hev80 := hO.2.2.1.2
  have hpr := hO.2.2.2.2.1
  have hRo := hR.1
  have hHo := hH.1
  obtain ⟨ml0, g0, hSc, -⟩ := id hSb
  have hSo := hSc.1
  have hTb := totB_in hO.2.1
  obtain ⟨m91, hl91, -⟩ := id hL1
  obtain ⟨m92, hl92, -⟩ := id hL5
  refine j_lconst (z := 0) C dX6_worth_0 rfl rfl ?_
  refine j_lstore_n (lv' := [(0, .ref (ad 0)), (1, vl (0))]) [1, 0] C dX6_worth_1 rfl rfl rfl rfl ?_
  refine j_iconst C dX6_worth_2 rfl ?_
  refine j_istore_n (lv' := [(0, .ref (ad 0)), (1, vl (0)), (3, vi (0))]) [1, 2, 0] C dX6_worth_3 rfl rfl rfl rfl ?_
  have lp : ∀ (N : Nat) (s : Int) (i : Nat) (σ1 : Wd) (k1 : Nat) (n1 : Nat), Keep σ σ1 (fun _ => False) → s = costB pf (bs.take i) → i ≤ bs.length → k1 ≤ i → n1 ≤ 7 * i → (bs.length + 1 - i) < N → J κ σ1 [(0, .ref (ad 0)), (1, vl (s)), (3, vi ((i : Int)))] 4 [] k1 n1 := by
    intro N
    induction N with
    | zero => intro s i σ1 k1 n1 hk1 hs9 hi9 hkk hnn hN; exact absurd hN (Nat.not_lt_zero _)
    | succ N ih =>
      intro s i σ1 k1 n1 hk1 hs9 hi9 hkk hnn hN
      have x19 := hk1 _ _ x1 (fun z => z)
      have hL19 := hL1.keep hk1 ⟨fun z => z, fun z => z.elim⟩
      have hPr9 := hk1 _ _ hPr (fun z => z)
      obtain ⟨m91, hl91, -⟩ := id hL19
      refine j_iload_n 2 C dX6_worth_4 rfl rfl rfl ?_
      refine j_aload_n 0 C dX6_worth_5 rfl rfl rfl ?_
      refine j_get C dX6_worth_6 rfl fg_X6_12 x19 rfl ?_
      refine j_callV (st' := [vi ((i : Int))]) (As := []) C dX6_worth_9 rfl m_X6_55 hl91 rfl rfl rfl (c_size (kL κ) hfl (kD κ) (kc κ) σ1 (ad 1) (ad 2) _ hL19) rfl (by omega) (by omega) (by omega) (fun _ _ hx => hx.elim) (fun v2 τ1 hp3 => ?_)
      obtain ⟨rfl, hs9⟩ := hp3
      replace hs9 := hs9.symm
      subst hs9
      show J κ σ1 [(0, .ref (ad 0)), (1, vl (s)), (3, vi ((i : Int)))] 12 [vi (((bins ad 100 bs.length).length : Int)), vi ((i : Int))] _ _
      rw [hbl]
      refine j_icmp_ge (tgt := 73) C dX6_worth_12 rfl rfl ⟨by omega, by omega⟩ ⟨by omega, by omega⟩ (fun cc4 => ?_) (fun cc4 => ?_)
      · refine j_lload_n 1 C dX6_worth_73 rfl rfl rfl ?_
        exact j_lret C E dX6_worth_74 (by omega) (by omega) ⟨congrArg some (congrArg vl (by rw [hs9, List.take_of_length_le (by omega)])), hk1⟩
      · have hi : i < bs.length := by omega
        have hB9 := hB.keep hk1 (fun _ _ z => z.elim)
        obtain ⟨⟨cap, mf, ly⟩, hg7⟩ : ∃ z, gB bs (i : Int) = z := ⟨_, rfl⟩
        have hb7 := hB9.at hi hg7
        have hbk7 := hO.2.1 _ (gB_mem (bs := bs) (i := (i : Int)) (by omega) (by omega))
        rw [hg7] at hbk7
        obtain ⟨hcp7, hly7, htc7⟩ := hbk7
        dsimp only at hcp7 hly7 htc7
        have ht07 := tot_0 hly7
        have hct := costB_take pf bs i hi
        rw [hg7] at hct
        dsimp only at hct
        obtain ⟨old7, ga7, gb7, gc7, gd7, ⟨hh7, -, -⟩, -, hcn7, -, hok7⟩ := id hb7
        dsimp only at hh7 hcn7 hok7
        have kp0 : Keep σ1 σ1 (fun _ => False) := Keep.rf
        have dm0 : σ1.1 = σ1.1 := rfl
        refine j_new C dX6_worth_15 rfl na_X6_118 (by omega) (by omega) (k' := k1 + 1) (n' := n1 + 7) (by first | rfl | omega) (by first | rfl | omega) (fun fo τ5 nq7 ee6 => ?_)
        have u8 := x19.old' ee6 nq7
        have u9 := hl91.old' ee6 nq7
        have u10 := hPr9.old' ee6 nq7
        have u11 := hh7.old' ee6 nq7
        have u12 : has τ5 fo (.inr (3, [.null, .null, vi (0), vi (0), vi (0), vi (0), vi (0)])) := has.fresh' ee6
        have kp13 := kp0.new ee6 nq7
        have dm14 := (dom_new ee6).trans (congrArg (· ++ [fo]) dm0)
        refine j_dup C dX6_worth_18 rfl rfl ?_
        refine j_aload_n 0 C dX6_worth_19 rfl rfl rfl ?_
        refine j_get C dX6_worth_20 rfl fg_X6_12 u8 rfl ?_
        refine j_iload_n 2 C dX6_worth_23 rfl rfl rfl ?_
        have hLg15 := hL19.keep kp13 ⟨fun z => z, fun z => z.elim⟩
        have hLg15i : i < (bins ad 100 bs.length).length := by rw [bins_len]; exact hi
        have hLg15b : (bins ad 100 bs.length)[i]'hLg15i = bq ad 100 i 0 := (List.getElem?_eq_some_iff.mp (bins_at hi)).2
        refine j_callV (st' := [.ref fo, .ref fo]) (As := [vi ((i : Int))]) C dX6_worth_24 rfl m_X6_194 u9 rfl rfl rfl (c_listGet (kL κ) hfl (kD κ) (kc κ) τ5 (ad 1) (ad 2) _ hLg15 i hLg15i) rfl (by omega) (by omega) (by omega) (fun _ _ hx => hx.elim) (fun v17 τ16 hp18 => ?_)
        obtain ⟨rfl, hs9⟩ := hp18
        replace hs9 := hs9.symm
        subst hs9
        show J κ τ5 [(0, .ref (ad 0)), (1, vl (s)), (3, vi ((i : Int)))] 27 [.ref ((bins ad 100 bs.length)[i]'hLg15i), .ref fo, .ref fo] _ _
        rw [hLg15b]
        refine j_chk C dX6_worth_27 rfl u11 rfl cl_X6_66 ?_
        refine j_aload_n 0 C dX6_worth_30 rfl rfl rfl ?_
        refine j_get C dX6_worth_31 rfl fg_X6_29 u8 rfl ?_
        have hbFfo := hb7.keep kp13 (fun _ _ z => z)
        have hpFfo := kp13 _ _ hPr9 (fun z => z)
        have nnfo : fo ∉ σ1.1 := fun z => nq7 (by rw [dm0]; first | exact z | simp [z])
        refine j_callI (st' := [.ref fo]) (As := [.ref (bq ad 100 i 0), .ref (ad 10)]) C dX6_worth_34 rfl m_X6_120 rfl rfl (c_flowInit (kL κ) hfl (kD κ) (kc κ) τ5 (bq ad 100 i 0) (bq ad 100 i 1) (bq ad 100 i 2) (bq ad 100 i 3) (bq ad 100 i 4) cap mf ly hbFfo fo (ad 10) pf hpFfo u12) rfl (by omega) (by omega) (by omega) (fun _ _ hx => hx.elim) (fun v20 τ19 hp21 => ?_)
        obtain ⟨rfl, hFfo, hkFfo, hdFfo⟩ := hp21
        show J κ τ19 [(0, .ref (ad 0)), (1, vl (s)), (3, vi ((i : Int)))] 37 [.ref fo] _ _
        have kffo : Keep σ1 τ19 (fun _ => False) := kp13.tr2 hkFfo (fun y z => Or.inr (by rw [show y = fo from z]; exact nnfo))
        have dnfo := hdFfo.trans dm14
        have x15 := kffo _ _ x19 (fun z => z)
        have hb15 := hb7.keep kffo (fun _ _ z => z)
        have hL15 := hL19.keep kffo ⟨fun z => z, fun z => z.elim⟩
        obtain ⟨m91, hl91, -⟩ := id hL15
        obtain ⟨old6, ga6, gb6, gc6, gd6, ⟨hh6, -, -⟩, -, hcn6, -, hok6⟩ := id hb15
        dsimp only at hh6 hcn6 hok6
        obtain ⟨i9, u9, hfo, -⟩ := id hFfo
        refine j_astore (lv' := [(0, .ref (ad 0)), (1, vl (s)), (3, vi ((i : Int))), (4, .ref fo)]) [1, 2, 3, 0] C dX6_worth_37 rfl rfl rfl ?_
        refine j_aload 3 C dX6_worth_39 rfl rfl ?_
        refine j_aload_n 0 C dX6_worth_41 rfl rfl rfl ?_
        refine j_get C dX6_worth_42 rfl fg_X6_12 x15 rfl ?_
        refine j_iload_n 2 C dX6_worth_45 rfl rfl rfl ?_
        have hLg22 := hL15
        have hLg22i : i < (bins ad 100 bs.length).length := by rw [bins_len]; exact hi
        have hLg22b : (bins ad 100 bs.length)[i]'hLg22i = bq ad 100 i 0 := (List.getElem?_eq_some_iff.mp (bins_at hi)).2
        refine j_callV (st' := [.ref fo]) (As := [vi ((i : Int))]) C dX6_worth_46 rfl m_X6_194 hl91 rfl rfl rfl (c_listGet (kL κ) hfl (kD κ) (kc κ) τ19 (ad 1) (ad 2) _ hLg22 i hLg22i) rfl (by omega) (by omega) (by omega) (fun _ _ hx => hx.elim) (fun v24 τ23 hp25 => ?_)
        obtain ⟨rfl, hs9⟩ := hp25
        replace hs9 := hs9.symm
        subst hs9
        show J κ τ19 [(0, .ref (ad 0)), (1, vl (s)), (3, vi ((i : Int))), (4, .ref fo)] 49 [.ref ((bins ad 100 bs.length)[i]'hLg22i), .ref fo] _ _
        rw [hLg22b]
        refine j_chk C dX6_worth_49 rfl hh6 rfl cl_X6_66 ?_
        refine j_get C dX6_worth_52 rfl fg_X6_153 hh6 rfl ?_
        have hbGhFw26 := hb7.keep kffo (fun _ _ z => z)
        have hpGhFw26 := kffo _ _ hPr9 (fun z => z)
        refine j_callV (st' := []) (As := [vi (tot ly)]) C dX6_worth_55 rfl m_X6_123 hfo rfl rfl rfl (c_goOn (kL κ) hfl (kD κ) (kc κ) τ19 (bq ad 100 i 0) (bq ad 100 i 1) (bq ad 100 i 2) (bq ad 100 i 3) (bq ad 100 i 4) cap mf ly hbGhFw26 fo (ad 10) pf 0 (tot ly) hpGhFw26 hFfo ⟨by omega, by omega⟩) rfl (by omega) (by omega) (by omega) (fun _ _ hx => hx.elim) (fun v28 τ27 hp29 => ?_)
        obtain ⟨rfl, hFw26, hFw26k, hFw26d⟩ := hp29
        show J κ τ27 [(0, .ref (ad 0)), (1, vl (s)), (3, vi ((i : Int))), (4, .ref fo)] 58 [] _ _
        have hFw26K : Keep σ1 τ27 (fun _ => False) := kffo.tr2 hFw26k (fun y z => Or.inr (by rw [show y = fo from z]; exact nnfo))
        have hFw26D := hFw26d.trans dnfo
        rw [show min (0 + tot ly) (tot ly) = tot ly by omega] at hFw26
        obtain ⟨i8, u8, hfo2, -⟩ := id hFw26
        have hokf : lysOk (fl (cap, mf, ly)) := fl_ok (b := (cap, mf, ly)) hly7
        have htf : tot (fl (cap, mf, ly)) = tot ly := sum_fl _ (cap, mf, ly)
        have hta := take_all (lin_c pf) (fl (cap, mf, ly)) hokf
        rw [htf, sum_fl (cf pf) (cap, mf, ly)] at hta
        dsimp only at hta
        rw [hta] at hfo2
        have hcin := cost_in hpr hly7
        obtain ⟨pd, hpd⟩ : ∃ z, sumL (cf pf) ly = z := ⟨_, rfl⟩
        rw [hpd] at hcin hfo2 hct
        refine j_lload_n 1 C dX6_worth_58 rfl rfl rfl ?_
        refine j_aload 3 C dX6_worth_59 rfl rfl ?_
        refine j_get C dX6_worth_61 rfl fg_X6_127 hfo2 rfl ?_
        refine j_i2l C dX6_worth_64 rfl ⟨by omega, by omega⟩ ?_
        refine j_ladd C dX6_worth_65 rfl ?_
        refine j_lstore_n (lv' := [(0, .ref (ad 0)), (1, vl (s + pd)), (3, vi ((i : Int))), (4, .ref fo)]) [1, 0, 2, 3] C dX6_worth_66 rfl rfl rfl rfl ?_
        refine j_iinc (y := (i : Int) + 1) (lv' := [(0, .ref (ad 0)), (1, vl (s + pd)), (3, vi ((i : Int) + 1)), (4, .ref fo)]) 2 [1, 2, 0, 3] C dX6_worth_67 rfl rfl rfl rfl rfl ?_
        refine j_goto (tgt := 4) C dX6_worth_70 rfl ?_
        refine j_locals (lv' := [(0, .ref (ad 0)), (1, vl (s + pd)), (3, vi ((i : Int) + 1))]) [0, 1, 2] rfl ?_
        refine ih (s + pd) (i + 1) τ27 _ _ (hk1.tr hFw26K) (by rw [hct, ← hs9]) (by omega) (by omega) (by omega) (by omega)
  exact lp _ 0 0 σ 0 0 Keep.rf rfl (Nat.zero_le _) (Nat.le_refl _) (Nat.le_refl _) (Nat.lt_succ_self _)
