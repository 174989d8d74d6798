/-! GrainElevatorModel: meanMoisture, wetShare -/
set_option maxHeartbeats 8000000 in
set_option maxRecDepth 20000 in
theorem m_meanMoisture (l : Launch) (hfl : l.stackTraces = false) (D : va_G) (cy : Nat → Nat) (σ : Wd) (am : Nat → Nat) (bs : List Bn) (ru : Nat → Int × Int) (se : Int) (pf : Nat → Int) (hd : Hd) (ca : Int) (evs : List Evt) (ln : List Int) (bl : Int × Int × Int) (th : Int) (hM : RM cy σ am bs ru se pf hd ca evs ln bl th) (b : Int) (hb9 : (-2147483648 ≤ b ∧ b < 2147483648)) (hO : Ok bs ru se pf hd evs ln) : Ct l yX7_meanMoisture cX7_meanMoisture 4 (some .double) 3 0 0 D cy [.ref (am 0), vi (b)] σ (fun v σ' => ∃ rz : UInt64, v = some (.double rz) ∧ (cdMean bs b = 0 → rz = vMean bs b) ∧ (∃ bl', RM cy σ' am bs ru se pf hd ca evs ln bl' (cdMean bs b)) ∧ Keep σ σ' (inM am) ∧ σ'.1 = σ.1) noX := by
  refine ct_start (by decide +kernel) hfl rfl (fun κ e1 e2 e3 C E NH => ?_)
  subst e1 e2 e3
  have C : Cx κ cX7_meanMoisture 4 RX7 "meanMoisture" 3 := C
  obtain ⟨-, -, -, -, hc, hs⟩ := id E
  show J κ σ [(0, .ref (am 0)), (1, vi (b))] 0 [] 0 0
  obtain ⟨hI1, gc1, gm1, gr1, gp1, gb1, go1, gf1, gg1, gt1, gz1, gk1, gl1, _, _, _, h01, ⟨hgc1, hgm1, hgr1, hgp1, hgb1, hgo1, hgf1, hgg1, hgt1, hgz1, hgk1, hgl1⟩, ⟨rfl, rfl, rfl⟩, hBn1, hRu1, hPr1, hTr1, hKi1, hLi1⟩ := id hM
  have hI := hI1
  have hnb61 := hBn1.1
  have kp0 : Keep σ σ (inM am) := Keep.rf
  have dm0 : σ.1 = σ.1 := rfl
  obtain ⟨⟨hc1, hc2⟩, hc3, hc4⟩ := hO.2.2.2.1
  have h6 := hO.1
  have hlb := hO.2.2.1
  have hTb := totB_in hO.2.1
  have hprr := hO.2.2.2.2.1
  refine j_aload_n 0 C dX7_meanMoisture_0 rfl rfl rfl ?_
  refine j_iload_n 1 C dX7_meanMoisture_1 rfl rfl rfl ?_
  rcases Classical.em (b < 0 ∨ (bs.length : Int) ≤ b) with hq | hq
  · refine j_callV (st' := []) (As := [vi (b)]) C dX7_meanMoisture_2 rfl m_X7_66 h01 rfl rfl rfl (c_nb1 (kL κ) hfl (kD κ) (kc κ) σ am bs ru se pf hd ca evs ln bl th hM b ⟨by omega, by omega⟩ hq) rfl (by omega) (by omega) (by omega) (fun _ _ hx => hx.elim) (fun v3 τ2 hp4 => ?_)
    obtain ⟨rfl, hN5, hN5k, hN5d⟩ := hp4
    show J κ τ2 [(0, .ref (am 0)), (1, vi (b))] 5 [vi (1)] _ _
    have hN5K := kp0.tr hN5k
    have hN5D := hN5d.trans dm0
    obtain ⟨hI6, gc6, gm6, gr6, gp6, gb6, go6, gf6, gg6, gt6, gz6, gk6, gl6, _, _, _, h06, ⟨hgc6, hgm6, hgr6, hgp6, hgb6, hgo6, hgf6, hgg6, hgt6, hgz6, hgk6, hgl6⟩, ⟨rfl, rfl, rfl⟩, hBn6, hRu6, hPr6, hTr6, hKi6, hLi6⟩ := id hN5
    have hI := hI6
    have hnb66 := hBn6.1
    refine j_if_ne (tgt := 30) C dX7_meanMoisture_5 rfl rfl ⟨by omega, by omega⟩ (fun _ => ?_) (fun cc7 => absurd cc7 (by decide))
    refine j_dconst0 C dX7_meanMoisture_30 rfl ?_
    have ho : cdMean bs b = 1 := by unfold cdMean; rw [if_pos (by omega)]
    exact j_dret C E dX7_meanMoisture_31 (by omega) (by omega) ⟨_, rfl, by rw [ho]; exact fun h9 => absurd (show (1 : Int) = 0 from h9) (by decide), ⟨_, by rw [ho]; exact hN5⟩, hN5K, hN5D⟩
  · obtain ⟨i, hi, rfl⟩ : ∃ i : Nat, i < bs.length ∧ b = (i : Int) := ⟨b.toNat, by omega, by omega⟩
    have hmmi := gB_mem (bs := bs) (i := (i : Int)) (by omega) (by omega)
    obtain ⟨hcpi, hlyi, htci⟩ := hO.2.1 _ hmmi
    have hlli := len_lenB hmmi
    have ht0i := tot_0 hlyi
    have hfli : tot (fl (gB bs (i : Int))) = tot (gB bs (i : Int)).2.2 := sum_fl _ _
    have hfoi : lysOk (fl (gB bs (i : Int))) := fl_ok hlyi
    refine j_callV (st' := []) (As := [vi ((i : Int))]) C dX7_meanMoisture_2 rfl m_X7_66 h01 rfl rfl rfl (c_nb0 (kL κ) hfl (kD κ) (kc κ) σ am bs ru se pf hd ca evs ln bl th hM i hi) rfl (by omega) (by omega) (by omega) (fun _ _ hx => hx.elim) (fun v9 τ8 hp10 => ?_)
    obtain ⟨rfl, hN11, hN11k, hN11d⟩ := hp10
    show J κ τ8 [(0, .ref (am 0)), (1, vi ((i : Int)))] 5 [vi (0)] _ _
    have hN11K := kp0.tr hN11k
    have hN11D := hN11d.trans dm0
    obtain ⟨hI12, gc12, gm12, gr12, gp12, gb12, go12, gf12, gg12, gt12, gz12, gk12, gl12, _, _, _, h012, ⟨hgc12, hgm12, hgr12, hgp12, hgb12, hgo12, hgf12, hgg12, hgt12, hgz12, hgk12, hgl12⟩, ⟨rfl, rfl, rfl⟩, hBn12, hRu12, hPr12, hTr12, hKi12, hLi12⟩ := id hN11
    have hI := hI12
    have hnb612 := hBn12.1
    refine j_if_ne (tgt := 30) C dX7_meanMoisture_5 rfl rfl ⟨by omega, by omega⟩ (fun cc13 => absurd cc13 (by decide)) (fun _ => ?_)
    obtain ⟨⟨cap, mf, ly⟩, hg⟩ : ∃ z, gB bs (i : Int) = z := ⟨_, rfl⟩
    have hbk_12 := hBn12.2.2 i hi
    rw [hg] at hbk_12
    obtain ⟨⟨hcp_12, hmz_12⟩, ⟨hmn_12, hl9_12⟩, hrw_12⟩ := hbk_12
    dsimp only at hcp_12 hmz_12 hmn_12 hl9_12 hrw_12
    refine j_aload_n 0 C dX7_meanMoisture_8 rfl rfl rfl ?_
    refine j_aload_n 0 C dX7_meanMoisture_9 rfl rfl rfl ?_
    refine j_get C dX7_meanMoisture_10 rfl fg_X7_13 h012 rfl ?_
    refine j_iload_n 1 C dX7_meanMoisture_13 rfl rfl rfl ?_
    refine j_iald C dX7_meanMoisture_14 rfl hgm12 ⟨by omega, by omega⟩ (by omega) hmn_12 ?_
    refine j_if_ne (tgt := 22) C dX7_meanMoisture_15 rfl rfl ⟨by omega, by omega⟩ (fun cc14 => ?_) (fun cc14 => ?_)
    · refine j_iconst C dX7_meanMoisture_22 rfl ?_
      refine j_iconst C dX7_meanMoisture_23 rfl ?_
      refine j_callV (st' := []) (As := [vi (0), vi (2)]) C dX7_meanMoisture_24 rfl m_X7_62 h012 rfl rfl rfl (c_thr0 (kL κ) hfl (kD κ) (kc κ) τ8 am bs ru se pf hd ca evs ln bl 0 hN11 2) rfl (by omega) (by omega) (by omega) (fun _ _ hx => hx.elim) (fun v16 τ15 hp17 => ?_)
      obtain ⟨rfl, hN18, hN18k, hN18d⟩ := hp17
      show J κ τ15 [(0, .ref (am 0)), (1, vi ((i : Int)))] 27 [vi (0)] _ _
      have hN18K := hN11K.tr hN18k
      have hN18D := hN18d.trans hN11D
      obtain ⟨hI19, gc19, gm19, gr19, gp19, gb19, go19, gf19, gg19, gt19, gz19, gk19, gl19, _, _, _, h019, ⟨hgc19, hgm19, hgr19, hgp19, hgb19, hgo19, hgf19, hgg19, hgt19, hgz19, hgk19, hgl19⟩, ⟨rfl, rfl, rfl⟩, hBn19, hRu19, hPr19, hTr19, hKi19, hLi19⟩ := id hN18
      have hI := hI19
      have hnb619 := hBn19.1
      refine j_if_eq (tgt := 32) C dX7_meanMoisture_27 rfl rfl ⟨by omega, by omega⟩ (fun _ => ?_) (fun cc20 => absurd cc20 (by decide))
      have hbk_19 := hBn19.2.2 i hi
      rw [hg] at hbk_19
      obtain ⟨⟨hcp_19, hmz_19⟩, ⟨hmn_19, hl9_19⟩, hrw_19⟩ := hbk_19
      dsimp only at hcp_19 hmz_19 hmn_19 hl9_19 hrw_19
      have hokl : lysOk ly := by have e := hlyi; rw [hg] at e; exact e
      have htl := tot_len hokl
      refine j_iconst C dX7_meanMoisture_32 rfl ?_
      refine j_istore_n (lv' := [(0, .ref (am 0)), (1, vi ((i : Int))), (2, vi (0))]) [1, 2, 0] C dX7_meanMoisture_33 rfl rfl rfl rfl ?_
      refine j_bipush C dX7_meanMoisture_34 rfl (by decide) ?_
      refine j_iload_n 1 C dX7_meanMoisture_36 rfl rfl rfl ?_
      refine j_imul C dX7_meanMoisture_37 rfl ?_
      refine j_istore_n (lv' := [(0, .ref (am 0)), (1, vi ((i : Int))), (2, vi (0)), (3, vi (90 * (i : Int)))]) [1, 2, 3, 0] C dX7_meanMoisture_38 rfl rfl rfl rfl ?_
      have lp : ∀ (N : Nat) (k : Nat), k ≤ ly.length → (ly.length + 1 - k) < N → J κ τ15 [(0, .ref (am 0)), (1, vi ((i : Int))), (2, vi ((sumL wf (ly.take k)))), (3, vi ((90 * (i : Int) + (k : Int))))] 39 [] 0 0 := by
        intro N
        induction N with
        | zero => intro k hk hN; exact absurd hN (Nat.not_lt_zero _)
        | succ N ih =>
          intro k hk hN
          refine j_iload_n 3 C dX7_meanMoisture_39 rfl rfl rfl ?_
          refine j_bipush C dX7_meanMoisture_40 rfl (by decide) ?_
          refine j_iload_n 1 C dX7_meanMoisture_42 rfl rfl rfl ?_
          refine j_imul C dX7_meanMoisture_43 rfl ?_
          refine j_aload_n 0 C dX7_meanMoisture_44 rfl rfl rfl ?_
          refine j_get C dX7_meanMoisture_45 rfl fg_X7_13 h019 rfl ?_
          refine j_iload_n 1 C dX7_meanMoisture_48 rfl rfl rfl ?_
          refine j_iald C dX7_meanMoisture_49 rfl hgm19 ⟨by omega, by omega⟩ (by omega) hmn_19 ?_
          refine j_iadd C dX7_meanMoisture_50 rfl ?_
          refine j_icmp_ge (tgt := 76) C dX7_meanMoisture_51 rfl rfl ⟨by omega, by omega⟩ ⟨by omega, by omega⟩ (fun cc21 => ?_) (fun cc21 => ?_)
          · refine j_iload_n 2 C dX7_meanMoisture_76 rfl rfl rfl ?_
            refine j_i2d C dX7_meanMoisture_77 rfl ?_
            refine j_aload_n 0 C dX7_meanMoisture_78 rfl rfl rfl ?_
            refine j_iload_n 1 C dX7_meanMoisture_79 rfl rfl rfl ?_
            refine j_callV (st' := [.double (FP.i2d (Int32.ofInt ((sumL wf (ly.take k)))))]) (As := [vi ((i : Int))]) C dX7_meanMoisture_80 rfl m_X7_93 h019 rfl rfl rfl (c_within (kL κ) hfl (kD κ) (kc κ) τ15 am bs ru se pf hd ca evs ln bl 0 hN18 i hi) rfl (by omega) (by omega) (by omega) (fun _ _ hx => hx.elim) (fun v23 τ22 hp24 => ?_)
            obtain ⟨rfl, hs9⟩ := hp24
            replace hs9 := hs9.symm
            subst hs9
            show J κ τ15 [(0, .ref (am 0)), (1, vi ((i : Int))), (2, vi ((sumL wf (ly.take k)))), (3, vi ((90 * (i : Int) + (k : Int))))] 83 [vi ((tot (gB bs (i : Int)).2.2)), .double (FP.i2d (Int32.ofInt ((sumL wf (ly.take k)))))] _ _
            have ht8 : tot (gB bs (i : Int)).2.2 = tot ly := by rw [hg]
            refine j_i2d C dX7_meanMoisture_83 rfl ?_
            refine j_ddiv C dX7_meanMoisture_84 rfl (fp_d _ ⟨by omega, by omega⟩) ?_
            have ht9 : tot (gB bs (i : Int)).2.2 = tot ly := by rw [hg]
            have hnz : ¬ tot (gB bs (i : Int)).2.2 = 0 := by omega
            have ho : cdMean bs (i : Int) = 0 := by unfold cdMean; rw [if_neg (by omega), if_neg hnz]
            exact j_dret C E dX7_meanMoisture_85 (by omega) (by omega) ⟨_, rfl, fun _ => (by unfold vMean; rw [hg, List.take_of_length_le (by omega)]), ⟨_, by rw [ho]; exact hN18⟩, hN18K, hN18D⟩
          · have hs9 := sum_takeN wf (l := ly) (k := k) (by omega)
            refine j_iload_n 2 C dX7_meanMoisture_54 rfl rfl rfl ?_
            refine j_aload_n 0 C dX7_meanMoisture_55 rfl rfl rfl ?_
            refine j_get C dX7_meanMoisture_56 rfl fg_X7_22 h019 rfl ?_
            refine j_iload_n 3 C dX7_meanMoisture_59 rfl rfl rfl ?_
            refine j_iald C dX7_meanMoisture_60 rfl hgb19 ⟨by omega, by omega⟩ (by omega) (rowK hrw_19 (k := k) (by omega) (z := (90 * (i : Int) + (k : Int))) (by omega)).1 ?_
            refine j_aload_n 0 C dX7_meanMoisture_61 rfl rfl rfl ?_
            refine j_get C dX7_meanMoisture_62 rfl fg_X7_25 h019 rfl ?_
            refine j_iload_n 3 C dX7_meanMoisture_65 rfl rfl rfl ?_
            refine j_iald C dX7_meanMoisture_66 rfl hgo19 ⟨by omega, by omega⟩ (by omega) (rowK hrw_19 (k := k) (by omega) (z := (90 * (i : Int) + (k : Int))) (by omega)).2.1 ?_
            refine j_imul C dX7_meanMoisture_67 rfl ?_
            refine j_iadd C dX7_meanMoisture_68 rfl ?_
            refine j_istore_n (lv' := [(0, .ref (am 0)), (1, vi ((i : Int))), (2, vi ((sumL wf (ly.take k)) + (((lyAt ly (k : Int)).1) * ((lyAt ly (k : Int)).2.1)))), (3, vi ((90 * (i : Int) + (k : Int))))]) [1, 2, 0, 3] C dX7_meanMoisture_69 rfl rfl rfl rfl ?_
            refine j_iinc (y := (90 * (i : Int) + (k : Int)) + 1) (lv' := [(0, .ref (am 0)), (1, vi ((i : Int))), (2, vi ((sumL wf (ly.take k)) + (((lyAt ly (k : Int)).1) * ((lyAt ly (k : Int)).2.1)))), (3, vi ((90 * (i : Int) + (k : Int)) + 1))]) 3 [1, 2, 3, 0] C dX7_meanMoisture_70 rfl rfl rfl rfl rfl ?_
            refine j_goto (tgt := 39) C dX7_meanMoisture_73 rfl ?_
            refine j_locals (lv' := [(0, .ref (am 0)), (1, vi ((i : Int))), (2, vi (sumL wf (ly.take (k + 1)))), (3, vi (90 * (i : Int) + ((k + 1 : Nat) : Int)))]) [0, 1, 2, 3] (by rw [hs9, show 90 * (i : Int) + ((k + 1 : Nat) : Int) = (90 * (i : Int) + (k : Int)) + 1 by omega]; rfl) ?_
            exact ih (k + 1) (by omega) (by omega)
      refine j_locals (lv' := [(0, .ref (am 0)), (1, vi ((i : Int))), (2, vi (sumL wf (ly.take 0))), (3, vi (90 * (i : Int) + ((0 : Nat) : Int)))]) [0, 1, 2, 3] (by rw [show 90 * (i : Int) + ((0 : Nat) : Int) = 90 * (i : Int) by omega]; rfl) ?_
      exact lp _ 0 (Nat.zero_le _) (Nat.lt_succ_self _)
    · refine j_iconst C dX7_meanMoisture_18 rfl ?_
      refine j_goto (tgt := 23) C dX7_meanMoisture_19 rfl ?_
      refine j_iconst C dX7_meanMoisture_23 rfl ?_
      refine j_callV (st' := []) (As := [vi (1), vi (2)]) C dX7_meanMoisture_24 rfl m_X7_62 h012 rfl rfl rfl (c_thr1 (kL κ) hfl (kD κ) (kc κ) τ8 am bs ru se pf hd ca evs ln bl 0 hN11 2) rfl (by omega) (by omega) (by omega) (fun _ _ hx => hx.elim) (fun v26 τ25 hp27 => ?_)
      obtain ⟨rfl, hN28, hN28k, hN28d⟩ := hp27
      show J κ τ25 [(0, .ref (am 0)), (1, vi ((i : Int)))] 27 [vi (1)] _ _
      have hN28K := hN11K.tr hN28k
      have hN28D := hN28d.trans hN11D
      obtain ⟨hI29, gc29, gm29, gr29, gp29, gb29, go29, gf29, gg29, gt29, gz29, gk29, gl29, _, _, _, h029, ⟨hgc29, hgm29, hgr29, hgp29, hgb29, hgo29, hgf29, hgg29, hgt29, hgz29, hgk29, hgl29⟩, ⟨rfl, rfl, rfl⟩, hBn29, hRu29, hPr29, hTr29, hKi29, hLi29⟩ := id hN28
      have hI := hI29
      have hnb629 := hBn29.1
      refine j_if_eq (tgt := 32) C dX7_meanMoisture_27 rfl rfl ⟨by omega, by omega⟩ (fun cc30 => absurd cc30 (by decide)) (fun _ => ?_)
      refine j_dconst0 C dX7_meanMoisture_30 rfl ?_
      have hz9 : tot (gB bs (i : Int)).2.2 = 0 := by rw [hg]; show tot ly = 0; rw [List.eq_nil_of_length_eq_zero (l := ly) (by omega)]; rfl
      have ho : cdMean bs (i : Int) = 2 := by unfold cdMean; rw [if_neg (by omega), if_pos hz9]
      exact j_dret C E dX7_meanMoisture_31 (by omega) (by omega) ⟨_, rfl, by rw [ho]; exact fun h9 => absurd (show (2 : Int) = 0 from h9) (by decide), ⟨_, by rw [ho]; exact hN28⟩, hN28K, hN28D⟩
set_option maxHeartbeats 8000000 in
set_option maxRecDepth 20000 in
theorem m_wetShare (l : Launch) (hfl : l.stackTraces = false) (D : va_G) (cy : Nat → Nat) (σ : Wd) (am : Nat → Nat) (bs : List Bn) (ru : Nat → Int × Int) (se : Int) (pf : Nat → Int) (hd : Hd) (ca : Int) (evs : List Evt) (ln : List Int) (bl : Int × Int × Int) (th : Int) (hM : RM cy σ am bs ru se pf hd ca evs ln bl th) (m : Int) (hm9 : (-2147483648 ≤ m ∧ m < 2147483648)) (hO : Ok bs ru se pf hd evs ln) : Ct l yX7_wetShare cX7_wetShare 4 (some .float) 3 0 0 D cy [.ref (am 0), vi (m)] σ (fun v σ' => ∃ rz : UInt32, v = some (.float rz) ∧ (cdWet bs m = 0 → rz = vWet bs m) ∧ (∃ bl', RM cy σ' am bs ru se pf hd ca evs ln bl' (cdWet bs m)) ∧ Keep σ σ' (inM am) ∧ σ'.1 = σ.1) noX := by
  refine ct_start (by decide +kernel) hfl rfl (fun κ e1 e2 e3 C E NH => ?_)
  subst e1 e2 e3
  have C : Cx κ cX7_wetShare 4 RX7 "wetShare" 3 := C
  obtain ⟨-, -, -, -, hc, hs⟩ := id E
  show J κ σ [(0, .ref (am 0)), (1, vi (m))] 0 [] 0 0
  obtain ⟨hI1, gc1, gm1, gr1, gp1, gb1, go1, gf1, gg1, gt1, gz1, gk1, gl1, _, _, _, h01, ⟨hgc1, hgm1, hgr1, hgp1, hgb1, hgo1, hgf1, hgg1, hgt1, hgz1, hgk1, hgl1⟩, ⟨rfl, rfl, rfl⟩, hBn1, hRu1, hPr1, hTr1, hKi1, hLi1⟩ := id hM
  have hI := hI1
  have hnb61 := hBn1.1
  have kp0 : Keep σ σ (inM am) := Keep.rf
  have dm0 : σ.1 = σ.1 := rfl
  obtain ⟨⟨hc1, hc2⟩, hc3, hc4⟩ := hO.2.2.2.1
  have h6 := hO.1
  have hlb := hO.2.2.1
  have hTb := totB_in hO.2.1
  have hprr := hO.2.2.2.2.1
  refine j_aload_n 0 C dX7_wetShare_0 rfl rfl rfl ?_
  refine j_iload_n 1 C dX7_wetShare_1 rfl rfl rfl ?_
  refine j_callS (st' := [.ref (am 0)]) (As := [vi (m)]) C dX7_wetShare_2 rfl m_X7_70 rfl rfl (c_isMoist (kL κ) hfl (kD κ) (kc κ) σ m ⟨by omega, by omega⟩) rfl (by omega) (by omega) (by omega) (fun _ _ hx => hx.elim) (fun v3 τ2 hp4 => ?_)
  obtain ⟨rfl, hs9⟩ := hp4
  replace hs9 := hs9.symm
  subst hs9
  show J κ σ [(0, .ref (am 0)), (1, vi (m))] 5 [vi ((inI m 80 300)), .ref (am 0)] _ _
  refine j_if_ne (tgt := 12) C dX7_wetShare_5 rfl rfl (inI_r _ _ _) (fun cc5 => ?_) (fun cc5 => ?_)
  · replace cc5 := inI_T cc5
    refine j_iconst C dX7_wetShare_12 rfl ?_
    refine j_iconst C dX7_wetShare_13 rfl ?_
    refine j_callV (st' := []) (As := [vi (0), vi (1)]) C dX7_wetShare_14 rfl m_X7_62 h01 rfl rfl rfl (c_thr0 (kL κ) hfl (kD κ) (kc κ) σ am bs ru se pf hd ca evs ln bl th hM 1) rfl (by omega) (by omega) (by omega) (fun _ _ hx => hx.elim) (fun v7 τ6 hp8 => ?_)
    obtain ⟨rfl, hN9, hN9k, hN9d⟩ := hp8
    show J κ τ6 [(0, .ref (am 0)), (1, vi (m))] 17 [vi (0)] _ _
    have hN9K := kp0.tr hN9k
    have hN9D := hN9d.trans dm0
    obtain ⟨hI10, gc10, gm10, gr10, gp10, gb10, go10, gf10, gg10, gt10, gz10, gk10, gl10, _, _, _, h010, ⟨hgc10, hgm10, hgr10, hgp10, hgb10, hgo10, hgf10, hgg10, hgt10, hgz10, hgk10, hgl10⟩, ⟨rfl, rfl, rfl⟩, hBn10, hRu10, hPr10, hTr10, hKi10, hLi10⟩ := id hN9
    have hI := hI10
    have hnb610 := hBn10.1
    refine j_if_ne (tgt := 40) C dX7_wetShare_17 rfl rfl ⟨by omega, by omega⟩ (fun cc11 => absurd cc11 (by decide)) (fun _ => ?_)
    refine j_aload_n 0 C dX7_wetShare_20 rfl rfl rfl ?_
    refine j_aload_n 0 C dX7_wetShare_21 rfl rfl rfl ?_
    refine j_callV (st' := [.ref (am 0)]) (As := []) C dX7_wetShare_22 rfl m_X7_83 h010 rfl rfl rfl (c_all (kL κ) hfl (kD κ) (kc κ) τ6 am bs ru se pf hd ca evs ln bl 0 hN9 ) rfl (by omega) (by omega) (by omega) (fun _ _ hx => hx.elim) (fun v13 τ12 hp14 => ?_)
    obtain ⟨rfl, hs9⟩ := hp14
    replace hs9 := hs9.symm
    subst hs9
    show J κ τ6 [(0, .ref (am 0)), (1, vi (m))] 25 [vi ((totB bs)), .ref (am 0)] _ _
    refine j_if_ne (tgt := 32) C dX7_wetShare_25 rfl rfl ⟨by omega, by omega⟩ (fun cc15 => ?_) (fun cc15 => ?_)
    · refine j_iconst C dX7_wetShare_32 rfl ?_
      refine j_iconst C dX7_wetShare_33 rfl ?_
      refine j_callV (st' := []) (As := [vi (0), vi (2)]) C dX7_wetShare_34 rfl m_X7_62 h010 rfl rfl rfl (c_thr0 (kL κ) hfl (kD κ) (kc κ) τ6 am bs ru se pf hd ca evs ln bl 0 hN9 2) rfl (by omega) (by omega) (by omega) (fun _ _ hx => hx.elim) (fun v17 τ16 hp18 => ?_)
      obtain ⟨rfl, hN19, hN19k, hN19d⟩ := hp18
      show J κ τ16 [(0, .ref (am 0)), (1, vi (m))] 37 [vi (0)] _ _
      have hN19K := hN9K.tr hN19k
      have hN19D := hN19d.trans hN9D
      obtain ⟨hI20, gc20, gm20, gr20, gp20, gb20, go20, gf20, gg20, gt20, gz20, gk20, gl20, _, _, _, h020, ⟨hgc20, hgm20, hgr20, hgp20, hgb20, hgo20, hgf20, hgg20, hgt20, hgz20, hgk20, hgl20⟩, ⟨rfl, rfl, rfl⟩, hBn20, hRu20, hPr20, hTr20, hKi20, hLi20⟩ := id hN19
      have hI := hI20
      have hnb620 := hBn20.1
      refine j_if_eq (tgt := 42) C dX7_wetShare_37 rfl rfl ⟨by omega, by omega⟩ (fun _ => ?_) (fun cc21 => absurd cc21 (by decide))
      refine j_iconst C dX7_wetShare_42 rfl ?_
      refine j_istore_n (lv' := [(0, .ref (am 0)), (1, vi (m)), (2, vi (0))]) [1, 2, 0] C dX7_wetShare_43 rfl rfl rfl rfl ?_
      refine j_iconst C dX7_wetShare_44 rfl ?_
      refine j_istore_n (lv' := [(0, .ref (am 0)), (1, vi (m)), (2, vi (0)), (3, vi (0))]) [1, 2, 3, 0] C dX7_wetShare_45 rfl rfl rfl rfl ?_
      have lp : ∀ (N : Nat) (k : Nat), k ≤ 90 * bs.length → (90 * bs.length + 1 - k) < N → J κ τ16 [(0, .ref (am 0)), (1, vi (m)), (2, vi ((sB (wetF m) bs k))), (3, vi ((k : Int)))] 46 [] 0 0 := by
        intro N
        induction N with
        | zero => intro k hk hN; exact absurd hN (Nat.not_lt_zero _)
        | succ N ih =>
          intro k hk hN
          refine j_iload_n 3 C dX7_wetShare_46 rfl rfl rfl ?_
          refine j_bipush C dX7_wetShare_47 rfl (by decide) ?_
          refine j_aload_n 0 C dX7_wetShare_49 rfl rfl rfl ?_
          refine j_get C dX7_wetShare_50 rfl fg_X7_55 h020 rfl ?_
          refine j_imul C dX7_wetShare_53 rfl ?_
          refine j_icmp_ge (tgt := 102) C dX7_wetShare_54 rfl rfl ⟨by omega, by omega⟩ ⟨by omega, by omega⟩ (fun cc22 => ?_) (fun cc22 => ?_)
          · refine j_iload_n 2 C dX7_wetShare_102 rfl rfl rfl ?_
            refine j_i2f C dX7_wetShare_103 rfl ?_
            refine j_aload_n 0 C dX7_wetShare_104 rfl rfl rfl ?_
            refine j_callV (st' := [.float (FP.i2f (Int32.ofInt ((sB (wetF m) bs k))))]) (As := []) C dX7_wetShare_105 rfl m_X7_83 h020 rfl rfl rfl (c_all (kL κ) hfl (kD κ) (kc κ) τ16 am bs ru se pf hd ca evs ln bl 0 hN19 ) rfl (by omega) (by omega) (by omega) (fun _ _ hx => hx.elim) (fun v24 τ23 hp25 => ?_)
            obtain ⟨rfl, hs9⟩ := hp25
            replace hs9 := hs9.symm
            subst hs9
            show J κ τ16 [(0, .ref (am 0)), (1, vi (m)), (2, vi ((sB (wetF m) bs k))), (3, vi ((k : Int)))] 108 [vi ((totB bs)), .float (FP.i2f (Int32.ofInt ((sB (wetF m) bs k))))] _ _
            refine j_i2f C dX7_wetShare_108 rfl ?_
            refine j_fdiv C dX7_wetShare_109 rfl (fp_f _ ⟨by omega, by omega⟩) ?_
            have ho : cdWet bs m = 0 := by unfold cdWet; rw [if_neg (by omega), if_neg (by omega)]
            exact j_fret C E dX7_wetShare_110 (by omega) (by omega) ⟨_, rfl, fun _ => (by unfold vWet; rw [show k = 90 * bs.length by omega, sB_end]), ⟨_, by rw [ho]; exact hN19⟩, hN19K, hN19D⟩
          · obtain ⟨b, hb0⟩ : ∃ b, k / 90 = b := ⟨_, rfl⟩
            obtain ⟨r, hr0⟩ : ∃ r, k % 90 = r := ⟨_, rfl⟩
            have hb9 : b < bs.length := by omega
            obtain ⟨⟨cap, mf, ly⟩, hg⟩ : ∃ z, gB bs (b : Int) = z := ⟨_, rfl⟩
            have hbk_20 := hBn20.2.2 b hb9
            rw [hg] at hbk_20
            obtain ⟨⟨hcp_20, hmz_20⟩, ⟨hmn_20, hl9_20⟩, hrw_20⟩ := hbk_20
            dsimp only at hcp_20 hmz_20 hmn_20 hl9_20 hrw_20
            have hokl : lysOk ly := by have e := (hO.2.1 _ (gB_mem (bs := bs) (i := (b : Int)) (by omega) (by omega))).2.1; rw [hg] at e; exact e
            have hst := sB_step (wetF m) (bs := bs) (k := k) (by omega) (l := ly) (by rw [hb0, hg]) hl9_20
            rw [hr0] at hst
            refine j_iload_n 2 C dX7_wetShare_57 rfl rfl rfl ?_
            refine j_iload_n 3 C dX7_wetShare_58 rfl rfl rfl ?_
            refine j_bipush C dX7_wetShare_59 rfl (by decide) ?_
            refine j_irem C dX7_wetShare_61 rfl ⟨by omega, by omega⟩ ⟨by omega, by omega⟩ ?_
            refine j_aload_n 0 C dX7_wetShare_62 rfl rfl rfl ?_
            refine j_get C dX7_wetShare_63 rfl fg_X7_13 h020 rfl ?_
            refine j_iload_n 3 C dX7_wetShare_66 rfl rfl rfl ?_
            refine j_bipush C dX7_wetShare_67 rfl (by decide) ?_
            refine j_idiv C dX7_wetShare_69 rfl ⟨by omega, by omega⟩ ⟨by omega, by omega⟩ ?_
            refine j_iald C dX7_wetShare_70 rfl hgm20 ⟨by omega, by omega⟩ (by omega) ((congrArg gm20 (show ((k : Int) / 90).toNat = b by omega)).trans hmn_20) ?_
            refine j_icmp_ge (tgt := 93) C dX7_wetShare_71 rfl rfl ⟨by omega, by omega⟩ ⟨by omega, by omega⟩ (fun cc26 => ?_) (fun cc26 => ?_)
            · rw [if_neg (by omega)] at hst
              refine j_iconst C dX7_wetShare_93 rfl ?_
              refine j_iadd C dX7_wetShare_94 rfl ?_
              refine j_istore_n (lv' := [(0, .ref (am 0)), (1, vi (m)), (2, vi ((sB (wetF m) bs k) + 0)), (3, vi ((k : Int)))]) [1, 2, 0, 3] C dX7_wetShare_95 rfl rfl rfl rfl ?_
              refine j_iinc (y := (k : Int) + 1) (lv' := [(0, .ref (am 0)), (1, vi (m)), (2, vi ((sB (wetF m) bs k) + 0)), (3, vi ((k : Int) + 1))]) 3 [1, 2, 3, 0] C dX7_wetShare_96 rfl rfl rfl rfl rfl ?_
              refine j_goto (tgt := 46) C dX7_wetShare_99 rfl ?_
              refine j_locals (lv' := [(0, .ref (am 0)), (1, vi (m)), (2, vi (sB (wetF m) bs (k + 1))), (3, vi ((k : Int) + 1))]) [0, 1, 2, 3] (by rw [hst]; rfl) ?_
              exact ih (k + 1) (by omega) (by omega)
            · have hly9 := hokl _ (lyAt_mem (l := ly) (k := r) (by omega))
              obtain ⟨⟨a1, a2⟩, ⟨b1, b2⟩, -, g1, g2⟩ := id hly9
              rw [if_pos (by omega)] at hst
              refine j_aload_n 0 C dX7_wetShare_74 rfl rfl rfl ?_
              refine j_get C dX7_wetShare_75 rfl fg_X7_25 h020 rfl ?_
              refine j_iload_n 3 C dX7_wetShare_78 rfl rfl rfl ?_
              refine j_iald C dX7_wetShare_79 rfl hgo20 ⟨by omega, by omega⟩ (by omega) (rowK hrw_20 (k := r) (by omega) (z := (k : Int)) (by omega)).2.1 ?_
              refine j_iload_n 1 C dX7_wetShare_80 rfl rfl rfl ?_
              refine j_icmp_le (tgt := 93) C dX7_wetShare_81 rfl rfl ⟨by omega, by omega⟩ ⟨by omega, by omega⟩ (fun cc27 => ?_) (fun cc27 => ?_)
              · rw [wetF_F (by omega)] at hst
                refine j_iconst C dX7_wetShare_93 rfl ?_
                refine j_iadd C dX7_wetShare_94 rfl ?_
                refine j_istore_n (lv' := [(0, .ref (am 0)), (1, vi (m)), (2, vi ((sB (wetF m) bs k) + 0)), (3, vi ((k : Int)))]) [1, 2, 0, 3] C dX7_wetShare_95 rfl rfl rfl rfl ?_
                refine j_iinc (y := (k : Int) + 1) (lv' := [(0, .ref (am 0)), (1, vi (m)), (2, vi ((sB (wetF m) bs k) + 0)), (3, vi ((k : Int) + 1))]) 3 [1, 2, 3, 0] C dX7_wetShare_96 rfl rfl rfl rfl rfl ?_
                refine j_goto (tgt := 46) C dX7_wetShare_99 rfl ?_
                refine j_locals (lv' := [(0, .ref (am 0)), (1, vi (m)), (2, vi (sB (wetF m) bs (k + 1))), (3, vi ((k : Int) + 1))]) [0, 1, 2, 3] (by rw [hst]; rfl) ?_
                exact ih (k + 1) (by omega) (by omega)
              · rw [wetF_T (by omega)] at hst
                refine j_aload_n 0 C dX7_wetShare_84 rfl rfl rfl ?_
                refine j_get C dX7_wetShare_85 rfl fg_X7_22 h020 rfl ?_
                refine j_iload_n 3 C dX7_wetShare_88 rfl rfl rfl ?_
                refine j_iald C dX7_wetShare_89 rfl hgb20 ⟨by omega, by omega⟩ (by omega) (rowK hrw_20 (k := r) (by omega) (z := (k : Int)) (by omega)).1 ?_
                refine j_goto (tgt := 94) C dX7_wetShare_90 rfl ?_
                refine j_iadd C dX7_wetShare_94 rfl ?_
                refine j_istore_n (lv' := [(0, .ref (am 0)), (1, vi (m)), (2, vi ((sB (wetF m) bs k) + ((lyAt ly (r : Int)).1))), (3, vi ((k : Int)))]) [1, 2, 0, 3] C dX7_wetShare_95 rfl rfl rfl rfl ?_
                refine j_iinc (y := (k : Int) + 1) (lv' := [(0, .ref (am 0)), (1, vi (m)), (2, vi ((sB (wetF m) bs k) + ((lyAt ly (r : Int)).1))), (3, vi ((k : Int) + 1))]) 3 [1, 2, 3, 0] C dX7_wetShare_96 rfl rfl rfl rfl rfl ?_
                refine j_goto (tgt := 46) C dX7_wetShare_99 rfl ?_
                refine j_locals (lv' := [(0, .ref (am 0)), (1, vi (m)), (2, vi (sB (wetF m) bs (k + 1))), (3, vi ((k : Int) + 1))]) [0, 1, 2, 3] (by rw [hst]; rfl) ?_
                exact ih (k + 1) (by omega) (by omega)
      refine j_locals (lv' := [(0, .ref (am 0)), (1, vi (m)), (2, vi (sB (wetF m) bs 0)), (3, vi ((0 : Nat) : Int))]) [0, 1, 2, 3] rfl ?_
      exact lp _ 0 (Nat.zero_le _) (Nat.lt_succ_self _)
    · refine j_iconst C dX7_wetShare_28 rfl ?_
      refine j_goto (tgt := 33) C dX7_wetShare_29 rfl ?_
      refine j_iconst C dX7_wetShare_33 rfl ?_
      refine j_callV (st' := []) (As := [vi (1), vi (2)]) C dX7_wetShare_34 rfl m_X7_62 h010 rfl rfl rfl (c_thr1 (kL κ) hfl (kD κ) (kc κ) τ6 am bs ru se pf hd ca evs ln bl 0 hN9 2) rfl (by omega) (by omega) (by omega) (fun _ _ hx => hx.elim) (fun v29 τ28 hp30 => ?_)
      obtain ⟨rfl, hN31, hN31k, hN31d⟩ := hp30
      show J κ τ28 [(0, .ref (am 0)), (1, vi (m))] 37 [vi (1)] _ _
      have hN31K := hN9K.tr hN31k
      have hN31D := hN31d.trans hN9D
      obtain ⟨hI32, gc32, gm32, gr32, gp32, gb32, go32, gf32, gg32, gt32, gz32, gk32, gl32, _, _, _, h032, ⟨hgc32, hgm32, hgr32, hgp32, hgb32, hgo32, hgf32, hgg32, hgt32, hgz32, hgk32, hgl32⟩, ⟨rfl, rfl, rfl⟩, hBn32, hRu32, hPr32, hTr32, hKi32, hLi32⟩ := id hN31
      have hI := hI32
      have hnb632 := hBn32.1
      refine j_if_eq (tgt := 42) C dX7_wetShare_37 rfl rfl ⟨by omega, by omega⟩ (fun cc33 => absurd cc33 (by decide)) (fun _ => ?_)
      refine j_fconst0 C dX7_wetShare_40 rfl ?_
      have ho : cdWet bs m = 2 := by unfold cdWet; rw [if_neg (by omega), if_pos (by omega)]
      exact j_fret C E dX7_wetShare_41 (by omega) (by omega) ⟨_, rfl, by rw [ho]; exact fun h9 => absurd (show (2 : Int) = 0 from h9) (by decide), ⟨_, by rw [ho]; exact hN31⟩, hN31K, hN31D⟩
  · replace cc5 := inI_F cc5
    refine j_iconst C dX7_wetShare_8 rfl ?_
    refine j_goto (tgt := 13) C dX7_wetShare_9 rfl ?_
    refine j_iconst C dX7_wetShare_13 rfl ?_
    refine j_callV (st' := []) (As := [vi (1), vi (1)]) C dX7_wetShare_14 rfl m_X7_62 h01 rfl rfl rfl (c_thr1 (kL κ) hfl (kD κ) (kc κ) σ am bs ru se pf hd ca evs ln bl th hM 1) rfl (by omega) (by omega) (by omega) (fun _ _ hx => hx.elim) (fun v35 τ34 hp36 => ?_)
    obtain ⟨rfl, hN37, hN37k, hN37d⟩ := hp36
    show J κ τ34 [(0, .ref (am 0)), (1, vi (m))] 17 [vi (1)] _ _
    have hN37K := kp0.tr hN37k
    have hN37D := hN37d.trans dm0
    obtain ⟨hI38, gc38, gm38, gr38, gp38, gb38, go38, gf38, gg38, gt38, gz38, gk38, gl38, _, _, _, h038, ⟨hgc38, hgm38, hgr38, hgp38, hgb38, hgo38, hgf38, hgg38, hgt38, hgz38, hgk38, hgl38⟩, ⟨rfl, rfl, rfl⟩, hBn38, hRu38, hPr38, hTr38, hKi38, hLi38⟩ := id hN37
    have hI := hI38
    have hnb638 := hBn38.1
    refine j_if_ne (tgt := 40) C dX7_wetShare_17 rfl rfl ⟨by omega, by omega⟩ (fun _ => ?_) (fun cc39 => absurd cc39 (by decide))
    refine j_fconst0 C dX7_wetShare_40 rfl ?_
    have ho : cdWet bs m = 1 := by unfold cdWet; rw [if_pos (by omega)]
    exact j_fret C E dX7_wetShare_41 (by omega) (by omega) ⟨_, rfl, by rw [ho]; exact fun h9 => absurd (show (1 : Int) = 0 from h9) (by decide), ⟨_, by rw [ho]; exact hN37⟩, hN37K, hN37D⟩
