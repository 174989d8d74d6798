/-! GrainElevatorModel: load, sell, transfer, dry -/
theorem nar_l : vp_nar .char (Int32.ofInt 108) = Int32.ofInt 108 := by decide
theorem nar_s : vp_nar .char (Int32.ofInt 115) = Int32.ofInt 115 := by decide
theorem nar_t : vp_nar .char (Int32.ofInt 116) = Int32.ofInt 116 := by decide
theorem nar_d : vp_nar .char (Int32.ofInt 100) = Int32.ofInt 100 := by decide
theorem nar_b : vp_nar .char (Int32.ofInt 98) = Int32.ofInt 98 := by decide
theorem mul_in {n p : Int} (h : 0 ≤ n ∧ n ≤ 2000) (hp : 0 ≤ p ∧ p ≤ 2000) : 0 ≤ n * p ∧ n * p ≤ 4000000 := by
  have h1 : 0 ≤ n * p := Int.mul_nonneg h.1 hp.1
  have h2 : n * p ≤ 2000 * p := Int.mul_le_mul_of_nonneg_right h.2 hp.1
  omega
set_option maxHeartbeats 8000000 in
set_option maxRecDepth 20000 in
theorem m_load (l : Launch) (hfl : l.stackTraces = false) (D : va_G) (cy : Nat → Nat) (σ : Wd) (am : Nat → Nat) (bs : List Bn) (ru : Nat → Int × Int) (se : Int) (pf : Nat → Int) (hd : Hd) (ca : Int) (evs : List Evt) (ln : List Int) (bl : Int × Int × Int) (th : Int) (hM : RM cy σ am bs ru se pf hd ca evs ln bl th) (b : Int) (hb9 : (-2147483648 ≤ b ∧ b < 2147483648)) (n : Int) (hn9 : (-2147483648 ≤ n ∧ n < 2147483648)) (x : Int) (hx9 : (-2147483648 ≤ x ∧ x < 2147483648)) (f : Int) (hf9 : (-2147483648 ≤ f ∧ f < 2147483648)) (hO : Ok bs ru se pf hd evs ln) : Ct l yX7_load cX7_load 6 (some .int) 3 0 0 D cy [.ref (am 0), vi (b), vi (n), vi (x), vi (f)] σ (fun v σ' => ∃ rz : Int, v = some (vi rz) ∧ ((o_load bs ru se pf hd ca evs ln b n x f).1 = 0 → rz = (o_load bs ru se pf hd ca evs ln b n x f).2.1) ∧ (∃ bl', RMs cy σ' am (o_load bs ru se pf hd ca evs ln b n x f).2.2 bl' (o_load bs ru se pf hd ca evs ln b n x f).1) ∧ Keep σ σ' (inM am) ∧ σ'.1 = σ.1) noX := by
  refine ct_start (by decide +kernel) hfl rfl (fun κ e1 e2 e3 C E NH => ?_)
  subst e1 e2 e3
  have C : Cx κ cX7_load 6 RX7 "load" 3 := C
  obtain ⟨-, -, -, -, hc, hs⟩ := id E
  show J κ σ [(0, .ref (am 0)), (1, vi (b)), (2, vi (n)), (3, vi (x)), (4, vi (f))] 0 [] 0 0
  obtain ⟨hI1, gc1, gm1, gr1, gp1, gb1, go1, gf1, gg1, gt1, gz1, gk1, gl1, _, _, _, h01, ⟨hgc1, hgm1, hgr1, hgp1, hgb1, hgo1, hgf1, hgg1, hgt1, hgz1, hgk1, hgl1⟩, ⟨rfl, rfl, rfl⟩, hBn1, hRu1, hPr1, hTr1, hKi1, hLi1⟩ := id hM
  have hI := hI1
  have hnb61 := hBn1.1
  have kp0 : Keep σ σ (inM am) := Keep.rf
  have dm0 : σ.1 = σ.1 := rfl
  obtain ⟨⟨hc1, hc2⟩, hc3, hc4⟩ := hO.2.2.2.1
  have h6 := hO.1
  have hlb := hO.2.2.1
  have hTb := totB_in hO.2.1
  have hprr := hO.2.2.2.2.1
  refine j_aload_n 0 C dX7_load_0 rfl rfl rfl ?_
  refine j_iload_n 1 C dX7_load_1 rfl rfl rfl ?_
  rcases Classical.em (b < 0 ∨ (bs.length : Int) ≤ b) with hq | hq
  · refine j_callV (st' := []) (As := [vi (b)]) C dX7_load_2 rfl m_X7_66 h01 rfl rfl rfl (c_nb1 (kL κ) hfl (kD κ) (kc κ) σ am bs ru se pf hd ca evs ln bl th hM b ⟨by omega, by omega⟩ hq) rfl (by omega) (by omega) (by omega) (fun _ _ hx => hx.elim) (fun v3 τ2 hp4 => ?_)
    obtain ⟨rfl, hN5, hN5k, hN5d⟩ := hp4
    show J κ τ2 [(0, .ref (am 0)), (1, vi (b)), (2, vi (n)), (3, vi (x)), (4, vi (f))] 5 [vi (1)] _ _
    have hN5K := kp0.tr hN5k
    have hN5D := hN5d.trans dm0
    obtain ⟨hI6, gc6, gm6, gr6, gp6, gb6, go6, gf6, gg6, gt6, gz6, gk6, gl6, _, _, _, h06, ⟨hgc6, hgm6, hgr6, hgp6, hgb6, hgo6, hgf6, hgg6, hgt6, hgz6, hgk6, hgl6⟩, ⟨rfl, rfl, rfl⟩, hBn6, hRu6, hPr6, hTr6, hKi6, hLi6⟩ := id hN5
    have hI := hI6
    have hnb66 := hBn6.1
    refine j_if_ne (tgt := 88) C dX7_load_5 rfl rfl ⟨by omega, by omega⟩ (fun _ => ?_) (fun cc7 => absurd cc7 (by decide))
    refine j_iconst C dX7_load_88 rfl ?_
    have ho : o_load bs ru se pf hd ca evs ln b n x f = (1, 0, (bs, ru, se, pf, hd, ca, evs, ln)) := by unfold o_load; rw [if_pos (by omega)]
    exact j_iret C E dX7_load_89 (by omega) (by omega) ⟨_, rfl, by rw [ho]; exact fun h9 => absurd (show (1 : Int) = 0 from h9) (by decide), ⟨_, by rw [ho]; exact hN5⟩, hN5K, hN5D⟩
  · obtain ⟨i, hi, rfl⟩ : ∃ i : Nat, i < bs.length ∧ b = (i : Int) := ⟨b.toNat, by omega, by omega⟩
    have hmmi := gB_mem (bs := bs) (i := (i : Int)) (by omega) (by omega)
    obtain ⟨hcpi, hlyi, htci⟩ := hO.2.1 _ hmmi
    have hlli := len_lenB hmmi
    have ht0i := tot_0 hlyi
    have hfli : tot (fl (gB bs (i : Int))) = tot (gB bs (i : Int)).2.2 := sum_fl _ _
    have hfoi : lysOk (fl (gB bs (i : Int))) := fl_ok hlyi
    refine j_callV (st' := []) (As := [vi ((i : Int))]) C dX7_load_2 rfl m_X7_66 h01 rfl rfl rfl (c_nb0 (kL κ) hfl (kD κ) (kc κ) σ am bs ru se pf hd ca evs ln bl th hM i hi) rfl (by omega) (by omega) (by omega) (fun _ _ hx => hx.elim) (fun v9 τ8 hp10 => ?_)
    obtain ⟨rfl, hN11, hN11k, hN11d⟩ := hp10
    show J κ τ8 [(0, .ref (am 0)), (1, vi ((i : Int))), (2, vi (n)), (3, vi (x)), (4, vi (f))] 5 [vi (0)] _ _
    have hN11K := kp0.tr hN11k
    have hN11D := hN11d.trans dm0
    obtain ⟨hI12, gc12, gm12, gr12, gp12, gb12, go12, gf12, gg12, gt12, gz12, gk12, gl12, _, _, _, h012, ⟨hgc12, hgm12, hgr12, hgp12, hgb12, hgo12, hgf12, hgg12, hgt12, hgz12, hgk12, hgl12⟩, ⟨rfl, rfl, rfl⟩, hBn12, hRu12, hPr12, hTr12, hKi12, hLi12⟩ := id hN11
    have hI := hI12
    have hnb612 := hBn12.1
    refine j_if_ne (tgt := 88) C dX7_load_5 rfl rfl ⟨by omega, by omega⟩ (fun cc13 => absurd cc13 (by decide)) (fun _ => ?_)
    refine j_aload_n 0 C dX7_load_8 rfl rfl rfl ?_
    refine j_iload_n 2 C dX7_load_9 rfl rfl rfl ?_
    refine j_iconst C dX7_load_10 rfl ?_
    refine j_sipush C dX7_load_11 rfl (by decide) ?_
    refine j_callS (st' := [.ref (am 0)]) (As := [vi (n), vi (1), vi (2000)]) C dX7_load_14 rfl m_X7_58 rfl rfl (c_isIn (kL κ) hfl (kD κ) (kc κ) τ8 n 1 2000 ⟨by omega, by omega⟩ ⟨by omega, by omega⟩ ⟨by omega, by omega⟩) rfl (by omega) (by omega) (by omega) (fun _ _ hx => hx.elim) (fun v15 τ14 hp16 => ?_)
    obtain ⟨rfl, hs9⟩ := hp16
    replace hs9 := hs9.symm
    subst hs9
    show J κ τ8 [(0, .ref (am 0)), (1, vi ((i : Int))), (2, vi (n)), (3, vi (x)), (4, vi (f))] 17 [vi ((inI n 1 2000)), .ref (am 0)] _ _
    refine j_if_eq (tgt := 38) C dX7_load_17 rfl rfl (inI_r _ _ _) (fun cc17 => ?_) (fun cc17 => ?_)
    · replace cc17 := inI_F cc17
      refine j_iconst C dX7_load_38 rfl ?_
      refine j_goto (tgt := 43) C dX7_load_39 rfl ?_
      refine j_iconst C dX7_load_43 rfl ?_
      refine j_callV (st' := []) (As := [vi (1), vi (2)]) C dX7_load_44 rfl m_X7_62 h012 rfl rfl rfl (c_thr1 (kL κ) hfl (kD κ) (kc κ) τ8 am bs ru se pf hd ca evs ln bl 0 hN11 2) rfl (by omega) (by omega) (by omega) (fun _ _ hx => hx.elim) (fun v19 τ18 hp20 => ?_)
      obtain ⟨rfl, hN21, hN21k, hN21d⟩ := hp20
      show J κ τ18 [(0, .ref (am 0)), (1, vi ((i : Int))), (2, vi (n)), (3, vi (x)), (4, vi (f))] 47 [vi (1)] _ _
      have hN21K := hN11K.tr hN21k
      have hN21D := hN21d.trans hN11D
      obtain ⟨hI22, gc22, gm22, gr22, gp22, gb22, go22, gf22, gg22, gt22, gz22, gk22, gl22, _, _, _, h022, ⟨hgc22, hgm22, hgr22, hgp22, hgb22, hgo22, hgf22, hgg22, hgt22, hgz22, hgk22, hgl22⟩, ⟨rfl, rfl, rfl⟩, hBn22, hRu22, hPr22, hTr22, hKi22, hLi22⟩ := id hN21
      have hI := hI22
      have hnb622 := hBn22.1
      refine j_if_ne (tgt := 88) C dX7_load_47 rfl rfl ⟨by omega, by omega⟩ (fun _ => ?_) (fun cc23 => absurd cc23 (by decide))
      refine j_iconst C dX7_load_88 rfl ?_
      have ho : o_load bs ru se pf hd ca evs ln (i : Int) n x f = (2, 0, (bs, ru, se, pf, hd, ca, evs, ln)) := by unfold o_load; rw [if_neg (by omega), if_pos (by omega)]
      exact j_iret C E dX7_load_89 (by omega) (by omega) ⟨_, rfl, by rw [ho]; exact fun h9 => absurd (show (2 : Int) = 0 from h9) (by decide), ⟨_, by rw [ho]; exact hN21⟩, hN21K, hN21D⟩
    · replace cc17 := inI_T cc17
      refine j_iload_n 3 C dX7_load_20 rfl rfl rfl ?_
      refine j_callS (st' := [.ref (am 0)]) (As := [vi (x)]) C dX7_load_21 rfl m_X7_70 rfl rfl (c_isMoist (kL κ) hfl (kD κ) (kc κ) τ8 x ⟨by omega, by omega⟩) rfl (by omega) (by omega) (by omega) (fun _ _ hx => hx.elim) (fun v25 τ24 hp26 => ?_)
      obtain ⟨rfl, hs9⟩ := hp26
      replace hs9 := hs9.symm
      subst hs9
      show J κ τ8 [(0, .ref (am 0)), (1, vi ((i : Int))), (2, vi (n)), (3, vi (x)), (4, vi (f))] 24 [vi ((inI x 80 300)), .ref (am 0)] _ _
      refine j_if_eq (tgt := 38) C dX7_load_24 rfl rfl (inI_r _ _ _) (fun cc27 => ?_) (fun cc27 => ?_)
      · replace cc27 := inI_F cc27
        refine j_iconst C dX7_load_38 rfl ?_
        refine j_goto (tgt := 43) C dX7_load_39 rfl ?_
        refine j_iconst C dX7_load_43 rfl ?_
        refine j_callV (st' := []) (As := [vi (1), vi (2)]) C dX7_load_44 rfl m_X7_62 h012 rfl rfl rfl (c_thr1 (kL κ) hfl (kD κ) (kc κ) τ8 am bs ru se pf hd ca evs ln bl 0 hN11 2) rfl (by omega) (by omega) (by omega) (fun _ _ hx => hx.elim) (fun v29 τ28 hp30 => ?_)
        obtain ⟨rfl, hN31, hN31k, hN31d⟩ := hp30
        show J κ τ28 [(0, .ref (am 0)), (1, vi ((i : Int))), (2, vi (n)), (3, vi (x)), (4, vi (f))] 47 [vi (1)] _ _
        have hN31K := hN11K.tr hN31k
        have hN31D := hN31d.trans hN11D
        obtain ⟨hI32, gc32, gm32, gr32, gp32, gb32, go32, gf32, gg32, gt32, gz32, gk32, gl32, _, _, _, h032, ⟨hgc32, hgm32, hgr32, hgp32, hgb32, hgo32, hgf32, hgg32, hgt32, hgz32, hgk32, hgl32⟩, ⟨rfl, rfl, rfl⟩, hBn32, hRu32, hPr32, hTr32, hKi32, hLi32⟩ := id hN31
        have hI := hI32
        have hnb632 := hBn32.1
        refine j_if_ne (tgt := 88) C dX7_load_47 rfl rfl ⟨by omega, by omega⟩ (fun _ => ?_) (fun cc33 => absurd cc33 (by decide))
        refine j_iconst C dX7_load_88 rfl ?_
        have ho : o_load bs ru se pf hd ca evs ln (i : Int) n x f = (2, 0, (bs, ru, se, pf, hd, ca, evs, ln)) := by unfold o_load; rw [if_neg (by omega), if_pos (by omega)]
        exact j_iret C E dX7_load_89 (by omega) (by omega) ⟨_, rfl, by rw [ho]; exact fun h9 => absurd (show (2 : Int) = 0 from h9) (by decide), ⟨_, by rw [ho]; exact hN31⟩, hN31K, hN31D⟩
      · replace cc27 := inI_T cc27
        refine j_iload 4 C dX7_load_27 rfl rfl ?_
        refine j_iconst C dX7_load_29 rfl ?_
        refine j_bipush C dX7_load_30 rfl (by decide) ?_
        refine j_callS (st' := [.ref (am 0)]) (As := [vi (f), vi (0), vi (100)]) C dX7_load_32 rfl m_X7_58 rfl rfl (c_isIn (kL κ) hfl (kD κ) (kc κ) τ8 f 0 100 ⟨by omega, by omega⟩ ⟨by omega, by omega⟩ ⟨by omega, by omega⟩) rfl (by omega) (by omega) (by omega) (fun _ _ hx => hx.elim) (fun v35 τ34 hp36 => ?_)
        obtain ⟨rfl, hs9⟩ := hp36
        replace hs9 := hs9.symm
        subst hs9
        show J κ τ8 [(0, .ref (am 0)), (1, vi ((i : Int))), (2, vi (n)), (3, vi (x)), (4, vi (f))] 35 [vi ((inI f 0 100)), .ref (am 0)] _ _
        refine j_if_ne (tgt := 42) C dX7_load_35 rfl rfl (inI_r _ _ _) (fun cc37 => ?_) (fun cc37 => ?_)
        · replace cc37 := inI_T cc37
          refine j_iconst C dX7_load_42 rfl ?_
          refine j_iconst C dX7_load_43 rfl ?_
          refine j_callV (st' := []) (As := [vi (0), vi (2)]) C dX7_load_44 rfl m_X7_62 h012 rfl rfl rfl (c_thr0 (kL κ) hfl (kD κ) (kc κ) τ8 am bs ru se pf hd ca evs ln bl 0 hN11 2) rfl (by omega) (by omega) (by omega) (fun _ _ hx => hx.elim) (fun v39 τ38 hp40 => ?_)
          obtain ⟨rfl, hN41, hN41k, hN41d⟩ := hp40
          show J κ τ38 [(0, .ref (am 0)), (1, vi ((i : Int))), (2, vi (n)), (3, vi (x)), (4, vi (f))] 47 [vi (0)] _ _
          have hN41K := hN11K.tr hN41k
          have hN41D := hN41d.trans hN11D
          obtain ⟨hI42, gc42, gm42, gr42, gp42, gb42, go42, gf42, gg42, gt42, gz42, gk42, gl42, _, _, _, h042, ⟨hgc42, hgm42, hgr42, hgp42, hgb42, hgo42, hgf42, hgg42, hgt42, hgz42, hgk42, hgl42⟩, ⟨rfl, rfl, rfl⟩, hBn42, hRu42, hPr42, hTr42, hKi42, hLi42⟩ := id hN41
          have hI := hI42
          have hnb642 := hBn42.1
          refine j_if_ne (tgt := 88) C dX7_load_47 rfl rfl ⟨by omega, by omega⟩ (fun cc43 => absurd cc43 (by decide)) (fun _ => ?_)
          refine j_aload_n 0 C dX7_load_50 rfl rfl rfl ?_
          refine j_aload_n 0 C dX7_load_51 rfl rfl rfl ?_
          refine j_iload_n 1 C dX7_load_52 rfl rfl rfl ?_
          refine j_callV (st' := [.ref (am 0)]) (As := [vi ((i : Int))]) C dX7_load_53 rfl m_X7_93 h042 rfl rfl rfl (c_within (kL κ) hfl (kD κ) (kc κ) τ38 am bs ru se pf hd ca evs ln bl 0 hN41 i hi) rfl (by omega) (by omega) (by omega) (fun _ _ hx => hx.elim) (fun v45 τ44 hp46 => ?_)
          obtain ⟨rfl, hs9⟩ := hp46
          replace hs9 := hs9.symm
          subst hs9
          show J κ τ38 [(0, .ref (am 0)), (1, vi ((i : Int))), (2, vi (n)), (3, vi (x)), (4, vi (f))] 56 [vi ((tot (gB bs (i : Int)).2.2)), .ref (am 0)] _ _
          refine j_iload_n 2 C dX7_load_56 rfl rfl rfl ?_
          refine j_iadd C dX7_load_57 rfl ?_
          have hbki_42 := hBn42.2.2 i hi
          refine j_aload_n 0 C dX7_load_58 rfl rfl rfl ?_
          refine j_get C dX7_load_59 rfl fg_X7_9 h042 rfl ?_
          refine j_iload_n 1 C dX7_load_62 rfl rfl rfl ?_
          refine j_iald C dX7_load_63 rfl hgc42 ⟨by omega, by omega⟩ (by omega) hbki_42.1.1 ?_
          refine j_icmp_gt (tgt := 76) C dX7_load_64 rfl rfl ⟨by omega, by omega⟩ ⟨by omega, by omega⟩ (fun cc47 => ?_) (fun cc47 => ?_)
          · refine j_iconst C dX7_load_76 rfl ?_
            refine j_goto (tgt := 81) C dX7_load_77 rfl ?_
            refine j_iconst C dX7_load_81 rfl ?_
            refine j_callV (st' := []) (As := [vi (1), vi (3)]) C dX7_load_82 rfl m_X7_62 h042 rfl rfl rfl (c_thr1 (kL κ) hfl (kD κ) (kc κ) τ38 am bs ru se pf hd ca evs ln bl 0 hN41 3) rfl (by omega) (by omega) (by omega) (fun _ _ hx => hx.elim) (fun v49 τ48 hp50 => ?_)
            obtain ⟨rfl, hN51, hN51k, hN51d⟩ := hp50
            show J κ τ48 [(0, .ref (am 0)), (1, vi ((i : Int))), (2, vi (n)), (3, vi (x)), (4, vi (f))] 85 [vi (1)] _ _
            have hN51K := hN41K.tr hN51k
            have hN51D := hN51d.trans hN41D
            obtain ⟨hI52, gc52, gm52, gr52, gp52, gb52, go52, gf52, gg52, gt52, gz52, gk52, gl52, _, _, _, h052, ⟨hgc52, hgm52, hgr52, hgp52, hgb52, hgo52, hgf52, hgg52, hgt52, hgz52, hgk52, hgl52⟩, ⟨rfl, rfl, rfl⟩, hBn52, hRu52, hPr52, hTr52, hKi52, hLi52⟩ := id hN51
            have hI := hI52
            have hnb652 := hBn52.1
            refine j_if_eq (tgt := 90) C dX7_load_85 rfl rfl ⟨by omega, by omega⟩ (fun cc53 => absurd cc53 (by decide)) (fun _ => ?_)
            refine j_iconst C dX7_load_88 rfl ?_
            have ho : o_load bs ru se pf hd ca evs ln (i : Int) n x f = (3, 0, (bs, ru, se, pf, hd, ca, evs, ln)) := by unfold o_load; rw [if_neg (by omega), if_neg (by omega), if_pos (by omega)]
            exact j_iret C E dX7_load_89 (by omega) (by omega) ⟨_, rfl, by rw [ho]; exact fun h9 => absurd (show (3 : Int) = 0 from h9) (by decide), ⟨_, by rw [ho]; exact hN51⟩, hN51K, hN51D⟩
          · refine j_aload_n 0 C dX7_load_67 rfl rfl rfl ?_
            refine j_get C dX7_load_68 rfl fg_X7_80 h042 rfl ?_
            refine j_bipush C dX7_load_71 rfl (by decide) ?_
            refine j_icmp_ne (tgt := 80) C dX7_load_73 rfl rfl ⟨by omega, by omega⟩ ⟨by omega, by omega⟩ (fun cc54 => ?_) (fun cc54 => ?_)
            · refine j_iconst C dX7_load_80 rfl ?_
              refine j_iconst C dX7_load_81 rfl ?_
              refine j_callV (st' := []) (As := [vi (0), vi (3)]) C dX7_load_82 rfl m_X7_62 h042 rfl rfl rfl (c_thr0 (kL κ) hfl (kD κ) (kc κ) τ38 am bs ru se pf hd ca evs ln bl 0 hN41 3) rfl (by omega) (by omega) (by omega) (fun _ _ hx => hx.elim) (fun v56 τ55 hp57 => ?_)
              obtain ⟨rfl, hN58, hN58k, hN58d⟩ := hp57
              show J κ τ55 [(0, .ref (am 0)), (1, vi ((i : Int))), (2, vi (n)), (3, vi (x)), (4, vi (f))] 85 [vi (0)] _ _
              have hN58K := hN41K.tr hN58k
              have hN58D := hN58d.trans hN41D
              obtain ⟨hI59, gc59, gm59, gr59, gp59, gb59, go59, gf59, gg59, gt59, gz59, gk59, gl59, _, _, _, h059, ⟨hgc59, hgm59, hgr59, hgp59, hgb59, hgo59, hgf59, hgg59, hgt59, hgz59, hgk59, hgl59⟩, ⟨rfl, rfl, rfl⟩, hBn59, hRu59, hPr59, hTr59, hKi59, hLi59⟩ := id hN58
              have hI := hI59
              have hnb659 := hBn59.1
              refine j_if_eq (tgt := 90) C dX7_load_85 rfl rfl ⟨by omega, by omega⟩ (fun _ => ?_) (fun cc60 => absurd cc60 (by decide))
              have hl : evs.length < 80 := by omega
              obtain ⟨-, hap, hOk⟩ := load_ev hO hl hi (n := n) (x := x) (f := f) ⟨by omega, by omega⟩ ⟨by omega, by omega⟩ ⟨by omega, by omega⟩ (by omega)
              have hgi := gradeF_in ru se x f
              refine j_aload_n 0 C dX7_load_90 rfl rfl rfl ?_
              refine j_iload_n 3 C dX7_load_91 rfl rfl rfl ?_
              refine j_iload 4 C dX7_load_92 rfl rfl ?_
              refine j_callV (st' := []) (As := [vi (x), vi (f)]) C dX7_load_94 rfl m_X7_76 h059 rfl rfl rfl (c_graded (kL κ) hfl (kD κ) (kc κ) τ55 am bs ru se pf hd ca evs ln bl 0 hN58 x f ⟨by omega, by omega⟩ ⟨by omega, by omega⟩) rfl (by omega) (by omega) (by omega) (fun _ _ hx => hx.elim) (fun v62 τ61 hp63 => ?_)
              obtain ⟨rfl, hs9⟩ := hp63
              replace hs9 := hs9.symm
              subst hs9
              show J κ τ55 [(0, .ref (am 0)), (1, vi ((i : Int))), (2, vi (n)), (3, vi (x)), (4, vi (f))] 97 [vi ((gradeF ru se x f))] _ _
              refine j_istore (lv' := [(0, .ref (am 0)), (1, vi ((i : Int))), (2, vi (n)), (3, vi (x)), (4, vi (f)), (5, vi ((gradeF ru se x f)))]) [1, 2, 3, 4, 5, 0] C dX7_load_97 rfl rfl rfl ?_
              refine j_aload_n 0 C dX7_load_99 rfl rfl rfl ?_
              refine j_iload_n 1 C dX7_load_100 rfl rfl rfl ?_
              refine j_iload_n 2 C dX7_load_101 rfl rfl rfl ?_
              refine j_iload_n 3 C dX7_load_102 rfl rfl rfl ?_
              refine j_iload 4 C dX7_load_103 rfl rfl ?_
              refine j_iload 5 C dX7_load_105 rfl rfl ?_
              refine j_callV (st' := []) (As := [vi ((i : Int)), vi (n), vi (x), vi (f), vi ((gradeF ru se x f))]) C dX7_load_107 rfl m_X7_97 h059 rfl rfl rfl (c_lays (kL κ) hfl (kD κ) (kc κ) τ55 am bs ru se pf hd ca evs ln bl 0 hN58 i hi (by omega) n x f (gradeF ru se x f)) rfl (by omega) (by omega) (by omega) (fun _ _ hx => hx.elim) (fun v65 τ64 hp66 => ?_)
              obtain ⟨rfl, hN67, hN67k, hN67d⟩ := hp66
              rw [← hap] at hN67
              show J κ τ64 [(0, .ref (am 0)), (1, vi ((i : Int))), (2, vi (n)), (3, vi (x)), (4, vi (f)), (5, vi ((gradeF ru se x f)))] 110 [] _ _
              have hN67K := hN58K.tr hN67k
              have hN67D := hN67d.trans hN58D
              obtain ⟨hI68, gc68, gm68, gr68, gp68, gb68, go68, gf68, gg68, gt68, gz68, gk68, gl68, _, _, _, h068, ⟨hgc68, hgm68, hgr68, hgp68, hgb68, hgo68, hgf68, hgg68, hgt68, hgz68, hgk68, hgl68⟩, ⟨rfl, rfl, rfl⟩, hBn68, hRu68, hPr68, hTr68, hKi68, hLi68⟩ := id hN67
              have hI := hI68
              have hnb668 := hBn68.1
              refine j_aload_n 0 C dX7_load_110 rfl rfl rfl ?_
              refine j_dup C dX7_load_111 rfl rfl ?_
              refine j_get C dX7_load_112 rfl fg_X7_101 h068 rfl ?_
              refine j_iload_n 2 C dX7_load_115 rfl rfl rfl ?_
              refine j_aload_n 0 C dX7_load_116 rfl rfl rfl ?_
              refine j_get C dX7_load_117 rfl fg_X7_19 h068 rfl ?_
              refine j_iload 5 C dX7_load_120 rfl rfl ?_
              refine j_iconst C dX7_load_122 rfl ?_
              refine j_isub C dX7_load_123 rfl ?_
              refine j_iald C dX7_load_124 rfl hgp68 ⟨by omega, by omega⟩ (by omega) (prK hPr68 (g := (gradeF ru se x f)) ⟨by omega, by omega⟩ (z := (gradeF ru se x f) - 1) (by omega)) ?_
              refine j_imul C dX7_load_125 rfl ?_
              have hp9 := hprr (gradeF ru se x f).toNat (by omega)
              have hp8 := mul_in (n := n) (p := pf (gradeF ru se x f).toNat) ⟨by omega, by omega⟩ hp9
              refine j_i2l C dX7_load_126 rfl ⟨by omega, by omega⟩ ?_
              refine j_lsub C dX7_load_127 rfl ?_
              refine j_put (fs' := [.ref (am 1), .ref (am 2), .ref (am 3), .ref (am 4), .ref (am 5), .ref (am 6), .ref (am 7), .ref (am 8), .ref (am 9), .ref (am 10), .ref (am 11), .ref (am 12), vi (((apB (gradeF ru se) bs (108, (i : Int), (i : Int), n, 0, x, f)).length : Int)), vi (se), vi ((evs.length : Int)), vi (hd.2.1), vi (hd.2.2.2.1), vi (hd.2.2.1), vi ((ln.length : Int)), vi (bl.1), vi (bl.2.1), vi (bl.2.2), vi (0), vl (hd.2.2.2.2), vl (ca - (n * (pf (gradeF ru se x f).toNat)))]) C dX7_load_128 rfl fa_X7_101 h068 rfl rfl rfl rfl (fun τ69 ee70 => ?_)
              have u71 : has τ69 (am 0) (.inr (7, [.ref (am 1), .ref (am 2), .ref (am 3), .ref (am 4), .ref (am 5), .ref (am 6), .ref (am 7), .ref (am 8), .ref (am 9), .ref (am 10), .ref (am 11), .ref (am 12), vi (((apB (gradeF ru se) bs (108, (i : Int), (i : Int), n, 0, x, f)).length : Int)), vi (se), vi ((evs.length : Int)), vi (hd.2.1), vi (hd.2.2.2.1), vi (hd.2.2.1), vi ((ln.length : Int)), vi (bl.1), vi (bl.2.1), vi (bl.2.2), vi (0), vl (hd.2.2.2.2), vl (ca - (n * (pf (gradeF ru se x f).toNat)))])) := h068.self' ee70
              have u72 := hgc68.ne' ee70 (hI 1 0 (by decide) (by decide) (by decide))
              have u73 := hgm68.ne' ee70 (hI 2 0 (by decide) (by decide) (by decide))
              have u74 := hgr68.ne' ee70 (hI 3 0 (by decide) (by decide) (by decide))
              have u75 := hgp68.ne' ee70 (hI 4 0 (by decide) (by decide) (by decide))
              have u76 := hgb68.ne' ee70 (hI 5 0 (by decide) (by decide) (by decide))
              have u77 := hgo68.ne' ee70 (hI 6 0 (by decide) (by decide) (by decide))
              have u78 := hgf68.ne' ee70 (hI 7 0 (by decide) (by decide) (by decide))
              have u79 := hgg68.ne' ee70 (hI 8 0 (by decide) (by decide) (by decide))
              have u80 := hgt68.ne' ee70 (hI 9 0 (by decide) (by decide) (by decide))
              have u81 := hgz68.ne' ee70 (hI 10 0 (by decide) (by decide) (by decide))
              have u82 := hgk68.ne' ee70 (hI 11 0 (by decide) (by decide) (by decide))
              have u83 := hgl68.ne' ee70 (hI 12 0 (by decide) (by decide) (by decide))
              have kp84 := hN67K.put ee70 ⟨0, by decide, rfl⟩
              have dm85 := (dom_put ee70).trans hN67D
              refine j_aload_n 0 C dX7_load_131 rfl rfl rfl ?_
              refine j_bipush C dX7_load_132 rfl (by decide) ?_
              have hMc : RM (kc κ) τ69 am (apB (gradeF ru se) bs (108, (i : Int), (i : Int), n, 0, x, f)) ru se pf hd (ca - (n * (pf (gradeF ru se x f).toNat))) evs ln bl 0 := ⟨hI, _, _, _, _, _, _, _, _, _, _, _, _, _, _, _, u71, ⟨u72, u73, u74, u75, u76, u77, u78, u79, u80, u81, u82, u83⟩, ⟨rfl, rfl, rfl⟩, hBn68, hRu68, hPr68, hTr68, hKi68, hLi68⟩
              rw [show ca - (n * (pf (gradeF ru se x f).toNat)) = ca + -n * pf (gradeF ru se x f).toNat from (by rw [Int.neg_mul]; exact Int.sub_eq_add_neg)] at hMc
              have hTA := totB_in hOk.2.1
              have hA6 := hOk.1
              refine j_callV (st' := []) (As := [vi (108)]) C dX7_load_134 rfl m_X7_105 u71 rfl rfl rfl (c_notes (kL κ) hfl (kD κ) (kc κ) τ69 am (apB (gradeF ru se) bs (108, (i : Int), (i : Int), n, 0, x, f)) ru se pf hd (ca + -n * pf (gradeF ru se x f).toNat) evs ln bl 0 hMc (108, (i : Int), (i : Int), n, 0, x, f) nar_l (⟨by decide, by decide⟩ : (0 : Int) ≤ 108 ∧ (108 : Int) < 128) hl (by omega) ⟨by omega, by omega⟩ ⟨by omega, by omega⟩) rfl (by omega) (by omega) (by omega) (fun _ _ hx => hx.elim) (fun v87 τ86 hp88 => ?_)
              obtain ⟨rfl, hN89, hN89k, hN89d⟩ := hp88
              show J κ τ86 [(0, .ref (am 0)), (1, vi ((i : Int))), (2, vi (n)), (3, vi (x)), (4, vi (f)), (5, vi ((gradeF ru se x f)))] 137 [] _ _
              have hN89K := kp84.tr hN89k
              have hN89D := hN89d.trans dm85
              obtain ⟨hI90, gc90, gm90, gr90, gp90, gb90, go90, gf90, gg90, gt90, gz90, gk90, gl90, _, _, _, h090, ⟨hgc90, hgm90, hgr90, hgp90, hgb90, hgo90, hgf90, hgg90, hgt90, hgz90, hgk90, hgl90⟩, ⟨rfl, rfl, rfl⟩, hBn90, hRu90, hPr90, hTr90, hKi90, hLi90⟩ := id hN89
              have hI := hI90
              have hnb690 := hBn90.1
              refine j_iload 5 C dX7_load_137 rfl rfl ?_
              have ho : o_load bs ru se pf hd ca evs ln (i : Int) n x f = (0, gradeF ru se x f, evS bs ru se pf hd ca evs ln (108, (i : Int), (i : Int), n, 0, x, f) (-n * pf (gradeF ru se x f).toNat)) := by unfold o_load; rw [if_neg (by omega), if_neg (by omega), if_neg (by omega)]
              exact j_iret C E dX7_load_139 (by omega) (by omega) ⟨_, rfl, by rw [ho]; exact fun _ => rfl, ⟨_, by rw [ho]; exact hN89⟩, hN89K, hN89D⟩
            · refine j_iconst C dX7_load_76 rfl ?_
              refine j_goto (tgt := 81) C dX7_load_77 rfl ?_
              refine j_iconst C dX7_load_81 rfl ?_
              refine j_callV (st' := []) (As := [vi (1), vi (3)]) C dX7_load_82 rfl m_X7_62 h042 rfl rfl rfl (c_thr1 (kL κ) hfl (kD κ) (kc κ) τ38 am bs ru se pf hd ca evs ln bl 0 hN41 3) rfl (by omega) (by omega) (by omega) (fun _ _ hx => hx.elim) (fun v92 τ91 hp93 => ?_)
              obtain ⟨rfl, hN94, hN94k, hN94d⟩ := hp93
              show J κ τ91 [(0, .ref (am 0)), (1, vi ((i : Int))), (2, vi (n)), (3, vi (x)), (4, vi (f))] 85 [vi (1)] _ _
              have hN94K := hN41K.tr hN94k
              have hN94D := hN94d.trans hN41D
              obtain ⟨hI95, gc95, gm95, gr95, gp95, gb95, go95, gf95, gg95, gt95, gz95, gk95, gl95, _, _, _, h095, ⟨hgc95, hgm95, hgr95, hgp95, hgb95, hgo95, hgf95, hgg95, hgt95, hgz95, hgk95, hgl95⟩, ⟨rfl, rfl, rfl⟩, hBn95, hRu95, hPr95, hTr95, hKi95, hLi95⟩ := id hN94
              have hI := hI95
              have hnb695 := hBn95.1
              refine j_if_eq (tgt := 90) C dX7_load_85 rfl rfl ⟨by omega, by omega⟩ (fun cc96 => absurd cc96 (by decide)) (fun _ => ?_)
              refine j_iconst C dX7_load_88 rfl ?_
              have ho : o_load bs ru se pf hd ca evs ln (i : Int) n x f = (3, 0, (bs, ru, se, pf, hd, ca, evs, ln)) := by unfold o_load; rw [if_neg (by omega), if_neg (by omega), if_pos (by omega)]
              exact j_iret C E dX7_load_89 (by omega) (by omega) ⟨_, rfl, by rw [ho]; exact fun h9 => absurd (show (3 : Int) = 0 from h9) (by decide), ⟨_, by rw [ho]; exact hN94⟩, hN94K, hN94D⟩
        · replace cc37 := inI_F cc37
          refine j_iconst C dX7_load_38 rfl ?_
          refine j_goto (tgt := 43) C dX7_load_39 rfl ?_
          refine j_iconst C dX7_load_43 rfl ?_
          refine j_callV (st' := []) (As := [vi (1), vi (2)]) C dX7_load_44 rfl m_X7_62 h012 rfl rfl rfl (c_thr1 (kL κ) hfl (kD κ) (kc κ) τ8 am bs ru se pf hd ca evs ln bl 0 hN11 2) rfl (by omega) (by omega) (by omega) (fun _ _ hx => hx.elim) (fun v98 τ97 hp99 => ?_)
          obtain ⟨rfl, hN100, hN100k, hN100d⟩ := hp99
          show J κ τ97 [(0, .ref (am 0)), (1, vi ((i : Int))), (2, vi (n)), (3, vi (x)), (4, vi (f))] 47 [vi (1)] _ _
          have hN100K := hN11K.tr hN100k
          have hN100D := hN100d.trans hN11D
          obtain ⟨hI101, gc101, gm101, gr101, gp101, gb101, go101, gf101, gg101, gt101, gz101, gk101, gl101, _, _, _, h0101, ⟨hgc101, hgm101, hgr101, hgp101, hgb101, hgo101, hgf101, hgg101, hgt101, hgz101, hgk101, hgl101⟩, ⟨rfl, rfl, rfl⟩, hBn101, hRu101, hPr101, hTr101, hKi101, hLi101⟩ := id hN100
          have hI := hI101
          have hnb6101 := hBn101.1
          refine j_if_ne (tgt := 88) C dX7_load_47 rfl rfl ⟨by omega, by omega⟩ (fun _ => ?_) (fun cc102 => absurd cc102 (by decide))
          refine j_iconst C dX7_load_88 rfl ?_
          have ho : o_load bs ru se pf hd ca evs ln (i : Int) n x f = (2, 0, (bs, ru, se, pf, hd, ca, evs, ln)) := by unfold o_load; rw [if_neg (by omega), if_pos (by omega)]
          exact j_iret C E dX7_load_89 (by omega) (by omega) ⟨_, rfl, by rw [ho]; exact fun h9 => absurd (show (2 : Int) = 0 from h9) (by decide), ⟨_, by rw [ho]; exact hN100⟩, hN100K, hN100D⟩
set_option maxHeartbeats 8000000 in
set_option maxRecDepth 20000 in
theorem m_sell (l : Launch) (hfl : l.stackTraces = false) (D : va_G) (cy : Nat → Nat) (σ : Wd) (am : Nat → Nat) (bs : List Bn) (ru : Nat → Int × Int) (se : Int) (pf : Nat → Int) (hd : Hd) (ca : Int) (evs : List Evt) (ln : List Int) (bl : Int × Int × Int) (th : Int) (hM : RM cy σ am bs ru se pf hd ca evs ln bl th) (b : Int) (hb9 : (-2147483648 ≤ b ∧ b < 2147483648)) (n : Int) (hn9 : (-2147483648 ≤ n ∧ n < 2147483648)) (hO : Ok bs ru se pf hd evs ln) : Ct l yX7_sell cX7_sell 4 (some .int) 3 0 0 D cy [.ref (am 0), vi (b), vi (n)] σ (fun v σ' => ∃ rz : Int, v = some (vi rz) ∧ ((o_sell bs ru se pf hd ca evs ln b n).1 = 0 → rz = (o_sell bs ru se pf hd ca evs ln b n).2.1) ∧ (∃ bl', RMs cy σ' am (o_sell bs ru se pf hd ca evs ln b n).2.2 bl' (o_sell bs ru se pf hd ca evs ln b n).1) ∧ Keep σ σ' (inM am) ∧ σ'.1 = σ.1) noX := by
  refine ct_start (by decide +kernel) hfl rfl (fun κ e1 e2 e3 C E NH => ?_)
  subst e1 e2 e3
  have C : Cx κ cX7_sell 4 RX7 "sell" 3 := C
  obtain ⟨-, -, -, -, hc, hs⟩ := id E
  show J κ σ [(0, .ref (am 0)), (1, vi (b)), (2, vi (n))] 0 [] 0 0
  obtain ⟨hI1, gc1, gm1, gr1, gp1, gb1, go1, gf1, gg1, gt1, gz1, gk1, gl1, _, _, _, h01, ⟨hgc1, hgm1, hgr1, hgp1, hgb1, hgo1, hgf1, hgg1, hgt1, hgz1, hgk1, hgl1⟩, ⟨rfl, rfl, rfl⟩, hBn1, hRu1, hPr1, hTr1, hKi1, hLi1⟩ := id hM
  have hI := hI1
  have hnb61 := hBn1.1
  have kp0 : Keep σ σ (inM am) := Keep.rf
  have dm0 : σ.1 = σ.1 := rfl
  obtain ⟨⟨hc1, hc2⟩, hc3, hc4⟩ := hO.2.2.2.1
  have h6 := hO.1
  have hlb := hO.2.2.1
  have hTb := totB_in hO.2.1
  have hprr := hO.2.2.2.2.1
  refine j_aload_n 0 C dX7_sell_0 rfl rfl rfl ?_
  refine j_iload_n 1 C dX7_sell_1 rfl rfl rfl ?_
  rcases Classical.em (b < 0 ∨ (bs.length : Int) ≤ b) with hq | hq
  · refine j_callV (st' := []) (As := [vi (b)]) C dX7_sell_2 rfl m_X7_66 h01 rfl rfl rfl (c_nb1 (kL κ) hfl (kD κ) (kc κ) σ am bs ru se pf hd ca evs ln bl th hM b ⟨by omega, by omega⟩ hq) rfl (by omega) (by omega) (by omega) (fun _ _ hx => hx.elim) (fun v3 τ2 hp4 => ?_)
    obtain ⟨rfl, hN5, hN5k, hN5d⟩ := hp4
    show J κ τ2 [(0, .ref (am 0)), (1, vi (b)), (2, vi (n))] 5 [vi (1)] _ _
    have hN5K := kp0.tr hN5k
    have hN5D := hN5d.trans dm0
    obtain ⟨hI6, gc6, gm6, gr6, gp6, gb6, go6, gf6, gg6, gt6, gz6, gk6, gl6, _, _, _, h06, ⟨hgc6, hgm6, hgr6, hgp6, hgb6, hgo6, hgf6, hgg6, hgt6, hgz6, hgk6, hgl6⟩, ⟨rfl, rfl, rfl⟩, hBn6, hRu6, hPr6, hTr6, hKi6, hLi6⟩ := id hN5
    have hI := hI6
    have hnb66 := hBn6.1
    refine j_if_ne (tgt := 63) C dX7_sell_5 rfl rfl ⟨by omega, by omega⟩ (fun _ => ?_) (fun cc7 => absurd cc7 (by decide))
    refine j_iconst C dX7_sell_63 rfl ?_
    have ho : o_sell bs ru se pf hd ca evs ln b n = (1, 0, (bs, ru, se, pf, hd, ca, evs, ln)) := by unfold o_sell; rw [if_pos (by omega)]
    exact j_iret C E dX7_sell_64 (by omega) (by omega) ⟨_, rfl, by rw [ho]; exact fun h9 => absurd (show (1 : Int) = 0 from h9) (by decide), ⟨_, by rw [ho]; exact hN5⟩, hN5K, hN5D⟩
  · obtain ⟨i, hi, rfl⟩ : ∃ i : Nat, i < bs.length ∧ b = (i : Int) := ⟨b.toNat, by omega, by omega⟩
    have hmmi := gB_mem (bs := bs) (i := (i : Int)) (by omega) (by omega)
    obtain ⟨hcpi, hlyi, htci⟩ := hO.2.1 _ hmmi
    have hlli := len_lenB hmmi
    have ht0i := tot_0 hlyi
    have hfli : tot (fl (gB bs (i : Int))) = tot (gB bs (i : Int)).2.2 := sum_fl _ _
    have hfoi : lysOk (fl (gB bs (i : Int))) := fl_ok hlyi
    refine j_callV (st' := []) (As := [vi ((i : Int))]) C dX7_sell_2 rfl m_X7_66 h01 rfl rfl rfl (c_nb0 (kL κ) hfl (kD κ) (kc κ) σ am bs ru se pf hd ca evs ln bl th hM i hi) rfl (by omega) (by omega) (by omega) (fun _ _ hx => hx.elim) (fun v9 τ8 hp10 => ?_)
    obtain ⟨rfl, hN11, hN11k, hN11d⟩ := hp10
    show J κ τ8 [(0, .ref (am 0)), (1, vi ((i : Int))), (2, vi (n))] 5 [vi (0)] _ _
    have hN11K := kp0.tr hN11k
    have hN11D := hN11d.trans dm0
    obtain ⟨hI12, gc12, gm12, gr12, gp12, gb12, go12, gf12, gg12, gt12, gz12, gk12, gl12, _, _, _, h012, ⟨hgc12, hgm12, hgr12, hgp12, hgb12, hgo12, hgf12, hgg12, hgt12, hgz12, hgk12, hgl12⟩, ⟨rfl, rfl, rfl⟩, hBn12, hRu12, hPr12, hTr12, hKi12, hLi12⟩ := id hN11
    have hI := hI12
    have hnb612 := hBn12.1
    refine j_if_ne (tgt := 63) C dX7_sell_5 rfl rfl ⟨by omega, by omega⟩ (fun cc13 => absurd cc13 (by decide)) (fun _ => ?_)
    refine j_aload_n 0 C dX7_sell_8 rfl rfl rfl ?_
    refine j_iload_n 2 C dX7_sell_9 rfl rfl rfl ?_
    refine j_iconst C dX7_sell_10 rfl ?_
    refine j_sipush C dX7_sell_11 rfl (by decide) ?_
    refine j_callS (st' := [.ref (am 0)]) (As := [vi (n), vi (1), vi (5000)]) C dX7_sell_14 rfl m_X7_58 rfl rfl (c_isIn (kL κ) hfl (kD κ) (kc κ) τ8 n 1 5000 ⟨by omega, by omega⟩ ⟨by omega, by omega⟩ ⟨by omega, by omega⟩) rfl (by omega) (by omega) (by omega) (fun _ _ hx => hx.elim) (fun v15 τ14 hp16 => ?_)
    obtain ⟨rfl, hs9⟩ := hp16
    replace hs9 := hs9.symm
    subst hs9
    show J κ τ8 [(0, .ref (am 0)), (1, vi ((i : Int))), (2, vi (n))] 17 [vi ((inI n 1 5000)), .ref (am 0)] _ _
    refine j_if_ne (tgt := 24) C dX7_sell_17 rfl rfl (inI_r _ _ _) (fun cc17 => ?_) (fun cc17 => ?_)
    · replace cc17 := inI_T cc17
      refine j_iconst C dX7_sell_24 rfl ?_
      refine j_iconst C dX7_sell_25 rfl ?_
      refine j_callV (st' := []) (As := [vi (0), vi (2)]) C dX7_sell_26 rfl m_X7_62 h012 rfl rfl rfl (c_thr0 (kL κ) hfl (kD κ) (kc κ) τ8 am bs ru se pf hd ca evs ln bl 0 hN11 2) rfl (by omega) (by omega) (by omega) (fun _ _ hx => hx.elim) (fun v19 τ18 hp20 => ?_)
      obtain ⟨rfl, hN21, hN21k, hN21d⟩ := hp20
      show J κ τ18 [(0, .ref (am 0)), (1, vi ((i : Int))), (2, vi (n))] 29 [vi (0)] _ _
      have hN21K := hN11K.tr hN21k
      have hN21D := hN21d.trans hN11D
      obtain ⟨hI22, gc22, gm22, gr22, gp22, gb22, go22, gf22, gg22, gt22, gz22, gk22, gl22, _, _, _, h022, ⟨hgc22, hgm22, hgr22, hgp22, hgb22, hgo22, hgf22, hgg22, hgt22, hgz22, hgk22, hgl22⟩, ⟨rfl, rfl, rfl⟩, hBn22, hRu22, hPr22, hTr22, hKi22, hLi22⟩ := id hN21
      have hI := hI22
      have hnb622 := hBn22.1
      refine j_if_ne (tgt := 63) C dX7_sell_29 rfl rfl ⟨by omega, by omega⟩ (fun cc23 => absurd cc23 (by decide)) (fun _ => ?_)
      refine j_aload_n 0 C dX7_sell_32 rfl rfl rfl ?_
      refine j_aload_n 0 C dX7_sell_33 rfl rfl rfl ?_
      refine j_iload_n 1 C dX7_sell_34 rfl rfl rfl ?_
      refine j_callV (st' := [.ref (am 0)]) (As := [vi ((i : Int))]) C dX7_sell_35 rfl m_X7_93 h022 rfl rfl rfl (c_within (kL κ) hfl (kD κ) (kc κ) τ18 am bs ru se pf hd ca evs ln bl 0 hN21 i hi) rfl (by omega) (by omega) (by omega) (fun _ _ hx => hx.elim) (fun v25 τ24 hp26 => ?_)
      obtain ⟨rfl, hs9⟩ := hp26
      replace hs9 := hs9.symm
      subst hs9
      show J κ τ18 [(0, .ref (am 0)), (1, vi ((i : Int))), (2, vi (n))] 38 [vi ((tot (gB bs (i : Int)).2.2)), .ref (am 0)] _ _
      refine j_iload_n 2 C dX7_sell_38 rfl rfl rfl ?_
      refine j_icmp_lt (tgt := 51) C dX7_sell_39 rfl rfl ⟨by omega, by omega⟩ ⟨by omega, by omega⟩ (fun cc27 => ?_) (fun cc27 => ?_)
      · refine j_iconst C dX7_sell_51 rfl ?_
        refine j_goto (tgt := 56) C dX7_sell_52 rfl ?_
        refine j_iconst C dX7_sell_56 rfl ?_
        refine j_callV (st' := []) (As := [vi (1), vi (3)]) C dX7_sell_57 rfl m_X7_62 h022 rfl rfl rfl (c_thr1 (kL κ) hfl (kD κ) (kc κ) τ18 am bs ru se pf hd ca evs ln bl 0 hN21 3) rfl (by omega) (by omega) (by omega) (fun _ _ hx => hx.elim) (fun v29 τ28 hp30 => ?_)
        obtain ⟨rfl, hN31, hN31k, hN31d⟩ := hp30
        show J κ τ28 [(0, .ref (am 0)), (1, vi ((i : Int))), (2, vi (n))] 60 [vi (1)] _ _
        have hN31K := hN21K.tr hN31k
        have hN31D := hN31d.trans hN21D
        obtain ⟨hI32, gc32, gm32, gr32, gp32, gb32, go32, gf32, gg32, gt32, gz32, gk32, gl32, _, _, _, h032, ⟨hgc32, hgm32, hgr32, hgp32, hgb32, hgo32, hgf32, hgg32, hgt32, hgz32, hgk32, hgl32⟩, ⟨rfl, rfl, rfl⟩, hBn32, hRu32, hPr32, hTr32, hKi32, hLi32⟩ := id hN31
        have hI := hI32
        have hnb632 := hBn32.1
        refine j_if_eq (tgt := 65) C dX7_sell_60 rfl rfl ⟨by omega, by omega⟩ (fun cc33 => absurd cc33 (by decide)) (fun _ => ?_)
        refine j_iconst C dX7_sell_63 rfl ?_
        have ho : o_sell bs ru se pf hd ca evs ln (i : Int) n = (3, 0, (bs, ru, se, pf, hd, ca, evs, ln)) := by unfold o_sell; rw [if_neg (by omega), if_neg (by omega), if_pos (by omega)]
        exact j_iret C E dX7_sell_64 (by omega) (by omega) ⟨_, rfl, by rw [ho]; exact fun h9 => absurd (show (3 : Int) = 0 from h9) (by decide), ⟨_, by rw [ho]; exact hN31⟩, hN31K, hN31D⟩
      · refine j_aload_n 0 C dX7_sell_42 rfl rfl rfl ?_
        refine j_get C dX7_sell_43 rfl fg_X7_80 h022 rfl ?_
        refine j_bipush C dX7_sell_46 rfl (by decide) ?_
        refine j_icmp_ne (tgt := 55) C dX7_sell_48 rfl rfl ⟨by omega, by omega⟩ ⟨by omega, by omega⟩ (fun cc34 => ?_) (fun cc34 => ?_)
        · refine j_iconst C dX7_sell_55 rfl ?_
          refine j_iconst C dX7_sell_56 rfl ?_
          refine j_callV (st' := []) (As := [vi (0), vi (3)]) C dX7_sell_57 rfl m_X7_62 h022 rfl rfl rfl (c_thr0 (kL κ) hfl (kD κ) (kc κ) τ18 am bs ru se pf hd ca evs ln bl 0 hN21 3) rfl (by omega) (by omega) (by omega) (fun _ _ hx => hx.elim) (fun v36 τ35 hp37 => ?_)
          obtain ⟨rfl, hN38, hN38k, hN38d⟩ := hp37
          show J κ τ35 [(0, .ref (am 0)), (1, vi ((i : Int))), (2, vi (n))] 60 [vi (0)] _ _
          have hN38K := hN21K.tr hN38k
          have hN38D := hN38d.trans hN21D
          obtain ⟨hI39, gc39, gm39, gr39, gp39, gb39, go39, gf39, gg39, gt39, gz39, gk39, gl39, _, _, _, h039, ⟨hgc39, hgm39, hgr39, hgp39, hgb39, hgo39, hgf39, hgg39, hgt39, hgz39, hgk39, hgl39⟩, ⟨rfl, rfl, rfl⟩, hBn39, hRu39, hPr39, hTr39, hKi39, hLi39⟩ := id hN38
          have hI := hI39
          have hnb639 := hBn39.1
          refine j_if_eq (tgt := 65) C dX7_sell_60 rfl rfl ⟨by omega, by omega⟩ (fun _ => ?_) (fun cc40 => absurd cc40 (by decide))
          have hl : evs.length < 80 := by omega
          obtain ⟨-, hap, hOk⟩ := sell_ev hO hl hi (n := n) ⟨by omega, by omega⟩
          have hsm := (sums_in hprr hfoi (by omega) n).1
          refine j_aload_n 0 C dX7_sell_65 rfl rfl rfl ?_
          refine j_iload_n 1 C dX7_sell_66 rfl rfl rfl ?_
          refine j_iload_n 2 C dX7_sell_67 rfl rfl rfl ?_
          refine j_iconst C dX7_sell_68 rfl ?_
          refine j_callV (st' := []) (As := [vi ((i : Int)), vi (n), vi (-1)]) C dX7_sell_69 rfl m_X7_121 h039 rfl rfl rfl (c_flowsN (kL κ) hfl (kD κ) (kc κ) τ35 am bs ru se pf hd ca evs ln bl 0 hN38 i hi hlyi n ⟨by omega, by omega⟩) rfl (by omega) (by omega) (by omega) (fun _ _ hx => hx.elim) (fun v42 τ41 hp43 => ?_)
          obtain ⟨rfl, hN44, hN44k, hN44d⟩ := hp43
          rw [← hap] at hN44
          show J κ τ41 [(0, .ref (am 0)), (1, vi ((i : Int))), (2, vi (n))] 72 [vi ((sumL (cf pf) (takeL n (fl (gB bs (i : Int))))))] _ _
          have hN44K := hN38K.tr hN44k
          have hN44D := hN44d.trans hN38D
          obtain ⟨hI45, gc45, gm45, gr45, gp45, gb45, go45, gf45, gg45, gt45, gz45, gk45, gl45, _, _, _, h045, ⟨hgc45, hgm45, hgr45, hgp45, hgb45, hgo45, hgf45, hgg45, hgt45, hgz45, hgk45, hgl45⟩, ⟨rfl, rfl, rfl⟩, hBn45, hRu45, hPr45, hTr45, hKi45, hLi45⟩ := id hN44
          have hI := hI45
          have hnb645 := hBn45.1
          refine j_istore_n (lv' := [(0, .ref (am 0)), (1, vi ((i : Int))), (2, vi (n)), (3, vi ((sumL (cf pf) (takeL n (fl (gB bs (i : Int)))))))]) [1, 2, 3, 0] C dX7_sell_72 rfl rfl rfl rfl ?_
          refine j_aload_n 0 C dX7_sell_73 rfl rfl rfl ?_
          refine j_dup C dX7_sell_74 rfl rfl ?_
          refine j_get C dX7_sell_75 rfl fg_X7_101 h045 rfl ?_
          refine j_iload_n 3 C dX7_sell_78 rfl rfl rfl ?_
          refine j_i2l C dX7_sell_79 rfl ⟨by omega, by omega⟩ ?_
          refine j_ladd C dX7_sell_80 rfl ?_
          refine j_put (fs' := [.ref (am 1), .ref (am 2), .ref (am 3), .ref (am 4), .ref (am 5), .ref (am 6), .ref (am 7), .ref (am 8), .ref (am 9), .ref (am 10), .ref (am 11), .ref (am 12), vi (((apB (gradeF ru se) bs (115, (i : Int), (i : Int), n, 0, 0, 0)).length : Int)), vi (se), vi ((evs.length : Int)), vi (hd.2.1), vi (hd.2.2.2.1), vi (hd.2.2.1), vi ((ln.length : Int)), vi (bl.1), vi (bl.2.1), vi (bl.2.2), vi (0), vl (hd.2.2.2.2), vl (ca + (sumL (cf pf) (takeL n (fl (gB bs (i : Int))))))]) C dX7_sell_81 rfl fa_X7_101 h045 rfl rfl rfl rfl (fun τ46 ee47 => ?_)
          have u48 : has τ46 (am 0) (.inr (7, [.ref (am 1), .ref (am 2), .ref (am 3), .ref (am 4), .ref (am 5), .ref (am 6), .ref (am 7), .ref (am 8), .ref (am 9), .ref (am 10), .ref (am 11), .ref (am 12), vi (((apB (gradeF ru se) bs (115, (i : Int), (i : Int), n, 0, 0, 0)).length : Int)), vi (se), vi ((evs.length : Int)), vi (hd.2.1), vi (hd.2.2.2.1), vi (hd.2.2.1), vi ((ln.length : Int)), vi (bl.1), vi (bl.2.1), vi (bl.2.2), vi (0), vl (hd.2.2.2.2), vl (ca + (sumL (cf pf) (takeL n (fl (gB bs (i : Int))))))])) := h045.self' ee47
          have u49 := hgc45.ne' ee47 (hI 1 0 (by decide) (by decide) (by decide))
          have u50 := hgm45.ne' ee47 (hI 2 0 (by decide) (by decide) (by decide))
          have u51 := hgr45.ne' ee47 (hI 3 0 (by decide) (by decide) (by decide))
          have u52 := hgp45.ne' ee47 (hI 4 0 (by decide) (by decide) (by decide))
          have u53 := hgb45.ne' ee47 (hI 5 0 (by decide) (by decide) (by decide))
          have u54 := hgo45.ne' ee47 (hI 6 0 (by decide) (by decide) (by decide))
          have u55 := hgf45.ne' ee47 (hI 7 0 (by decide) (by decide) (by decide))
          have u56 := hgg45.ne' ee47 (hI 8 0 (by decide) (by decide) (by decide))
          have u57 := hgt45.ne' ee47 (hI 9 0 (by decide) (by decide) (by decide))
          have u58 := hgz45.ne' ee47 (hI 10 0 (by decide) (by decide) (by decide))
          have u59 := hgk45.ne' ee47 (hI 11 0 (by decide) (by decide) (by decide))
          have u60 := hgl45.ne' ee47 (hI 12 0 (by decide) (by decide) (by decide))
          have kp61 := hN44K.put ee47 ⟨0, by decide, rfl⟩
          have dm62 := (dom_put ee47).trans hN44D
          refine j_aload_n 0 C dX7_sell_84 rfl rfl rfl ?_
          refine j_bipush C dX7_sell_85 rfl (by decide) ?_
          have hMc : RM (kc κ) τ46 am (apB (gradeF ru se) bs (115, (i : Int), (i : Int), n, 0, 0, 0)) ru se pf hd (ca + (sumL (cf pf) (takeL n (fl (gB bs (i : Int)))))) evs ln bl 0 := ⟨hI, _, _, _, _, _, _, _, _, _, _, _, _, _, _, _, u48, ⟨u49, u50, u51, u52, u53, u54, u55, u56, u57, u58, u59, u60⟩, ⟨rfl, rfl, rfl⟩, hBn45, hRu45, hPr45, hTr45, hKi45, hLi45⟩
          rw [show ca + (sumL (cf pf) (takeL n (fl (gB bs (i : Int))))) = ca + (sumL (cf pf) (takeL n (fl (gB bs (i : Int))))) from rfl] at hMc
          have hTA := totB_in hOk.2.1
          have hA6 := hOk.1
          refine j_callV (st' := []) (As := [vi (115)]) C dX7_sell_87 rfl m_X7_105 u48 rfl rfl rfl (c_notes (kL κ) hfl (kD κ) (kc κ) τ46 am (apB (gradeF ru se) bs (115, (i : Int), (i : Int), n, 0, 0, 0)) ru se pf hd (ca + (sumL (cf pf) (takeL n (fl (gB bs (i : Int)))))) evs ln bl 0 hMc (115, (i : Int), (i : Int), n, 0, 0, 0) nar_s (⟨by decide, by decide⟩ : (0 : Int) ≤ 115 ∧ (115 : Int) < 128) hl (by omega) ⟨by omega, by omega⟩ ⟨by omega, by omega⟩) rfl (by omega) (by omega) (by omega) (fun _ _ hx => hx.elim) (fun v64 τ63 hp65 => ?_)
          obtain ⟨rfl, hN66, hN66k, hN66d⟩ := hp65
          show J κ τ63 [(0, .ref (am 0)), (1, vi ((i : Int))), (2, vi (n)), (3, vi ((sumL (cf pf) (takeL n (fl (gB bs (i : Int)))))))] 90 [] _ _
          have hN66K := kp61.tr hN66k
          have hN66D := hN66d.trans dm62
          obtain ⟨hI67, gc67, gm67, gr67, gp67, gb67, go67, gf67, gg67, gt67, gz67, gk67, gl67, _, _, _, h067, ⟨hgc67, hgm67, hgr67, hgp67, hgb67, hgo67, hgf67, hgg67, hgt67, hgz67, hgk67, hgl67⟩, ⟨rfl, rfl, rfl⟩, hBn67, hRu67, hPr67, hTr67, hKi67, hLi67⟩ := id hN66
          have hI := hI67
          have hnb667 := hBn67.1
          refine j_iload_n 3 C dX7_sell_90 rfl rfl rfl ?_
          have ho : o_sell bs ru se pf hd ca evs ln (i : Int) n = (0, (sumL (cf pf) (takeL n (fl (gB bs (i : Int))))), evS bs ru se pf hd ca evs ln (115, (i : Int), (i : Int), n, 0, 0, 0) (sumL (cf pf) (takeL n (fl (gB bs (i : Int)))))) := by unfold o_sell; rw [if_neg (by omega), if_neg (by omega), if_neg (by omega)]
          exact j_iret C E dX7_sell_91 (by omega) (by omega) ⟨_, rfl, by rw [ho]; exact fun _ => rfl, ⟨_, by rw [ho]; exact hN66⟩, hN66K, hN66D⟩
        · refine j_iconst C dX7_sell_51 rfl ?_
          refine j_goto (tgt := 56) C dX7_sell_52 rfl ?_
          refine j_iconst C dX7_sell_56 rfl ?_
          refine j_callV (st' := []) (As := [vi (1), vi (3)]) C dX7_sell_57 rfl m_X7_62 h022 rfl rfl rfl (c_thr1 (kL κ) hfl (kD κ) (kc κ) τ18 am bs ru se pf hd ca evs ln bl 0 hN21 3) rfl (by omega) (by omega) (by omega) (fun _ _ hx => hx.elim) (fun v69 τ68 hp70 => ?_)
          obtain ⟨rfl, hN71, hN71k, hN71d⟩ := hp70
          show J κ τ68 [(0, .ref (am 0)), (1, vi ((i : Int))), (2, vi (n))] 60 [vi (1)] _ _
          have hN71K := hN21K.tr hN71k
          have hN71D := hN71d.trans hN21D
          obtain ⟨hI72, gc72, gm72, gr72, gp72, gb72, go72, gf72, gg72, gt72, gz72, gk72, gl72, _, _, _, h072, ⟨hgc72, hgm72, hgr72, hgp72, hgb72, hgo72, hgf72, hgg72, hgt72, hgz72, hgk72, hgl72⟩, ⟨rfl, rfl, rfl⟩, hBn72, hRu72, hPr72, hTr72, hKi72, hLi72⟩ := id hN71
          have hI := hI72
          have hnb672 := hBn72.1
          refine j_if_eq (tgt := 65) C dX7_sell_60 rfl rfl ⟨by omega, by omega⟩ (fun cc73 => absurd cc73 (by decide)) (fun _ => ?_)
          refine j_iconst C dX7_sell_63 rfl ?_
          have ho : o_sell bs ru se pf hd ca evs ln (i : Int) n = (3, 0, (bs, ru, se, pf, hd, ca, evs, ln)) := by unfold o_sell; rw [if_neg (by omega), if_neg (by omega), if_pos (by omega)]
          exact j_iret C E dX7_sell_64 (by omega) (by omega) ⟨_, rfl, by rw [ho]; exact fun h9 => absurd (show (3 : Int) = 0 from h9) (by decide), ⟨_, by rw [ho]; exact hN71⟩, hN71K, hN71D⟩
    · replace cc17 := inI_F cc17
      refine j_iconst C dX7_sell_20 rfl ?_
      refine j_goto (tgt := 25) C dX7_sell_21 rfl ?_
      refine j_iconst C dX7_sell_25 rfl ?_
      refine j_callV (st' := []) (As := [vi (1), vi (2)]) C dX7_sell_26 rfl m_X7_62 h012 rfl rfl rfl (c_thr1 (kL κ) hfl (kD κ) (kc κ) τ8 am bs ru se pf hd ca evs ln bl 0 hN11 2) rfl (by omega) (by omega) (by omega) (fun _ _ hx => hx.elim) (fun v75 τ74 hp76 => ?_)
      obtain ⟨rfl, hN77, hN77k, hN77d⟩ := hp76
      show J κ τ74 [(0, .ref (am 0)), (1, vi ((i : Int))), (2, vi (n))] 29 [vi (1)] _ _
      have hN77K := hN11K.tr hN77k
      have hN77D := hN77d.trans hN11D
      obtain ⟨hI78, gc78, gm78, gr78, gp78, gb78, go78, gf78, gg78, gt78, gz78, gk78, gl78, _, _, _, h078, ⟨hgc78, hgm78, hgr78, hgp78, hgb78, hgo78, hgf78, hgg78, hgt78, hgz78, hgk78, hgl78⟩, ⟨rfl, rfl, rfl⟩, hBn78, hRu78, hPr78, hTr78, hKi78, hLi78⟩ := id hN77
      have hI := hI78
      have hnb678 := hBn78.1
      refine j_if_ne (tgt := 63) C dX7_sell_29 rfl rfl ⟨by omega, by omega⟩ (fun _ => ?_) (fun cc79 => absurd cc79 (by decide))
      refine j_iconst C dX7_sell_63 rfl ?_
      have ho : o_sell bs ru se pf hd ca evs ln (i : Int) n = (2, 0, (bs, ru, se, pf, hd, ca, evs, ln)) := by unfold o_sell; rw [if_neg (by omega), if_pos (by omega)]
      exact j_iret C E dX7_sell_64 (by omega) (by omega) ⟨_, rfl, by rw [ho]; exact fun h9 => absurd (show (2 : Int) = 0 from h9) (by decide), ⟨_, by rw [ho]; exact hN77⟩, hN77K, hN77D⟩
set_option maxHeartbeats 8000000 in
set_option maxRecDepth 20000 in
theorem m_transfer (l : Launch) (hfl : l.stackTraces = false) (D : va_G) (cy : Nat → Nat) (σ : Wd) (am : Nat → Nat) (bs : List Bn) (ru : Nat → Int × Int) (se : Int) (pf : Nat → Int) (hd : Hd) (ca : Int) (evs : List Evt) (ln : List Int) (bl : Int × Int × Int) (th : Int) (hM : RM cy σ am bs ru se pf hd ca evs ln bl th) (a : Int) (ha9 : (-2147483648 ≤ a ∧ a < 2147483648)) (b : Int) (hb9 : (-2147483648 ≤ b ∧ b < 2147483648)) (n : Int) (hn9 : (-2147483648 ≤ n ∧ n < 2147483648)) (hO : Ok bs ru se pf hd evs ln) : Ct l yX7_transfer cX7_transfer 6 (some .int) 3 0 0 D cy [.ref (am 0), vi (a), vi (b), vi (n)] σ (fun v σ' => ∃ rz : Int, v = some (vi rz) ∧ ((o_transfer bs ru se pf hd ca evs ln a b n).1 = 0 → rz = (o_transfer bs ru se pf hd ca evs ln a b n).2.1) ∧ (∃ bl', RMs cy σ' am (o_transfer bs ru se pf hd ca evs ln a b n).2.2 bl' (o_transfer bs ru se pf hd ca evs ln a b n).1) ∧ Keep σ σ' (inM am) ∧ σ'.1 = σ.1) noX := by
  refine ct_start (by decide +kernel) hfl rfl (fun κ e1 e2 e3 C E NH => ?_)
  subst e1 e2 e3
  have C : Cx κ cX7_transfer 6 RX7 "transfer" 3 := C
  obtain ⟨-, -, -, -, hc, hs⟩ := id E
  show J κ σ [(0, .ref (am 0)), (1, vi (a)), (2, vi (b)), (3, vi (n))] 0 [] 0 0
  obtain ⟨hI1, gc1, gm1, gr1, gp1, gb1, go1, gf1, gg1, gt1, gz1, gk1, gl1, _, _, _, h01, ⟨hgc1, hgm1, hgr1, hgp1, hgb1, hgo1, hgf1, hgg1, hgt1, hgz1, hgk1, hgl1⟩, ⟨rfl, rfl, rfl⟩, hBn1, hRu1, hPr1, hTr1, hKi1, hLi1⟩ := id hM
  have hI := hI1
  have hnb61 := hBn1.1
  have kp0 : Keep σ σ (inM am) := Keep.rf
  have dm0 : σ.1 = σ.1 := rfl
  obtain ⟨⟨hc1, hc2⟩, hc3, hc4⟩ := hO.2.2.2.1
  have h6 := hO.1
  have hlb := hO.2.2.1
  have hTb := totB_in hO.2.1
  have hprr := hO.2.2.2.2.1
  refine j_aload_n 0 C dX7_transfer_0 rfl rfl rfl ?_
  refine j_iload_n 1 C dX7_transfer_1 rfl rfl rfl ?_
  refine j_iload_n 2 C dX7_transfer_2 rfl rfl rfl ?_
  rcases Classical.em (a < 0 ∨ (bs.length : Int) ≤ a ∨ b < 0 ∨ (bs.length : Int) ≤ b) with hq | hq
  · refine j_callV (st' := []) (As := [vi (a), vi (b)]) C dX7_transfer_3 rfl m_X7_125 h01 rfl rfl rfl (c_np1 (kL κ) hfl (kD κ) (kc κ) σ am bs ru se pf hd ca evs ln bl th hM a b ⟨by omega, by omega⟩ ⟨by omega, by omega⟩ hq) rfl (by omega) (by omega) (by omega) (fun _ _ hx => hx.elim) (fun v3 τ2 hp4 => ?_)
    obtain ⟨rfl, hN5, hN5k, hN5d⟩ := hp4
    show J κ τ2 [(0, .ref (am 0)), (1, vi (a)), (2, vi (b)), (3, vi (n))] 6 [vi (1)] _ _
    have hN5K := kp0.tr hN5k
    have hN5D := hN5d.trans dm0
    obtain ⟨hI6, gc6, gm6, gr6, gp6, gb6, go6, gf6, gg6, gt6, gz6, gk6, gl6, _, _, _, h06, ⟨hgc6, hgm6, hgr6, hgp6, hgb6, hgo6, hgf6, hgg6, hgt6, hgz6, hgk6, hgl6⟩, ⟨rfl, rfl, rfl⟩, hBn6, hRu6, hPr6, hTr6, hKi6, hLi6⟩ := id hN5
    have hI := hI6
    have hnb66 := hBn6.1
    refine j_if_ne (tgt := 85) C dX7_transfer_6 rfl rfl ⟨by omega, by omega⟩ (fun _ => ?_) (fun cc7 => absurd cc7 (by decide))
    refine j_iconst C dX7_transfer_85 rfl ?_
    have ho : o_transfer bs ru se pf hd ca evs ln a b n = (1, 0, (bs, ru, se, pf, hd, ca, evs, ln)) := by unfold o_transfer; rw [if_pos (by omega)]
    exact j_iret C E dX7_transfer_86 (by omega) (by omega) ⟨_, rfl, by rw [ho]; exact fun h9 => absurd (show (1 : Int) = 0 from h9) (by decide), ⟨_, by rw [ho]; exact hN5⟩, hN5K, hN5D⟩
  · obtain ⟨i, hi, rfl⟩ : ∃ i : Nat, i < bs.length ∧ a = (i : Int) := ⟨a.toNat, by omega, by omega⟩
    have hmmi := gB_mem (bs := bs) (i := (i : Int)) (by omega) (by omega)
    obtain ⟨hcpi, hlyi, htci⟩ := hO.2.1 _ hmmi
    have hlli := len_lenB hmmi
    have ht0i := tot_0 hlyi
    have hfli : tot (fl (gB bs (i : Int))) = tot (gB bs (i : Int)).2.2 := sum_fl _ _
    have hfoi : lysOk (fl (gB bs (i : Int))) := fl_ok hlyi
    obtain ⟨j, hj, rfl⟩ : ∃ j : Nat, j < bs.length ∧ b = (j : Int) := ⟨b.toNat, by omega, by omega⟩
    have hmmj := gB_mem (bs := bs) (i := (j : Int)) (by omega) (by omega)
    obtain ⟨hcpj, hlyj, htcj⟩ := hO.2.1 _ hmmj
    have hllj := len_lenB hmmj
    have ht0j := tot_0 hlyj
    have hflj : tot (fl (gB bs (j : Int))) = tot (gB bs (j : Int)).2.2 := sum_fl _ _
    have hfoj : lysOk (fl (gB bs (j : Int))) := fl_ok hlyj
    refine j_callV (st' := []) (As := [vi ((i : Int)), vi ((j : Int))]) C dX7_transfer_3 rfl m_X7_125 h01 rfl rfl rfl (c_np0 (kL κ) hfl (kD κ) (kc κ) σ am bs ru se pf hd ca evs ln bl th hM i j hi hj) rfl (by omega) (by omega) (by omega) (fun _ _ hx => hx.elim) (fun v9 τ8 hp10 => ?_)
    obtain ⟨rfl, hN11, hN11k, hN11d⟩ := hp10
    show J κ τ8 [(0, .ref (am 0)), (1, vi ((i : Int))), (2, vi ((j : Int))), (3, vi (n))] 6 [vi (0)] _ _
    have hN11K := kp0.tr hN11k
    have hN11D := hN11d.trans dm0
    obtain ⟨hI12, gc12, gm12, gr12, gp12, gb12, go12, gf12, gg12, gt12, gz12, gk12, gl12, _, _, _, h012, ⟨hgc12, hgm12, hgr12, hgp12, hgb12, hgo12, hgf12, hgg12, hgt12, hgz12, hgk12, hgl12⟩, ⟨rfl, rfl, rfl⟩, hBn12, hRu12, hPr12, hTr12, hKi12, hLi12⟩ := id hN11
    have hI := hI12
    have hnb612 := hBn12.1
    refine j_if_ne (tgt := 85) C dX7_transfer_6 rfl rfl ⟨by omega, by omega⟩ (fun cc13 => absurd cc13 (by decide)) (fun _ => ?_)
    refine j_aload_n 0 C dX7_transfer_9 rfl rfl rfl ?_
    refine j_iload_n 1 C dX7_transfer_10 rfl rfl rfl ?_
    refine j_iload_n 2 C dX7_transfer_11 rfl rfl rfl ?_
    refine j_icmp_eq (tgt := 26) C dX7_transfer_12 rfl rfl ⟨by omega, by omega⟩ ⟨by omega, by omega⟩ (fun cc14 => ?_) (fun cc14 => ?_)
    · refine j_iconst C dX7_transfer_26 rfl ?_
      refine j_goto (tgt := 31) C dX7_transfer_27 rfl ?_
      refine j_iconst C dX7_transfer_31 rfl ?_
      refine j_callV (st' := []) (As := [vi (1), vi (2)]) C dX7_transfer_32 rfl m_X7_62 h012 rfl rfl rfl (c_thr1 (kL κ) hfl (kD κ) (kc κ) τ8 am bs ru se pf hd ca evs ln bl 0 hN11 2) rfl (by omega) (by omega) (by omega) (fun _ _ hx => hx.elim) (fun v16 τ15 hp17 => ?_)
      obtain ⟨rfl, hN18, hN18k, hN18d⟩ := hp17
      show J κ τ15 [(0, .ref (am 0)), (1, vi ((i : Int))), (2, vi ((j : Int))), (3, vi (n))] 35 [vi (1)] _ _
      have hN18K := hN11K.tr hN18k
      have hN18D := hN18d.trans hN11D
      obtain ⟨hI19, gc19, gm19, gr19, gp19, gb19, go19, gf19, gg19, gt19, gz19, gk19, gl19, _, _, _, h019, ⟨hgc19, hgm19, hgr19, hgp19, hgb19, hgo19, hgf19, hgg19, hgt19, hgz19, hgk19, hgl19⟩, ⟨rfl, rfl, rfl⟩, hBn19, hRu19, hPr19, hTr19, hKi19, hLi19⟩ := id hN18
      have hI := hI19
      have hnb619 := hBn19.1
      refine j_if_ne (tgt := 85) C dX7_transfer_35 rfl rfl ⟨by omega, by omega⟩ (fun _ => ?_) (fun cc20 => absurd cc20 (by decide))
      refine j_iconst C dX7_transfer_85 rfl ?_
      have ho : o_transfer bs ru se pf hd ca evs ln (i : Int) (j : Int) n = (2, 0, (bs, ru, se, pf, hd, ca, evs, ln)) := by unfold o_transfer; rw [if_neg (by omega), if_pos (by omega)]
      exact j_iret C E dX7_transfer_86 (by omega) (by omega) ⟨_, rfl, by rw [ho]; exact fun h9 => absurd (show (2 : Int) = 0 from h9) (by decide), ⟨_, by rw [ho]; exact hN18⟩, hN18K, hN18D⟩
    · refine j_iload_n 3 C dX7_transfer_15 rfl rfl rfl ?_
      refine j_iconst C dX7_transfer_16 rfl ?_
      refine j_sipush C dX7_transfer_17 rfl (by decide) ?_
      refine j_callS (st' := [.ref (am 0)]) (As := [vi (n), vi (1), vi (5000)]) C dX7_transfer_20 rfl m_X7_58 rfl rfl (c_isIn (kL κ) hfl (kD κ) (kc κ) τ8 n 1 5000 ⟨by omega, by omega⟩ ⟨by omega, by omega⟩ ⟨by omega, by omega⟩) rfl (by omega) (by omega) (by omega) (fun _ _ hx => hx.elim) (fun v22 τ21 hp23 => ?_)
      obtain ⟨rfl, hs9⟩ := hp23
      replace hs9 := hs9.symm
      subst hs9
      show J κ τ8 [(0, .ref (am 0)), (1, vi ((i : Int))), (2, vi ((j : Int))), (3, vi (n))] 23 [vi ((inI n 1 5000)), .ref (am 0)] _ _
      refine j_if_ne (tgt := 30) C dX7_transfer_23 rfl rfl (inI_r _ _ _) (fun cc24 => ?_) (fun cc24 => ?_)
      · replace cc24 := inI_T cc24
        refine j_iconst C dX7_transfer_30 rfl ?_
        refine j_iconst C dX7_transfer_31 rfl ?_
        refine j_callV (st' := []) (As := [vi (0), vi (2)]) C dX7_transfer_32 rfl m_X7_62 h012 rfl rfl rfl (c_thr0 (kL κ) hfl (kD κ) (kc κ) τ8 am bs ru se pf hd ca evs ln bl 0 hN11 2) rfl (by omega) (by omega) (by omega) (fun _ _ hx => hx.elim) (fun v26 τ25 hp27 => ?_)
        obtain ⟨rfl, hN28, hN28k, hN28d⟩ := hp27
        show J κ τ25 [(0, .ref (am 0)), (1, vi ((i : Int))), (2, vi ((j : Int))), (3, vi (n))] 35 [vi (0)] _ _
        have hN28K := hN11K.tr hN28k
        have hN28D := hN28d.trans hN11D
        obtain ⟨hI29, gc29, gm29, gr29, gp29, gb29, go29, gf29, gg29, gt29, gz29, gk29, gl29, _, _, _, h029, ⟨hgc29, hgm29, hgr29, hgp29, hgb29, hgo29, hgf29, hgg29, hgt29, hgz29, hgk29, hgl29⟩, ⟨rfl, rfl, rfl⟩, hBn29, hRu29, hPr29, hTr29, hKi29, hLi29⟩ := id hN28
        have hI := hI29
        have hnb629 := hBn29.1
        refine j_if_ne (tgt := 85) C dX7_transfer_35 rfl rfl ⟨by omega, by omega⟩ (fun cc30 => absurd cc30 (by decide)) (fun _ => ?_)
        refine j_aload_n 0 C dX7_transfer_38 rfl rfl rfl ?_
        refine j_aload_n 0 C dX7_transfer_39 rfl rfl rfl ?_
        refine j_iload_n 1 C dX7_transfer_40 rfl rfl rfl ?_
        refine j_callV (st' := [.ref (am 0)]) (As := [vi ((i : Int))]) C dX7_transfer_41 rfl m_X7_93 h029 rfl rfl rfl (c_within (kL κ) hfl (kD κ) (kc κ) τ25 am bs ru se pf hd ca evs ln bl 0 hN28 i hi) rfl (by omega) (by omega) (by omega) (fun _ _ hx => hx.elim) (fun v32 τ31 hp33 => ?_)
        obtain ⟨rfl, hs9⟩ := hp33
        replace hs9 := hs9.symm
        subst hs9
        show J κ τ25 [(0, .ref (am 0)), (1, vi ((i : Int))), (2, vi ((j : Int))), (3, vi (n))] 44 [vi ((tot (gB bs (i : Int)).2.2)), .ref (am 0)] _ _
        refine j_iload_n 3 C dX7_transfer_44 rfl rfl rfl ?_
        refine j_icmp_lt (tgt := 73) C dX7_transfer_45 rfl rfl ⟨by omega, by omega⟩ ⟨by omega, by omega⟩ (fun cc34 => ?_) (fun cc34 => ?_)
        · refine j_iconst C dX7_transfer_73 rfl ?_
          refine j_goto (tgt := 78) C dX7_transfer_74 rfl ?_
          refine j_iconst C dX7_transfer_78 rfl ?_
          refine j_callV (st' := []) (As := [vi (1), vi (3)]) C dX7_transfer_79 rfl m_X7_62 h029 rfl rfl rfl (c_thr1 (kL κ) hfl (kD κ) (kc κ) τ25 am bs ru se pf hd ca evs ln bl 0 hN28 3) rfl (by omega) (by omega) (by omega) (fun _ _ hx => hx.elim) (fun v36 τ35 hp37 => ?_)
          obtain ⟨rfl, hN38, hN38k, hN38d⟩ := hp37
          show J κ τ35 [(0, .ref (am 0)), (1, vi ((i : Int))), (2, vi ((j : Int))), (3, vi (n))] 82 [vi (1)] _ _
          have hN38K := hN28K.tr hN38k
          have hN38D := hN38d.trans hN28D
          obtain ⟨hI39, gc39, gm39, gr39, gp39, gb39, go39, gf39, gg39, gt39, gz39, gk39, gl39, _, _, _, h039, ⟨hgc39, hgm39, hgr39, hgp39, hgb39, hgo39, hgf39, hgg39, hgt39, hgz39, hgk39, hgl39⟩, ⟨rfl, rfl, rfl⟩, hBn39, hRu39, hPr39, hTr39, hKi39, hLi39⟩ := id hN38
          have hI := hI39
          have hnb639 := hBn39.1
          refine j_if_eq (tgt := 87) C dX7_transfer_82 rfl rfl ⟨by omega, by omega⟩ (fun cc40 => absurd cc40 (by decide)) (fun _ => ?_)
          refine j_iconst C dX7_transfer_85 rfl ?_
          have ho : o_transfer bs ru se pf hd ca evs ln (i : Int) (j : Int) n = (3, 0, (bs, ru, se, pf, hd, ca, evs, ln)) := by unfold o_transfer; rw [if_neg (by omega), if_neg (by omega), if_pos (by omega)]
          exact j_iret C E dX7_transfer_86 (by omega) (by omega) ⟨_, rfl, by rw [ho]; exact fun h9 => absurd (show (3 : Int) = 0 from h9) (by decide), ⟨_, by rw [ho]; exact hN38⟩, hN38K, hN38D⟩
        · refine j_aload_n 0 C dX7_transfer_48 rfl rfl rfl ?_
          refine j_iload_n 2 C dX7_transfer_49 rfl rfl rfl ?_
          refine j_callV (st' := [.ref (am 0)]) (As := [vi ((j : Int))]) C dX7_transfer_50 rfl m_X7_93 h029 rfl rfl rfl (c_within (kL κ) hfl (kD κ) (kc κ) τ25 am bs ru se pf hd ca evs ln bl 0 hN28 j hj) rfl (by omega) (by omega) (by omega) (fun _ _ hx => hx.elim) (fun v42 τ41 hp43 => ?_)
          obtain ⟨rfl, hs9⟩ := hp43
          replace hs9 := hs9.symm
          subst hs9
          show J κ τ25 [(0, .ref (am 0)), (1, vi ((i : Int))), (2, vi ((j : Int))), (3, vi (n))] 53 [vi ((tot (gB bs (j : Int)).2.2)), .ref (am 0)] _ _
          refine j_iload_n 3 C dX7_transfer_53 rfl rfl rfl ?_
          have hbkj_29 := hBn29.2.2 j hj
          refine j_iadd C dX7_transfer_54 rfl ?_
          refine j_aload_n 0 C dX7_transfer_55 rfl rfl rfl ?_
          refine j_get C dX7_transfer_56 rfl fg_X7_9 h029 rfl ?_
          refine j_iload_n 2 C dX7_transfer_59 rfl rfl rfl ?_
          refine j_iald C dX7_transfer_60 rfl hgc29 ⟨by omega, by omega⟩ (by omega) hbkj_29.1.1 ?_
          refine j_icmp_gt (tgt := 73) C dX7_transfer_61 rfl rfl ⟨by omega, by omega⟩ ⟨by omega, by omega⟩ (fun cc44 => ?_) (fun cc44 => ?_)
          · refine j_iconst C dX7_transfer_73 rfl ?_
            refine j_goto (tgt := 78) C dX7_transfer_74 rfl ?_
            refine j_iconst C dX7_transfer_78 rfl ?_
            refine j_callV (st' := []) (As := [vi (1), vi (3)]) C dX7_transfer_79 rfl m_X7_62 h029 rfl rfl rfl (c_thr1 (kL κ) hfl (kD κ) (kc κ) τ25 am bs ru se pf hd ca evs ln bl 0 hN28 3) rfl (by omega) (by omega) (by omega) (fun _ _ hx => hx.elim) (fun v46 τ45 hp47 => ?_)
            obtain ⟨rfl, hN48, hN48k, hN48d⟩ := hp47
            show J κ τ45 [(0, .ref (am 0)), (1, vi ((i : Int))), (2, vi ((j : Int))), (3, vi (n))] 82 [vi (1)] _ _
            have hN48K := hN28K.tr hN48k
            have hN48D := hN48d.trans hN28D
            obtain ⟨hI49, gc49, gm49, gr49, gp49, gb49, go49, gf49, gg49, gt49, gz49, gk49, gl49, _, _, _, h049, ⟨hgc49, hgm49, hgr49, hgp49, hgb49, hgo49, hgf49, hgg49, hgt49, hgz49, hgk49, hgl49⟩, ⟨rfl, rfl, rfl⟩, hBn49, hRu49, hPr49, hTr49, hKi49, hLi49⟩ := id hN48
            have hI := hI49
            have hnb649 := hBn49.1
            refine j_if_eq (tgt := 87) C dX7_transfer_82 rfl rfl ⟨by omega, by omega⟩ (fun cc50 => absurd cc50 (by decide)) (fun _ => ?_)
            refine j_iconst C dX7_transfer_85 rfl ?_
            have ho : o_transfer bs ru se pf hd ca evs ln (i : Int) (j : Int) n = (3, 0, (bs, ru, se, pf, hd, ca, evs, ln)) := by unfold o_transfer; rw [if_neg (by omega), if_neg (by omega), if_pos (by omega)]
            exact j_iret C E dX7_transfer_86 (by omega) (by omega) ⟨_, rfl, by rw [ho]; exact fun h9 => absurd (show (3 : Int) = 0 from h9) (by decide), ⟨_, by rw [ho]; exact hN48⟩, hN48K, hN48D⟩
          · refine j_aload_n 0 C dX7_transfer_64 rfl rfl rfl ?_
            refine j_get C dX7_transfer_65 rfl fg_X7_80 h029 rfl ?_
            refine j_bipush C dX7_transfer_68 rfl (by decide) ?_
            refine j_icmp_ne (tgt := 77) C dX7_transfer_70 rfl rfl ⟨by omega, by omega⟩ ⟨by omega, by omega⟩ (fun cc51 => ?_) (fun cc51 => ?_)
            · refine j_iconst C dX7_transfer_77 rfl ?_
              refine j_iconst C dX7_transfer_78 rfl ?_
              refine j_callV (st' := []) (As := [vi (0), vi (3)]) C dX7_transfer_79 rfl m_X7_62 h029 rfl rfl rfl (c_thr0 (kL κ) hfl (kD κ) (kc κ) τ25 am bs ru se pf hd ca evs ln bl 0 hN28 3) rfl (by omega) (by omega) (by omega) (fun _ _ hx => hx.elim) (fun v53 τ52 hp54 => ?_)
              obtain ⟨rfl, hN55, hN55k, hN55d⟩ := hp54
              show J κ τ52 [(0, .ref (am 0)), (1, vi ((i : Int))), (2, vi ((j : Int))), (3, vi (n))] 82 [vi (0)] _ _
              have hN55K := hN28K.tr hN55k
              have hN55D := hN55d.trans hN28D
              obtain ⟨hI56, gc56, gm56, gr56, gp56, gb56, go56, gf56, gg56, gt56, gz56, gk56, gl56, _, _, _, h056, ⟨hgc56, hgm56, hgr56, hgp56, hgb56, hgo56, hgf56, hgg56, hgt56, hgz56, hgk56, hgl56⟩, ⟨rfl, rfl, rfl⟩, hBn56, hRu56, hPr56, hTr56, hKi56, hLi56⟩ := id hN55
              have hI := hI56
              have hnb656 := hBn56.1
              refine j_if_eq (tgt := 87) C dX7_transfer_82 rfl rfl ⟨by omega, by omega⟩ (fun _ => ?_) (fun cc57 => absurd cc57 (by decide))
              have hbkj_56 := hBn56.2.2 j hj
              have hl : evs.length < 80 := by omega
              have hij : i ≠ j := by omega
              obtain ⟨-, hap, hOk⟩ := trans_ev hO hl hi hj hij (n := n) ⟨by omega, by omega⟩ (by omega)
              have hgA : (gB (apB (gradeF ru se) bs (116, (i : Int), (j : Int), n, 0, 0, 0)) (j : Int)).2.2 = (gB bs (j : Int)).2.2 ++ takeL n (fl (gB bs (i : Int))) := by rw [hap, gB_setS (by rw [outB_len]; exact hj)]
              have hlA := len_lenB (gB_mem (bs := (apB (gradeF ru se) bs (116, (i : Int), (j : Int), n, 0, 0, 0))) (i := (j : Int)) (by omega) (by rw [apB_len]; omega))
              rw [hgA, List.length_append] at hlA
              have hle := hOk.2.2.1.1
              rw [List.length_append] at hle
              have h1e : [(116, (i : Int), (j : Int), n, 0, 0, 0)].length = 1 := rfl
              refine j_aload_n 0 C dX7_transfer_87 rfl rfl rfl ?_
              refine j_get C dX7_transfer_88 rfl fg_X7_13 h056 rfl ?_
              refine j_iload_n 2 C dX7_transfer_91 rfl rfl rfl ?_
              refine j_iald C dX7_transfer_92 rfl hgm56 ⟨by omega, by omega⟩ (by omega) hbkj_56.2.1.1 ?_
              refine j_istore (lv' := [(0, .ref (am 0)), (1, vi ((i : Int))), (2, vi ((j : Int))), (3, vi (n)), (4, vi (((gB bs (j : Int)).2.2.length : Int)))]) [1, 2, 3, 4, 0] C dX7_transfer_93 rfl rfl rfl ?_
              refine j_aload_n 0 C dX7_transfer_95 rfl rfl rfl ?_
              refine j_iload_n 1 C dX7_transfer_96 rfl rfl rfl ?_
              refine j_iload_n 3 C dX7_transfer_97 rfl rfl rfl ?_
              refine j_iload_n 2 C dX7_transfer_98 rfl rfl rfl ?_
              refine j_callV (st' := []) (As := [vi ((i : Int)), vi (n), vi ((j : Int))]) C dX7_transfer_99 rfl m_X7_121 h056 rfl rfl rfl (c_flowsT (kL κ) hfl (kD κ) (kc κ) τ52 am bs ru se pf hd ca evs ln bl 0 hN55 i hi hlyi n ⟨by omega, by omega⟩ j hj hij (by omega)) rfl (by omega) (by omega) (by omega) (fun _ _ hx => hx.elim) (fun v59 τ58 hp60 => ?_)
              obtain ⟨rfl, hN61, hN61k, hN61d⟩ := hp60
              rw [← hap] at hN61
              show J κ τ58 [(0, .ref (am 0)), (1, vi ((i : Int))), (2, vi ((j : Int))), (3, vi (n)), (4, vi (((gB bs (j : Int)).2.2.length : Int)))] 102 [vi ((sumL (cf pf) (takeL n (fl (gB bs (i : Int))))))] _ _
              have hN61K := hN55K.tr hN61k
              have hN61D := hN61d.trans hN55D
              obtain ⟨hI62, gc62, gm62, gr62, gp62, gb62, go62, gf62, gg62, gt62, gz62, gk62, gl62, _, _, _, h062, ⟨hgc62, hgm62, hgr62, hgp62, hgb62, hgo62, hgf62, hgg62, hgt62, hgz62, hgk62, hgl62⟩, ⟨rfl, rfl, rfl⟩, hBn62, hRu62, hPr62, hTr62, hKi62, hLi62⟩ := id hN61
              have hI := hI62
              have hnb662 := hBn62.1
              refine j_istore (lv' := [(0, .ref (am 0)), (1, vi ((i : Int))), (2, vi ((j : Int))), (3, vi (n)), (4, vi (((gB bs (j : Int)).2.2.length : Int))), (5, vi ((sumL (cf pf) (takeL n (fl (gB bs (i : Int)))))))]) [1, 2, 3, 4, 5, 0] C dX7_transfer_102 rfl rfl rfl ?_
              refine j_aload_n 0 C dX7_transfer_104 rfl rfl rfl ?_
              refine j_bipush C dX7_transfer_105 rfl (by decide) ?_
              have hTA := totB_in hOk.2.1
              have hA6 := hOk.1
              refine j_callV (st' := []) (As := [vi (116)]) C dX7_transfer_107 rfl m_X7_105 h062 rfl rfl rfl (c_notes (kL κ) hfl (kD κ) (kc κ) τ58 am (apB (gradeF ru se) bs (116, (i : Int), (j : Int), n, 0, 0, 0)) ru se pf hd ca evs ln bl 0 hN61 (116, (i : Int), (j : Int), n, 0, 0, 0) nar_t (⟨by decide, by decide⟩ : (0 : Int) ≤ 116 ∧ (116 : Int) < 128) hl (by omega) ⟨by omega, by omega⟩ ⟨by omega, by omega⟩) rfl (by omega) (by omega) (by omega) (fun _ _ hx => hx.elim) (fun v64 τ63 hp65 => ?_)
              obtain ⟨rfl, hN66, hN66k, hN66d⟩ := hp65
              show J κ τ63 [(0, .ref (am 0)), (1, vi ((i : Int))), (2, vi ((j : Int))), (3, vi (n)), (4, vi (((gB bs (j : Int)).2.2.length : Int))), (5, vi ((sumL (cf pf) (takeL n (fl (gB bs (i : Int)))))))] 110 [] _ _
              have hN66K := hN61K.tr hN66k
              have hN66D := hN66d.trans hN61D
              obtain ⟨hI67, gc67, gm67, gr67, gp67, gb67, go67, gf67, gg67, gt67, gz67, gk67, gl67, _, _, _, h067, ⟨hgc67, hgm67, hgr67, hgp67, hgb67, hgo67, hgf67, hgg67, hgt67, hgz67, hgk67, hgl67⟩, ⟨rfl, rfl, rfl⟩, hBn67, hRu67, hPr67, hTr67, hKi67, hLi67⟩ := id hN66
              have hI := hI67
              have hnb667 := hBn67.1
              have hbkj_67 := hBn67.2.2 j (by rw [apB_len]; exact hj)
              refine j_aload_n 0 C dX7_transfer_110 rfl rfl rfl ?_
              refine j_get C dX7_transfer_111 rfl fg_X7_13 h067 rfl ?_
              refine j_iload_n 2 C dX7_transfer_114 rfl rfl rfl ?_
              refine j_iald C dX7_transfer_115 rfl hgm67 ⟨by omega, by omega⟩ (by omega) hbkj_67.2.1.1 ?_
              refine j_iload 4 C dX7_transfer_116 rfl rfl ?_
              refine j_isub C dX7_transfer_118 rfl ?_
              have ho : o_transfer bs ru se pf hd ca evs ln (i : Int) (j : Int) n = (0, ((gB (apB (gradeF ru se) bs (116, (i : Int), (j : Int), n, 0, 0, 0)) (j : Int)).2.2.length : Int) - ((gB bs (j : Int)).2.2.length : Int), evS bs ru se pf hd ca evs ln (116, (i : Int), (j : Int), n, 0, 0, 0) 0) := by unfold o_transfer; rw [if_neg (by omega), if_neg (by omega), if_neg (by omega)]
              exact j_iret C E dX7_transfer_119 (by omega) (by omega) ⟨_, rfl, by rw [ho]; exact fun _ => rfl, ⟨_, by rw [ho]; exact (by show RM _ _ _ _ _ _ _ _ (ca + 0) _ _ _ _; rw [Int.add_zero]; exact hN66)⟩, hN66K, hN66D⟩
            · refine j_iconst C dX7_transfer_73 rfl ?_
              refine j_goto (tgt := 78) C dX7_transfer_74 rfl ?_
              refine j_iconst C dX7_transfer_78 rfl ?_
              refine j_callV (st' := []) (As := [vi (1), vi (3)]) C dX7_transfer_79 rfl m_X7_62 h029 rfl rfl rfl (c_thr1 (kL κ) hfl (kD κ) (kc κ) τ25 am bs ru se pf hd ca evs ln bl 0 hN28 3) rfl (by omega) (by omega) (by omega) (fun _ _ hx => hx.elim) (fun v69 τ68 hp70 => ?_)
              obtain ⟨rfl, hN71, hN71k, hN71d⟩ := hp70
              show J κ τ68 [(0, .ref (am 0)), (1, vi ((i : Int))), (2, vi ((j : Int))), (3, vi (n))] 82 [vi (1)] _ _
              have hN71K := hN28K.tr hN71k
              have hN71D := hN71d.trans hN28D
              obtain ⟨hI72, gc72, gm72, gr72, gp72, gb72, go72, gf72, gg72, gt72, gz72, gk72, gl72, _, _, _, h072, ⟨hgc72, hgm72, hgr72, hgp72, hgb72, hgo72, hgf72, hgg72, hgt72, hgz72, hgk72, hgl72⟩, ⟨rfl, rfl, rfl⟩, hBn72, hRu72, hPr72, hTr72, hKi72, hLi72⟩ := id hN71
              have hI := hI72
              have hnb672 := hBn72.1
              refine j_if_eq (tgt := 87) C dX7_transfer_82 rfl rfl ⟨by omega, by omega⟩ (fun cc73 => absurd cc73 (by decide)) (fun _ => ?_)
              refine j_iconst C dX7_transfer_85 rfl ?_
              have ho : o_transfer bs ru se pf hd ca evs ln (i : Int) (j : Int) n = (3, 0, (bs, ru, se, pf, hd, ca, evs, ln)) := by unfold o_transfer; rw [if_neg (by omega), if_neg (by omega), if_pos (by omega)]
              exact j_iret C E dX7_transfer_86 (by omega) (by omega) ⟨_, rfl, by rw [ho]; exact fun h9 => absurd (show (3 : Int) = 0 from h9) (by decide), ⟨_, by rw [ho]; exact hN71⟩, hN71K, hN71D⟩
      · replace cc24 := inI_F cc24
        refine j_iconst C dX7_transfer_26 rfl ?_
        refine j_goto (tgt := 31) C dX7_transfer_27 rfl ?_
        refine j_iconst C dX7_transfer_31 rfl ?_
        refine j_callV (st' := []) (As := [vi (1), vi (2)]) C dX7_transfer_32 rfl m_X7_62 h012 rfl rfl rfl (c_thr1 (kL κ) hfl (kD κ) (kc κ) τ8 am bs ru se pf hd ca evs ln bl 0 hN11 2) rfl (by omega) (by omega) (by omega) (fun _ _ hx => hx.elim) (fun v75 τ74 hp76 => ?_)
        obtain ⟨rfl, hN77, hN77k, hN77d⟩ := hp76
        show J κ τ74 [(0, .ref (am 0)), (1, vi ((i : Int))), (2, vi ((j : Int))), (3, vi (n))] 35 [vi (1)] _ _
        have hN77K := hN11K.tr hN77k
        have hN77D := hN77d.trans hN11D
        obtain ⟨hI78, gc78, gm78, gr78, gp78, gb78, go78, gf78, gg78, gt78, gz78, gk78, gl78, _, _, _, h078, ⟨hgc78, hgm78, hgr78, hgp78, hgb78, hgo78, hgf78, hgg78, hgt78, hgz78, hgk78, hgl78⟩, ⟨rfl, rfl, rfl⟩, hBn78, hRu78, hPr78, hTr78, hKi78, hLi78⟩ := id hN77
        have hI := hI78
        have hnb678 := hBn78.1
        refine j_if_ne (tgt := 85) C dX7_transfer_35 rfl rfl ⟨by omega, by omega⟩ (fun _ => ?_) (fun cc79 => absurd cc79 (by decide))
        refine j_iconst C dX7_transfer_85 rfl ?_
        have ho : o_transfer bs ru se pf hd ca evs ln (i : Int) (j : Int) n = (2, 0, (bs, ru, se, pf, hd, ca, evs, ln)) := by unfold o_transfer; rw [if_neg (by omega), if_pos (by omega)]
        exact j_iret C E dX7_transfer_86 (by omega) (by omega) ⟨_, rfl, by rw [ho]; exact fun h9 => absurd (show (2 : Int) = 0 from h9) (by decide), ⟨_, by rw [ho]; exact hN77⟩, hN77K, hN77D⟩
