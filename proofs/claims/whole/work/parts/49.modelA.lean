/-! GrainElevatorModel: the best blend -/
theorem bm_in {n x : Int} (hn : 1 ≤ n ∧ n ≤ 500) (hx : 80 ≤ x ∧ x ≤ 300) : 0 ≤ x * n ∧ x * n ≤ 1000000 := by
  have h1 : 0 ≤ x * n := Int.mul_nonneg (by omega) (by omega)
  have h2 : x * n ≤ 300 * n := Int.mul_le_mul_of_nonneg_right hx.2 (by omega)
  omega
theorem bestK_cost (pf : Nat → Int) (L1 L2 : List Ly) (n mw lo : Int) : ∀ k, (bestK pf L1 L2 n mw lo k).1 = true → (bestK pf L1 L2 n mw lo k).2.2 = mixC pf L1 L2 n (bestK pf L1 L2 n mw lo k).2.1
  | 0, h => by cases h
  | k + 1, h => by
    have ih := bestK_cost pf L1 L2 n mw lo k
    rw [bestK] at h ⊢
    unfold offF at h ⊢
    split
    · rfl
    · rename_i hc
      rw [if_neg hc] at h
      exact ih h
theorem gB_outN {bs : List Bn} {i j : Nat} {n : Int} (h : i < bs.length) (hij : j ≠ i) : gB (outB bs i n) j = gB bs j := gB_setN h hij
theorem gM_eq (ru : Nat → Int × Int) (se : Int) (L1 L2 : List Ly) (n s : Int) : gradeM ru se L1 L2 s (n - s) = gradeF ru se ((mixW L1 L2 n s + n - 1) / n) ((mixD L1 L2 n s + n - 1) / n) := by
  unfold gradeM upD mixW mixD
  rw [show s + (n - s) = n by omega]
set_option maxHeartbeats 8000000 in
set_option maxRecDepth 20000 in
theorem c_nB1 (l : Launch) (hfl : l.stackTraces = false) (D : va_G) (cy : Nat → Nat) (σ : Wd) (am : Nat → Nat) (bs : List Bn) (ru : Nat → Int × Int) (se : Int) (pf : Nat → Int) (hd : Hd) (ca : Int) (evs : List Evt) (ln : List Int) (bl : Int × Int × Int) (th : Int) (hM : RM cy σ am bs ru se pf hd ca evs ln bl th) (a b : Int) (ha9 : (-2147483648 ≤ a ∧ a < 2147483648)) (hb9 : (-2147483648 ≤ b ∧ b < 2147483648)) (n : Int) (hn9 : (-2147483648 ≤ n ∧ n < 2147483648)) (x : Int) (hx9 : (-2147483648 ≤ x ∧ x < 2147483648)) (h : a < 0 ∨ (bs.length : Int) ≤ a ∨ b < 0 ∨ (bs.length : Int) ≤ b) : Ct l yX7_isNoBlend cX7_isNoBlend 5 (some .boolean) 4 0 0 D cy [.ref (am 0), vi (a), vi (b), vi (n), vi (x)] σ (fun v σ' => v = some (vi 1) ∧ (∃ bl', RM cy σ' am bs ru se pf hd ca evs ln bl' 1) ∧ Keep σ σ' (inM am) ∧ σ'.1 = σ.1) noX := by
  refine ct_start (by decide +kernel) hfl rfl (fun κ e1 e2 e3 C E NH => ?_)
  subst e1 e2 e3
  have C : Cx κ cX7_isNoBlend 5 RX7 "isNoBlend" 4 := C
  obtain ⟨-, -, -, -, hc, hs⟩ := id E
  show J κ σ [(0, .ref (am 0)), (1, vi (a)), (2, vi (b)), (3, vi (n)), (4, vi (x))] 0 [] 0 0
  obtain ⟨hI1, gc1, gm1, gr1, gp1, gb1, go1, gf1, gg1, gt1, gz1, gk1, gl1, _, _, _, h01, ⟨hgc1, hgm1, hgr1, hgp1, hgb1, hgo1, hgf1, hgg1, hgt1, hgz1, hgk1, hgl1⟩, ⟨rfl, rfl, rfl⟩, hBn1, hRu1, hPr1, hTr1, hKi1, hLi1⟩ := id hM
  have hI := hI1
  have hnb61 := hBn1.1
  have kp0 : Keep σ σ (inM am) := Keep.rf
  have dm0 : σ.1 = σ.1 := rfl
  refine j_aload_n 0 C dX7_isNoBlend_0 rfl rfl rfl ?_
  refine j_iload_n 1 C dX7_isNoBlend_1 rfl rfl rfl ?_
  refine j_iload_n 2 C dX7_isNoBlend_2 rfl rfl rfl ?_
  refine j_callV (st' := []) (As := [vi (a), vi (b)]) C dX7_isNoBlend_3 rfl m_X7_125 h01 rfl rfl rfl (c_np1 (kL κ) hfl (kD κ) (kc κ) σ am bs ru se pf hd ca evs ln bl th hM a b ha9 hb9 h) rfl (by omega) (by omega) (by omega) (fun _ _ hx => hx.elim) (fun v3 τ2 hp4 => ?_)
  obtain ⟨rfl, hN5, hN5k, hN5d⟩ := hp4
  show J κ τ2 [(0, .ref (am 0)), (1, vi (a)), (2, vi (b)), (3, vi (n)), (4, vi (x))] 6 [vi (1)] _ _
  have hN5K := kp0.tr hN5k
  have hN5D := hN5d.trans dm0
  obtain ⟨hI6, gc6, gm6, gr6, gp6, gb6, go6, gf6, gg6, gt6, gz6, gk6, gl6, _, _, _, h06, ⟨hgc6, hgm6, hgr6, hgp6, hgb6, hgo6, hgf6, hgg6, hgt6, hgz6, hgk6, hgl6⟩, ⟨rfl, rfl, rfl⟩, hBn6, hRu6, hPr6, hTr6, hKi6, hLi6⟩ := id hN5
  have hI := hI6
  have hnb66 := hBn6.1
  refine j_if_ne (tgt := 71) C dX7_isNoBlend_6 rfl rfl ⟨by omega, by omega⟩ (fun _ => ?_) (fun cc7 => absurd cc7 (by decide))
  refine j_iconst C dX7_isNoBlend_71 rfl ?_
  refine j_goto (tgt := 76) C dX7_isNoBlend_72 rfl ?_
  exact j_zret C E dX7_isNoBlend_76 rfl (by omega) (by omega) ⟨rfl, ⟨_, hN5⟩, hN5K, hN5D⟩
set_option maxHeartbeats 8000000 in
set_option maxRecDepth 20000 in
theorem c_nB2 (l : Launch) (hfl : l.stackTraces = false) (D : va_G) (cy : Nat → Nat) (σ : Wd) (am : Nat → Nat) (bs : List Bn) (ru : Nat → Int × Int) (se : Int) (pf : Nat → Int) (hd : Hd) (ca : Int) (evs : List Evt) (ln : List Int) (bl : Int × Int × Int) (th : Int) (hM : RM cy σ am bs ru se pf hd ca evs ln bl th) (i j : Nat) (hi : i < bs.length) (hj : j < bs.length) (n : Int) (hn9 : (-2147483648 ≤ n ∧ n < 2147483648)) (x : Int) (hx9 : (-2147483648 ≤ x ∧ x < 2147483648)) (h : (i : Int) = (j : Int) ∨ n < 1 ∨ 500 < n ∨ x < 80 ∨ 300 < x) : Ct l yX7_isNoBlend cX7_isNoBlend 5 (some .boolean) 4 0 0 D cy [.ref (am 0), vi ((i : Int)), vi ((j : Int)), vi (n), vi (x)] σ (fun v σ' => v = some (vi 1) ∧ (∃ bl', RM cy σ' am bs ru se pf hd ca evs ln bl' 2) ∧ Keep σ σ' (inM am) ∧ σ'.1 = σ.1) noX := by
  refine ct_start (by decide +kernel) hfl rfl (fun κ e1 e2 e3 C E NH => ?_)
  subst e1 e2 e3
  have C : Cx κ cX7_isNoBlend 5 RX7 "isNoBlend" 4 := C
  obtain ⟨-, -, -, -, hc, hs⟩ := id E
  show J κ σ [(0, .ref (am 0)), (1, vi ((i : Int))), (2, vi ((j : Int))), (3, vi (n)), (4, vi (x))] 0 [] 0 0
  obtain ⟨hI1, gc1, gm1, gr1, gp1, gb1, go1, gf1, gg1, gt1, gz1, gk1, gl1, _, _, _, h01, ⟨hgc1, hgm1, hgr1, hgp1, hgb1, hgo1, hgf1, hgg1, hgt1, hgz1, hgk1, hgl1⟩, ⟨rfl, rfl, rfl⟩, hBn1, hRu1, hPr1, hTr1, hKi1, hLi1⟩ := id hM
  have hI := hI1
  have hnb61 := hBn1.1
  have kp0 : Keep σ σ (inM am) := Keep.rf
  have dm0 : σ.1 = σ.1 := rfl
  refine j_aload_n 0 C dX7_isNoBlend_0 rfl rfl rfl ?_
  refine j_iload_n 1 C dX7_isNoBlend_1 rfl rfl rfl ?_
  refine j_iload_n 2 C dX7_isNoBlend_2 rfl rfl rfl ?_
  refine j_callV (st' := []) (As := [vi ((i : Int)), vi ((j : Int))]) C dX7_isNoBlend_3 rfl m_X7_125 h01 rfl rfl rfl (c_np0 (kL κ) hfl (kD κ) (kc κ) σ am bs ru se pf hd ca evs ln bl th hM i j hi hj) rfl (by omega) (by omega) (by omega) (fun _ _ hx => hx.elim) (fun v3 τ2 hp4 => ?_)
  obtain ⟨rfl, hN5, hN5k, hN5d⟩ := hp4
  show J κ τ2 [(0, .ref (am 0)), (1, vi ((i : Int))), (2, vi ((j : Int))), (3, vi (n)), (4, vi (x))] 6 [vi (0)] _ _
  have hN5K := kp0.tr hN5k
  have hN5D := hN5d.trans dm0
  obtain ⟨hI6, gc6, gm6, gr6, gp6, gb6, go6, gf6, gg6, gt6, gz6, gk6, gl6, _, _, _, h06, ⟨hgc6, hgm6, hgr6, hgp6, hgb6, hgo6, hgf6, hgg6, hgt6, hgz6, hgk6, hgl6⟩, ⟨rfl, rfl, rfl⟩, hBn6, hRu6, hPr6, hTr6, hKi6, hLi6⟩ := id hN5
  have hI := hI6
  have hnb66 := hBn6.1
  refine j_if_ne (tgt := 71) C dX7_isNoBlend_6 rfl rfl ⟨by omega, by omega⟩ (fun cc7 => absurd cc7 (by decide)) (fun _ => ?_)
  refine j_aload_n 0 C dX7_isNoBlend_9 rfl rfl rfl ?_
  refine j_iload_n 1 C dX7_isNoBlend_10 rfl rfl rfl ?_
  refine j_iload_n 2 C dX7_isNoBlend_11 rfl rfl rfl ?_
  refine j_icmp_eq (tgt := 34) C dX7_isNoBlend_12 rfl rfl ⟨by omega, by omega⟩ ⟨by omega, by omega⟩ (fun cc8 => ?_) (fun cc8 => ?_)
  · refine j_iconst C dX7_isNoBlend_34 rfl ?_
    refine j_goto (tgt := 39) C dX7_isNoBlend_35 rfl ?_
    refine j_iconst C dX7_isNoBlend_39 rfl ?_
    refine j_callV (st' := []) (As := [vi (1), vi (2)]) C dX7_isNoBlend_40 rfl m_X7_62 h06 rfl rfl rfl (c_thr1 (kL κ) hfl (kD κ) (kc κ) τ2 am bs ru se pf hd ca evs ln bl 0 hN5 2) rfl (by omega) (by omega) (by omega) (fun _ _ hx => hx.elim) (fun v10 τ9 hp11 => ?_)
    obtain ⟨rfl, hN12, hN12k, hN12d⟩ := hp11
    show J κ τ9 [(0, .ref (am 0)), (1, vi ((i : Int))), (2, vi ((j : Int))), (3, vi (n)), (4, vi (x))] 43 [vi (1)] _ _
    have hN12K := hN5K.tr hN12k
    have hN12D := hN12d.trans hN5D
    obtain ⟨hI13, gc13, gm13, gr13, gp13, gb13, go13, gf13, gg13, gt13, gz13, gk13, gl13, _, _, _, h013, ⟨hgc13, hgm13, hgr13, hgp13, hgb13, hgo13, hgf13, hgg13, hgt13, hgz13, hgk13, hgl13⟩, ⟨rfl, rfl, rfl⟩, hBn13, hRu13, hPr13, hTr13, hKi13, hLi13⟩ := id hN12
    have hI := hI13
    have hnb613 := hBn13.1
    refine j_if_ne (tgt := 71) C dX7_isNoBlend_43 rfl rfl ⟨by omega, by omega⟩ (fun _ => ?_) (fun cc14 => absurd cc14 (by decide))
    refine j_iconst C dX7_isNoBlend_71 rfl ?_
    refine j_goto (tgt := 76) C dX7_isNoBlend_72 rfl ?_
    exact j_zret C E dX7_isNoBlend_76 rfl (by omega) (by omega) ⟨rfl, ⟨_, hN12⟩, hN12K, hN12D⟩
  · refine j_iload_n 3 C dX7_isNoBlend_15 rfl rfl rfl ?_
    refine j_iconst C dX7_isNoBlend_16 rfl ?_
    refine j_sipush C dX7_isNoBlend_17 rfl (by decide) ?_
    refine j_callS (st' := [.ref (am 0)]) (As := [vi (n), vi (1), vi (500)]) C dX7_isNoBlend_20 rfl m_X7_58 rfl rfl (c_isIn (kL κ) hfl (kD κ) (kc κ) τ2 n 1 500 ⟨by omega, by omega⟩ ⟨by omega, by omega⟩ ⟨by omega, by omega⟩) rfl (by omega) (by omega) (by omega) (fun _ _ hx => hx.elim) (fun v16 τ15 hp17 => ?_)
    obtain ⟨rfl, hs9⟩ := hp17
    replace hs9 := hs9.symm
    subst hs9
    show J κ τ2 [(0, .ref (am 0)), (1, vi ((i : Int))), (2, vi ((j : Int))), (3, vi (n)), (4, vi (x))] 23 [vi ((inI n 1 500)), .ref (am 0)] _ _
    refine j_if_eq (tgt := 34) C dX7_isNoBlend_23 rfl rfl (inI_r _ _ _) (fun cc18 => ?_) (fun cc18 => ?_)
    · replace cc18 := inI_F cc18
      refine j_iconst C dX7_isNoBlend_34 rfl ?_
      refine j_goto (tgt := 39) C dX7_isNoBlend_35 rfl ?_
      refine j_iconst C dX7_isNoBlend_39 rfl ?_
      refine j_callV (st' := []) (As := [vi (1), vi (2)]) C dX7_isNoBlend_40 rfl m_X7_62 h06 rfl rfl rfl (c_thr1 (kL κ) hfl (kD κ) (kc κ) τ2 am bs ru se pf hd ca evs ln bl 0 hN5 2) rfl (by omega) (by omega) (by omega) (fun _ _ hx => hx.elim) (fun v20 τ19 hp21 => ?_)
      obtain ⟨rfl, hN22, hN22k, hN22d⟩ := hp21
      show J κ τ19 [(0, .ref (am 0)), (1, vi ((i : Int))), (2, vi ((j : Int))), (3, vi (n)), (4, vi (x))] 43 [vi (1)] _ _
      have hN22K := hN5K.tr hN22k
      have hN22D := hN22d.trans hN5D
      obtain ⟨hI23, gc23, gm23, gr23, gp23, gb23, go23, gf23, gg23, gt23, gz23, gk23, gl23, _, _, _, h023, ⟨hgc23, hgm23, hgr23, hgp23, hgb23, hgo23, hgf23, hgg23, hgt23, hgz23, hgk23, hgl23⟩, ⟨rfl, rfl, rfl⟩, hBn23, hRu23, hPr23, hTr23, hKi23, hLi23⟩ := id hN22
      have hI := hI23
      have hnb623 := hBn23.1
      refine j_if_ne (tgt := 71) C dX7_isNoBlend_43 rfl rfl ⟨by omega, by omega⟩ (fun _ => ?_) (fun cc24 => absurd cc24 (by decide))
      refine j_iconst C dX7_isNoBlend_71 rfl ?_
      refine j_goto (tgt := 76) C dX7_isNoBlend_72 rfl ?_
      exact j_zret C E dX7_isNoBlend_76 rfl (by omega) (by omega) ⟨rfl, ⟨_, hN22⟩, hN22K, hN22D⟩
    · replace cc18 := inI_T cc18
      refine j_iload 4 C dX7_isNoBlend_26 rfl rfl ?_
      refine j_callS (st' := [.ref (am 0)]) (As := [vi (x)]) C dX7_isNoBlend_28 rfl m_X7_70 rfl rfl (c_isMoist (kL κ) hfl (kD κ) (kc κ) τ2 x ⟨by omega, by omega⟩) rfl (by omega) (by omega) (by omega) (fun _ _ hx => hx.elim) (fun v26 τ25 hp27 => ?_)
      obtain ⟨rfl, hs9⟩ := hp27
      replace hs9 := hs9.symm
      subst hs9
      show J κ τ2 [(0, .ref (am 0)), (1, vi ((i : Int))), (2, vi ((j : Int))), (3, vi (n)), (4, vi (x))] 31 [vi ((inI x 80 300)), .ref (am 0)] _ _
      refine j_if_ne (tgt := 38) C dX7_isNoBlend_31 rfl rfl (inI_r _ _ _) (fun cc28 => ?_) (fun cc28 => ?_)
      · replace cc28 := inI_T cc28
        refine j_iconst C dX7_isNoBlend_38 rfl ?_
        refine j_iconst C dX7_isNoBlend_39 rfl ?_
        refine j_callV (st' := []) (As := [vi (0), vi (2)]) C dX7_isNoBlend_40 rfl m_X7_62 h06 rfl rfl rfl (c_thr0 (kL κ) hfl (kD κ) (kc κ) τ2 am bs ru se pf hd ca evs ln bl 0 hN5 2) rfl (by omega) (by omega) (by omega) (fun _ _ hx => hx.elim) (fun v30 τ29 hp31 => ?_)
        obtain ⟨rfl, hN32, hN32k, hN32d⟩ := hp31
        show J κ τ29 [(0, .ref (am 0)), (1, vi ((i : Int))), (2, vi ((j : Int))), (3, vi (n)), (4, vi (x))] 43 [vi (0)] _ _
        have hN32K := hN5K.tr hN32k
        have hN32D := hN32d.trans hN5D
        obtain ⟨hI33, gc33, gm33, gr33, gp33, gb33, go33, gf33, gg33, gt33, gz33, gk33, gl33, _, _, _, h033, ⟨hgc33, hgm33, hgr33, hgp33, hgb33, hgo33, hgf33, hgg33, hgt33, hgz33, hgk33, hgl33⟩, ⟨rfl, rfl, rfl⟩, hBn33, hRu33, hPr33, hTr33, hKi33, hLi33⟩ := id hN32
        have hI := hI33
        have hnb633 := hBn33.1
        refine j_if_ne (tgt := 71) C dX7_isNoBlend_43 rfl rfl ⟨by omega, by omega⟩ (fun cc34 => absurd cc34 (by decide)) (fun _ => ?_)
        refine j_aload_n 0 C dX7_isNoBlend_46 rfl rfl rfl ?_
        refine j_aload_n 0 C dX7_isNoBlend_47 rfl rfl rfl ?_
        refine j_iload_n 1 C dX7_isNoBlend_48 rfl rfl rfl ?_
        refine j_iload_n 2 C dX7_isNoBlend_49 rfl rfl rfl ?_
        refine j_iload_n 3 C dX7_isNoBlend_50 rfl rfl rfl ?_
        refine j_iload 4 C dX7_isNoBlend_51 rfl rfl ?_
        exfalso
        omega
      · replace cc28 := inI_F cc28
        refine j_iconst C dX7_isNoBlend_34 rfl ?_
        refine j_goto (tgt := 39) C dX7_isNoBlend_35 rfl ?_
        refine j_iconst C dX7_isNoBlend_39 rfl ?_
        refine j_callV (st' := []) (As := [vi (1), vi (2)]) C dX7_isNoBlend_40 rfl m_X7_62 h06 rfl rfl rfl (c_thr1 (kL κ) hfl (kD κ) (kc κ) τ2 am bs ru se pf hd ca evs ln bl 0 hN5 2) rfl (by omega) (by omega) (by omega) (fun _ _ hx => hx.elim) (fun v36 τ35 hp37 => ?_)
        obtain ⟨rfl, hN38, hN38k, hN38d⟩ := hp37
        show J κ τ35 [(0, .ref (am 0)), (1, vi ((i : Int))), (2, vi ((j : Int))), (3, vi (n)), (4, vi (x))] 43 [vi (1)] _ _
        have hN38K := hN5K.tr hN38k
        have hN38D := hN38d.trans hN5D
        obtain ⟨hI39, gc39, gm39, gr39, gp39, gb39, go39, gf39, gg39, gt39, gz39, gk39, gl39, _, _, _, h039, ⟨hgc39, hgm39, hgr39, hgp39, hgb39, hgo39, hgf39, hgg39, hgt39, hgz39, hgk39, hgl39⟩, ⟨rfl, rfl, rfl⟩, hBn39, hRu39, hPr39, hTr39, hKi39, hLi39⟩ := id hN38
        have hI := hI39
        have hnb639 := hBn39.1
        refine j_if_ne (tgt := 71) C dX7_isNoBlend_43 rfl rfl ⟨by omega, by omega⟩ (fun _ => ?_) (fun cc40 => absurd cc40 (by decide))
        refine j_iconst C dX7_isNoBlend_71 rfl ?_
        refine j_goto (tgt := 76) C dX7_isNoBlend_72 rfl ?_
        exact j_zret C E dX7_isNoBlend_76 rfl (by omega) (by omega) ⟨rfl, ⟨_, hN38⟩, hN38K, hN38D⟩
set_option maxHeartbeats 8000000 in
set_option maxRecDepth 20000 in
theorem c_nB3 (l : Launch) (hfl : l.stackTraces = false) (D : va_G) (cy : Nat → Nat) (σ : Wd) (am : Nat → Nat) (bs : List Bn) (ru : Nat → Int × Int) (se : Int) (pf : Nat → Int) (hd : Hd) (ca : Int) (evs : List Evt) (ln : List Int) (bl : Int × Int × Int) (th : Int) (hM : RM cy σ am bs ru se pf hd ca evs ln bl th) (i j : Nat) (hi : i < bs.length) (hj : j < bs.length) (n : Int) (hn9 : (-2147483648 ≤ n ∧ n < 2147483648)) (x : Int) (hx9 : (-2147483648 ≤ x ∧ x < 2147483648)) (hO : Ok bs ru se pf hd evs ln) (h : ¬ ((i : Int) = (j : Int) ∨ n < 1 ∨ 500 < n ∨ x < 80 ∨ 300 < x)) (hf : ¬ (bestF pf (fl (gB bs (i : Int))) (fl (gB bs (j : Int))) n (n * x)).1 = true) : Ct l yX7_isNoBlend cX7_isNoBlend 5 (some .boolean) 4 0 0 D cy [.ref (am 0), vi ((i : Int)), vi ((j : Int)), vi (n), vi (x)] σ (fun v σ' => v = some (vi 1) ∧ (∃ bl', RM cy σ' am bs ru se pf hd ca evs ln bl' 3) ∧ Keep σ σ' (inM am) ∧ σ'.1 = σ.1) noX := by
  refine ct_start (by decide +kernel) hfl rfl (fun κ e1 e2 e3 C E NH => ?_)
  subst e1 e2 e3
  have C : Cx κ cX7_isNoBlend 5 RX7 "isNoBlend" 4 := C
  obtain ⟨-, -, -, -, hc, hs⟩ := id E
  show J κ σ [(0, .ref (am 0)), (1, vi ((i : Int))), (2, vi ((j : Int))), (3, vi (n)), (4, vi (x))] 0 [] 0 0
  obtain ⟨hI1, gc1, gm1, gr1, gp1, gb1, go1, gf1, gg1, gt1, gz1, gk1, gl1, _, _, _, h01, ⟨hgc1, hgm1, hgr1, hgp1, hgb1, hgo1, hgf1, hgg1, hgt1, hgz1, hgk1, hgl1⟩, ⟨rfl, rfl, rfl⟩, hBn1, hRu1, hPr1, hTr1, hKi1, hLi1⟩ := id hM
  have hI := hI1
  have hnb61 := hBn1.1
  have kp0 : Keep σ σ (inM am) := Keep.rf
  have dm0 : σ.1 = σ.1 := rfl
  have hmmi := gB_mem (bs := bs) (i := (i : Int)) (by omega) (by omega)
  obtain ⟨hcpi, hlyi, htci⟩ := hO.2.1 _ hmmi
  have ht0i := tot_0 hlyi
  have hfli : tot (fl (gB bs (i : Int))) = tot (gB bs (i : Int)).2.2 := sum_fl _ _
  have hfoi : lysOk (fl (gB bs (i : Int))) := fl_ok hlyi
  have hmmj := gB_mem (bs := bs) (i := (j : Int)) (by omega) (by omega)
  obtain ⟨hcpj, hlyj, htcj⟩ := hO.2.1 _ hmmj
  have ht0j := tot_0 hlyj
  have hflj : tot (fl (gB bs (j : Int))) = tot (gB bs (j : Int)).2.2 := sum_fl _ _
  have hfoj : lysOk (fl (gB bs (j : Int))) := fl_ok hlyj
  have hprr := hO.2.2.2.2.1
  refine j_aload_n 0 C dX7_isNoBlend_0 rfl rfl rfl ?_
  refine j_iload_n 1 C dX7_isNoBlend_1 rfl rfl rfl ?_
  refine j_iload_n 2 C dX7_isNoBlend_2 rfl rfl rfl ?_
  refine j_callV (st' := []) (As := [vi ((i : Int)), vi ((j : Int))]) C dX7_isNoBlend_3 rfl m_X7_125 h01 rfl rfl rfl (c_np0 (kL κ) hfl (kD κ) (kc κ) σ am bs ru se pf hd ca evs ln bl th hM i j hi hj) rfl (by omega) (by omega) (by omega) (fun _ _ hx => hx.elim) (fun v3 τ2 hp4 => ?_)
  obtain ⟨rfl, hN5, hN5k, hN5d⟩ := hp4
  show J κ τ2 [(0, .ref (am 0)), (1, vi ((i : Int))), (2, vi ((j : Int))), (3, vi (n)), (4, vi (x))] 6 [vi (0)] _ _
  have hN5K := kp0.tr hN5k
  have hN5D := hN5d.trans dm0
  obtain ⟨hI6, gc6, gm6, gr6, gp6, gb6, go6, gf6, gg6, gt6, gz6, gk6, gl6, _, _, _, h06, ⟨hgc6, hgm6, hgr6, hgp6, hgb6, hgo6, hgf6, hgg6, hgt6, hgz6, hgk6, hgl6⟩, ⟨rfl, rfl, rfl⟩, hBn6, hRu6, hPr6, hTr6, hKi6, hLi6⟩ := id hN5
  have hI := hI6
  have hnb66 := hBn6.1
  refine j_if_ne (tgt := 71) C dX7_isNoBlend_6 rfl rfl ⟨by omega, by omega⟩ (fun cc7 => absurd cc7 (by decide)) (fun _ => ?_)
  refine j_aload_n 0 C dX7_isNoBlend_9 rfl rfl rfl ?_
  refine j_iload_n 1 C dX7_isNoBlend_10 rfl rfl rfl ?_
  refine j_iload_n 2 C dX7_isNoBlend_11 rfl rfl rfl ?_
  refine j_icmp_eq (tgt := 34) C dX7_isNoBlend_12 rfl rfl ⟨by omega, by omega⟩ ⟨by omega, by omega⟩ (fun cc8 => ?_) (fun cc8 => ?_)
  · refine j_iconst C dX7_isNoBlend_34 rfl ?_
    refine j_goto (tgt := 39) C dX7_isNoBlend_35 rfl ?_
    refine j_iconst C dX7_isNoBlend_39 rfl ?_
    refine j_callV (st' := []) (As := [vi (1), vi (2)]) C dX7_isNoBlend_40 rfl m_X7_62 h06 rfl rfl rfl (c_thr1 (kL κ) hfl (kD κ) (kc κ) τ2 am bs ru se pf hd ca evs ln bl 0 hN5 2) rfl (by omega) (by omega) (by omega) (fun _ _ hx => hx.elim) (fun v10 τ9 hp11 => ?_)
    obtain ⟨rfl, hN12, hN12k, hN12d⟩ := hp11
    show J κ τ9 [(0, .ref (am 0)), (1, vi ((i : Int))), (2, vi ((j : Int))), (3, vi (n)), (4, vi (x))] 43 [vi (1)] _ _
    have hN12K := hN5K.tr hN12k
    have hN12D := hN12d.trans hN5D
    obtain ⟨hI13, gc13, gm13, gr13, gp13, gb13, go13, gf13, gg13, gt13, gz13, gk13, gl13, _, _, _, h013, ⟨hgc13, hgm13, hgr13, hgp13, hgb13, hgo13, hgf13, hgg13, hgt13, hgz13, hgk13, hgl13⟩, ⟨rfl, rfl, rfl⟩, hBn13, hRu13, hPr13, hTr13, hKi13, hLi13⟩ := id hN12
    have hI := hI13
    have hnb613 := hBn13.1
    refine j_if_ne (tgt := 71) C dX7_isNoBlend_43 rfl rfl ⟨by omega, by omega⟩ (fun _ => ?_) (fun cc14 => absurd cc14 (by decide))
    refine j_iconst C dX7_isNoBlend_71 rfl ?_
    refine j_goto (tgt := 76) C dX7_isNoBlend_72 rfl ?_
    exfalso
    omega
  · refine j_iload_n 3 C dX7_isNoBlend_15 rfl rfl rfl ?_
    refine j_iconst C dX7_isNoBlend_16 rfl ?_
    refine j_sipush C dX7_isNoBlend_17 rfl (by decide) ?_
    refine j_callS (st' := [.ref (am 0)]) (As := [vi (n), vi (1), vi (500)]) C dX7_isNoBlend_20 rfl m_X7_58 rfl rfl (c_isIn (kL κ) hfl (kD κ) (kc κ) τ2 n 1 500 ⟨by omega, by omega⟩ ⟨by omega, by omega⟩ ⟨by omega, by omega⟩) rfl (by omega) (by omega) (by omega) (fun _ _ hx => hx.elim) (fun v16 τ15 hp17 => ?_)
    obtain ⟨rfl, hs9⟩ := hp17
    replace hs9 := hs9.symm
    subst hs9
    show J κ τ2 [(0, .ref (am 0)), (1, vi ((i : Int))), (2, vi ((j : Int))), (3, vi (n)), (4, vi (x))] 23 [vi ((inI n 1 500)), .ref (am 0)] _ _
    refine j_if_eq (tgt := 34) C dX7_isNoBlend_23 rfl rfl (inI_r _ _ _) (fun cc18 => ?_) (fun cc18 => ?_)
    · replace cc18 := inI_F cc18
      refine j_iconst C dX7_isNoBlend_34 rfl ?_
      refine j_goto (tgt := 39) C dX7_isNoBlend_35 rfl ?_
      refine j_iconst C dX7_isNoBlend_39 rfl ?_
      refine j_callV (st' := []) (As := [vi (1), vi (2)]) C dX7_isNoBlend_40 rfl m_X7_62 h06 rfl rfl rfl (c_thr1 (kL κ) hfl (kD κ) (kc κ) τ2 am bs ru se pf hd ca evs ln bl 0 hN5 2) rfl (by omega) (by omega) (by omega) (fun _ _ hx => hx.elim) (fun v20 τ19 hp21 => ?_)
      obtain ⟨rfl, hN22, hN22k, hN22d⟩ := hp21
      show J κ τ19 [(0, .ref (am 0)), (1, vi ((i : Int))), (2, vi ((j : Int))), (3, vi (n)), (4, vi (x))] 43 [vi (1)] _ _
      have hN22K := hN5K.tr hN22k
      have hN22D := hN22d.trans hN5D
      obtain ⟨hI23, gc23, gm23, gr23, gp23, gb23, go23, gf23, gg23, gt23, gz23, gk23, gl23, _, _, _, h023, ⟨hgc23, hgm23, hgr23, hgp23, hgb23, hgo23, hgf23, hgg23, hgt23, hgz23, hgk23, hgl23⟩, ⟨rfl, rfl, rfl⟩, hBn23, hRu23, hPr23, hTr23, hKi23, hLi23⟩ := id hN22
      have hI := hI23
      have hnb623 := hBn23.1
      refine j_if_ne (tgt := 71) C dX7_isNoBlend_43 rfl rfl ⟨by omega, by omega⟩ (fun _ => ?_) (fun cc24 => absurd cc24 (by decide))
      refine j_iconst C dX7_isNoBlend_71 rfl ?_
      refine j_goto (tgt := 76) C dX7_isNoBlend_72 rfl ?_
      exfalso
      omega
    · replace cc18 := inI_T cc18
      refine j_iload 4 C dX7_isNoBlend_26 rfl rfl ?_
      refine j_callS (st' := [.ref (am 0)]) (As := [vi (x)]) C dX7_isNoBlend_28 rfl m_X7_70 rfl rfl (c_isMoist (kL κ) hfl (kD κ) (kc κ) τ2 x ⟨by omega, by omega⟩) rfl (by omega) (by omega) (by omega) (fun _ _ hx => hx.elim) (fun v26 τ25 hp27 => ?_)
      obtain ⟨rfl, hs9⟩ := hp27
      replace hs9 := hs9.symm
      subst hs9
      show J κ τ2 [(0, .ref (am 0)), (1, vi ((i : Int))), (2, vi ((j : Int))), (3, vi (n)), (4, vi (x))] 31 [vi ((inI x 80 300)), .ref (am 0)] _ _
      refine j_if_ne (tgt := 38) C dX7_isNoBlend_31 rfl rfl (inI_r _ _ _) (fun cc28 => ?_) (fun cc28 => ?_)
      · replace cc28 := inI_T cc28
        refine j_iconst C dX7_isNoBlend_38 rfl ?_
        refine j_iconst C dX7_isNoBlend_39 rfl ?_
        refine j_callV (st' := []) (As := [vi (0), vi (2)]) C dX7_isNoBlend_40 rfl m_X7_62 h06 rfl rfl rfl (c_thr0 (kL κ) hfl (kD κ) (kc κ) τ2 am bs ru se pf hd ca evs ln bl 0 hN5 2) rfl (by omega) (by omega) (by omega) (fun _ _ hx => hx.elim) (fun v30 τ29 hp31 => ?_)
        obtain ⟨rfl, hN32, hN32k, hN32d⟩ := hp31
        show J κ τ29 [(0, .ref (am 0)), (1, vi ((i : Int))), (2, vi ((j : Int))), (3, vi (n)), (4, vi (x))] 43 [vi (0)] _ _
        have hN32K := hN5K.tr hN32k
        have hN32D := hN32d.trans hN5D
        obtain ⟨hI33, gc33, gm33, gr33, gp33, gb33, go33, gf33, gg33, gt33, gz33, gk33, gl33, _, _, _, h033, ⟨hgc33, hgm33, hgr33, hgp33, hgb33, hgo33, hgf33, hgg33, hgt33, hgz33, hgk33, hgl33⟩, ⟨rfl, rfl, rfl⟩, hBn33, hRu33, hPr33, hTr33, hKi33, hLi33⟩ := id hN32
        have hI := hI33
        have hnb633 := hBn33.1
        refine j_if_ne (tgt := 71) C dX7_isNoBlend_43 rfl rfl ⟨by omega, by omega⟩ (fun cc34 => absurd cc34 (by decide)) (fun _ => ?_)
        refine j_aload_n 0 C dX7_isNoBlend_46 rfl rfl rfl ?_
        refine j_aload_n 0 C dX7_isNoBlend_47 rfl rfl rfl ?_
        refine j_iload_n 1 C dX7_isNoBlend_48 rfl rfl rfl ?_
        refine j_iload_n 2 C dX7_isNoBlend_49 rfl rfl rfl ?_
        refine j_iload_n 3 C dX7_isNoBlend_50 rfl rfl rfl ?_
        refine j_iload 4 C dX7_isNoBlend_51 rfl rfl ?_
        have hmwx := bm_in (n := n) (x := x) ⟨by omega, by omega⟩ ⟨by omega, by omega⟩
        refine j_callV (st' := [.ref (am 0)]) (As := [vi ((i : Int)), vi ((j : Int)), vi (n), vi (x)]) C dX7_isNoBlend_53 rfl m_X7_160 h033 rfl rfl rfl (c_share (kL κ) hfl (kD κ) (kc κ) τ29 am bs ru se pf hd ca evs ln bl 0 hN32 i j hi hj hlyi hlyj hprr (by omega) (by omega) n x ⟨by omega, by omega⟩ hmwx) rfl (by omega) (by omega) (by omega) (fun _ _ hx => hx.elim) (fun v36 τ35 hp37 => ?_)
        obtain ⟨rfl, ⟨bl39, hN38⟩, hN38k, hN38d⟩ := hp37
        show J κ τ35 [(0, .ref (am 0)), (1, vi ((i : Int))), (2, vi ((j : Int))), (3, vi (n)), (4, vi (x))] 56 [vi ((bsO (bestF pf (fl (gB bs (i : Int))) (fl (gB bs (j : Int))) n (x * n)))), .ref (am 0)] _ _
        have hN38K := hN32K.tr hN38k
        have hN38D := hN38d.trans hN32D
        obtain ⟨hI40, gc40, gm40, gr40, gp40, gb40, go40, gf40, gg40, gt40, gz40, gk40, gl40, _, _, _, h040, ⟨hgc40, hgm40, hgr40, hgp40, hgb40, hgo40, hgf40, hgg40, hgt40, hgz40, hgk40, hgl40⟩, ⟨rfl, rfl, rfl⟩, hBn40, hRu40, hPr40, hTr40, hKi40, hLi40⟩ := id hN38
        have hI := hI40
        have hnb640 := hBn40.1
        rw [Int.mul_comm x n]
        rw [show bsO (bestF pf (fl (gB bs (i : Int))) (fl (gB bs (j : Int))) n (n * x)) = -1 from if_neg hf]
        refine j_if_ge (tgt := 63) C dX7_isNoBlend_56 rfl rfl ⟨by omega, by omega⟩ (fun cc41 => absurd cc41 (by decide)) (fun _ => ?_)
        refine j_iconst C dX7_isNoBlend_59 rfl ?_
        refine j_goto (tgt := 64) C dX7_isNoBlend_60 rfl ?_
        refine j_iconst C dX7_isNoBlend_64 rfl ?_
        refine j_callV (st' := []) (As := [vi (1), vi (3)]) C dX7_isNoBlend_65 rfl m_X7_62 h040 rfl rfl rfl (c_thr1 (kL κ) hfl (kD κ) (kc κ) τ35 am bs ru se pf hd ca evs ln bl39 0 hN38 3) rfl (by omega) (by omega) (by omega) (fun _ _ hx => hx.elim) (fun v43 τ42 hp44 => ?_)
        obtain ⟨rfl, hN45, hN45k, hN45d⟩ := hp44
        show J κ τ42 [(0, .ref (am 0)), (1, vi ((i : Int))), (2, vi ((j : Int))), (3, vi (n)), (4, vi (x))] 68 [vi (1)] _ _
        have hN45K := hN38K.tr hN45k
        have hN45D := hN45d.trans hN38D
        obtain ⟨hI46, gc46, gm46, gr46, gp46, gb46, go46, gf46, gg46, gt46, gz46, gk46, gl46, _, _, _, h046, ⟨hgc46, hgm46, hgr46, hgp46, hgb46, hgo46, hgf46, hgg46, hgt46, hgz46, hgk46, hgl46⟩, ⟨rfl, rfl, rfl⟩, hBn46, hRu46, hPr46, hTr46, hKi46, hLi46⟩ := id hN45
        have hI := hI46
        have hnb646 := hBn46.1
        refine j_if_eq (tgt := 75) C dX7_isNoBlend_68 rfl rfl ⟨by omega, by omega⟩ (fun cc47 => absurd cc47 (by decide)) (fun _ => ?_)
        refine j_iconst C dX7_isNoBlend_71 rfl ?_
        refine j_goto (tgt := 76) C dX7_isNoBlend_72 rfl ?_
        exact j_zret C E dX7_isNoBlend_76 rfl (by omega) (by omega) ⟨rfl, ⟨_, hN45⟩, hN45K, hN45D⟩
      · replace cc28 := inI_F cc28
        refine j_iconst C dX7_isNoBlend_34 rfl ?_
        refine j_goto (tgt := 39) C dX7_isNoBlend_35 rfl ?_
        refine j_iconst C dX7_isNoBlend_39 rfl ?_
        refine j_callV (st' := []) (As := [vi (1), vi (2)]) C dX7_isNoBlend_40 rfl m_X7_62 h06 rfl rfl rfl (c_thr1 (kL κ) hfl (kD κ) (kc κ) τ2 am bs ru se pf hd ca evs ln bl 0 hN5 2) rfl (by omega) (by omega) (by omega) (fun _ _ hx => hx.elim) (fun v49 τ48 hp50 => ?_)
        obtain ⟨rfl, hN51, hN51k, hN51d⟩ := hp50
        show J κ τ48 [(0, .ref (am 0)), (1, vi ((i : Int))), (2, vi ((j : Int))), (3, vi (n)), (4, vi (x))] 43 [vi (1)] _ _
        have hN51K := hN5K.tr hN51k
        have hN51D := hN51d.trans hN5D
        obtain ⟨hI52, gc52, gm52, gr52, gp52, gb52, go52, gf52, gg52, gt52, gz52, gk52, gl52, _, _, _, h052, ⟨hgc52, hgm52, hgr52, hgp52, hgb52, hgo52, hgf52, hgg52, hgt52, hgz52, hgk52, hgl52⟩, ⟨rfl, rfl, rfl⟩, hBn52, hRu52, hPr52, hTr52, hKi52, hLi52⟩ := id hN51
        have hI := hI52
        have hnb652 := hBn52.1
        refine j_if_ne (tgt := 71) C dX7_isNoBlend_43 rfl rfl ⟨by omega, by omega⟩ (fun _ => ?_) (fun cc53 => absurd cc53 (by decide))
        refine j_iconst C dX7_isNoBlend_71 rfl ?_
        refine j_goto (tgt := 76) C dX7_isNoBlend_72 rfl ?_
        exfalso
        omega
set_option maxHeartbeats 8000000 in
set_option maxRecDepth 20000 in
theorem c_nB0 (l : Launch) (hfl : l.stackTraces = false) (D : va_G) (cy : Nat → Nat) (σ : Wd) (am : Nat → Nat) (bs : List Bn) (ru : Nat → Int × Int) (se : Int) (pf : Nat → Int) (hd : Hd) (ca : Int) (evs : List Evt) (ln : List Int) (bl : Int × Int × Int) (th : Int) (hM : RM cy σ am bs ru se pf hd ca evs ln bl th) (i j : Nat) (hi : i < bs.length) (hj : j < bs.length) (n : Int) (hn9 : (-2147483648 ≤ n ∧ n < 2147483648)) (x : Int) (hx9 : (-2147483648 ≤ x ∧ x < 2147483648)) (hO : Ok bs ru se pf hd evs ln) (h : ¬ ((i : Int) = (j : Int) ∨ n < 1 ∨ 500 < n ∨ x < 80 ∨ 300 < x)) (hf : (bestF pf (fl (gB bs (i : Int))) (fl (gB bs (j : Int))) n (n * x)).1 = true) : Ct l yX7_isNoBlend cX7_isNoBlend 5 (some .boolean) 4 0 0 D cy [.ref (am 0), vi ((i : Int)), vi ((j : Int)), vi (n), vi (x)] σ (fun v σ' => v = some (vi 0) ∧ (∃ bl', RM cy σ' am bs ru se pf hd ca evs ln bl' 0) ∧ Keep σ σ' (inM am) ∧ σ'.1 = σ.1) noX := by
  refine ct_start (by decide +kernel) hfl rfl (fun κ e1 e2 e3 C E NH => ?_)
  subst e1 e2 e3
  have C : Cx κ cX7_isNoBlend 5 RX7 "isNoBlend" 4 := C
  obtain ⟨-, -, -, -, hc, hs⟩ := id E
  show J κ σ [(0, .ref (am 0)), (1, vi ((i : Int))), (2, vi ((j : Int))), (3, vi (n)), (4, vi (x))] 0 [] 0 0
  obtain ⟨hI1, gc1, gm1, gr1, gp1, gb1, go1, gf1, gg1, gt1, gz1, gk1, gl1, _, _, _, h01, ⟨hgc1, hgm1, hgr1, hgp1, hgb1, hgo1, hgf1, hgg1, hgt1, hgz1, hgk1, hgl1⟩, ⟨rfl, rfl, rfl⟩, hBn1, hRu1, hPr1, hTr1, hKi1, hLi1⟩ := id hM
  have hI := hI1
  have hnb61 := hBn1.1
  have kp0 : Keep σ σ (inM am) := Keep.rf
  have dm0 : σ.1 = σ.1 := rfl
  have hmmi := gB_mem (bs := bs) (i := (i : Int)) (by omega) (by omega)
  obtain ⟨hcpi, hlyi, htci⟩ := hO.2.1 _ hmmi
  have ht0i := tot_0 hlyi
  have hfli : tot (fl (gB bs (i : Int))) = tot (gB bs (i : Int)).2.2 := sum_fl _ _
  have hfoi : lysOk (fl (gB bs (i : Int))) := fl_ok hlyi
  have hmmj := gB_mem (bs := bs) (i := (j : Int)) (by omega) (by omega)
  obtain ⟨hcpj, hlyj, htcj⟩ := hO.2.1 _ hmmj
  have ht0j := tot_0 hlyj
  have hflj : tot (fl (gB bs (j : Int))) = tot (gB bs (j : Int)).2.2 := sum_fl _ _
  have hfoj : lysOk (fl (gB bs (j : Int))) := fl_ok hlyj
  have hprr := hO.2.2.2.2.1
  refine j_aload_n 0 C dX7_isNoBlend_0 rfl rfl rfl ?_
  refine j_iload_n 1 C dX7_isNoBlend_1 rfl rfl rfl ?_
  refine j_iload_n 2 C dX7_isNoBlend_2 rfl rfl rfl ?_
  refine j_callV (st' := []) (As := [vi ((i : Int)), vi ((j : Int))]) C dX7_isNoBlend_3 rfl m_X7_125 h01 rfl rfl rfl (c_np0 (kL κ) hfl (kD κ) (kc κ) σ am bs ru se pf hd ca evs ln bl th hM i j hi hj) rfl (by omega) (by omega) (by omega) (fun _ _ hx => hx.elim) (fun v3 τ2 hp4 => ?_)
  obtain ⟨rfl, hN5, hN5k, hN5d⟩ := hp4
  show J κ τ2 [(0, .ref (am 0)), (1, vi ((i : Int))), (2, vi ((j : Int))), (3, vi (n)), (4, vi (x))] 6 [vi (0)] _ _
  have hN5K := kp0.tr hN5k
  have hN5D := hN5d.trans dm0
  obtain ⟨hI6, gc6, gm6, gr6, gp6, gb6, go6, gf6, gg6, gt6, gz6, gk6, gl6, _, _, _, h06, ⟨hgc6, hgm6, hgr6, hgp6, hgb6, hgo6, hgf6, hgg6, hgt6, hgz6, hgk6, hgl6⟩, ⟨rfl, rfl, rfl⟩, hBn6, hRu6, hPr6, hTr6, hKi6, hLi6⟩ := id hN5
  have hI := hI6
  have hnb66 := hBn6.1
  refine j_if_ne (tgt := 71) C dX7_isNoBlend_6 rfl rfl ⟨by omega, by omega⟩ (fun cc7 => absurd cc7 (by decide)) (fun _ => ?_)
  refine j_aload_n 0 C dX7_isNoBlend_9 rfl rfl rfl ?_
  refine j_iload_n 1 C dX7_isNoBlend_10 rfl rfl rfl ?_
  refine j_iload_n 2 C dX7_isNoBlend_11 rfl rfl rfl ?_
  refine j_icmp_eq (tgt := 34) C dX7_isNoBlend_12 rfl rfl ⟨by omega, by omega⟩ ⟨by omega, by omega⟩ (fun cc8 => ?_) (fun cc8 => ?_)
  · refine j_iconst C dX7_isNoBlend_34 rfl ?_
    refine j_goto (tgt := 39) C dX7_isNoBlend_35 rfl ?_
    refine j_iconst C dX7_isNoBlend_39 rfl ?_
    refine j_callV (st' := []) (As := [vi (1), vi (2)]) C dX7_isNoBlend_40 rfl m_X7_62 h06 rfl rfl rfl (c_thr1 (kL κ) hfl (kD κ) (kc κ) τ2 am bs ru se pf hd ca evs ln bl 0 hN5 2) rfl (by omega) (by omega) (by omega) (fun _ _ hx => hx.elim) (fun v10 τ9 hp11 => ?_)
    obtain ⟨rfl, hN12, hN12k, hN12d⟩ := hp11
    show J κ τ9 [(0, .ref (am 0)), (1, vi ((i : Int))), (2, vi ((j : Int))), (3, vi (n)), (4, vi (x))] 43 [vi (1)] _ _
    have hN12K := hN5K.tr hN12k
    have hN12D := hN12d.trans hN5D
    obtain ⟨hI13, gc13, gm13, gr13, gp13, gb13, go13, gf13, gg13, gt13, gz13, gk13, gl13, _, _, _, h013, ⟨hgc13, hgm13, hgr13, hgp13, hgb13, hgo13, hgf13, hgg13, hgt13, hgz13, hgk13, hgl13⟩, ⟨rfl, rfl, rfl⟩, hBn13, hRu13, hPr13, hTr13, hKi13, hLi13⟩ := id hN12
    have hI := hI13
    have hnb613 := hBn13.1
    refine j_if_ne (tgt := 71) C dX7_isNoBlend_43 rfl rfl ⟨by omega, by omega⟩ (fun _ => ?_) (fun cc14 => absurd cc14 (by decide))
    refine j_iconst C dX7_isNoBlend_71 rfl ?_
    refine j_goto (tgt := 76) C dX7_isNoBlend_72 rfl ?_
    exfalso
    omega
  · refine j_iload_n 3 C dX7_isNoBlend_15 rfl rfl rfl ?_
    refine j_iconst C dX7_isNoBlend_16 rfl ?_
    refine j_sipush C dX7_isNoBlend_17 rfl (by decide) ?_
    refine j_callS (st' := [.ref (am 0)]) (As := [vi (n), vi (1), vi (500)]) C dX7_isNoBlend_20 rfl m_X7_58 rfl rfl (c_isIn (kL κ) hfl (kD κ) (kc κ) τ2 n 1 500 ⟨by omega, by omega⟩ ⟨by omega, by omega⟩ ⟨by omega, by omega⟩) rfl (by omega) (by omega) (by omega) (fun _ _ hx => hx.elim) (fun v16 τ15 hp17 => ?_)
    obtain ⟨rfl, hs9⟩ := hp17
    replace hs9 := hs9.symm
    subst hs9
    show J κ τ2 [(0, .ref (am 0)), (1, vi ((i : Int))), (2, vi ((j : Int))), (3, vi (n)), (4, vi (x))] 23 [vi ((inI n 1 500)), .ref (am 0)] _ _
    refine j_if_eq (tgt := 34) C dX7_isNoBlend_23 rfl rfl (inI_r _ _ _) (fun cc18 => ?_) (fun cc18 => ?_)
    · replace cc18 := inI_F cc18
      refine j_iconst C dX7_isNoBlend_34 rfl ?_
      refine j_goto (tgt := 39) C dX7_isNoBlend_35 rfl ?_
      refine j_iconst C dX7_isNoBlend_39 rfl ?_
      refine j_callV (st' := []) (As := [vi (1), vi (2)]) C dX7_isNoBlend_40 rfl m_X7_62 h06 rfl rfl rfl (c_thr1 (kL κ) hfl (kD κ) (kc κ) τ2 am bs ru se pf hd ca evs ln bl 0 hN5 2) rfl (by omega) (by omega) (by omega) (fun _ _ hx => hx.elim) (fun v20 τ19 hp21 => ?_)
      obtain ⟨rfl, hN22, hN22k, hN22d⟩ := hp21
      show J κ τ19 [(0, .ref (am 0)), (1, vi ((i : Int))), (2, vi ((j : Int))), (3, vi (n)), (4, vi (x))] 43 [vi (1)] _ _
      have hN22K := hN5K.tr hN22k
      have hN22D := hN22d.trans hN5D
      obtain ⟨hI23, gc23, gm23, gr23, gp23, gb23, go23, gf23, gg23, gt23, gz23, gk23, gl23, _, _, _, h023, ⟨hgc23, hgm23, hgr23, hgp23, hgb23, hgo23, hgf23, hgg23, hgt23, hgz23, hgk23, hgl23⟩, ⟨rfl, rfl, rfl⟩, hBn23, hRu23, hPr23, hTr23, hKi23, hLi23⟩ := id hN22
      have hI := hI23
      have hnb623 := hBn23.1
      refine j_if_ne (tgt := 71) C dX7_isNoBlend_43 rfl rfl ⟨by omega, by omega⟩ (fun _ => ?_) (fun cc24 => absurd cc24 (by decide))
      refine j_iconst C dX7_isNoBlend_71 rfl ?_
      refine j_goto (tgt := 76) C dX7_isNoBlend_72 rfl ?_
      exfalso
      omega
    · replace cc18 := inI_T cc18
      refine j_iload 4 C dX7_isNoBlend_26 rfl rfl ?_
      refine j_callS (st' := [.ref (am 0)]) (As := [vi (x)]) C dX7_isNoBlend_28 rfl m_X7_70 rfl rfl (c_isMoist (kL κ) hfl (kD κ) (kc κ) τ2 x ⟨by omega, by omega⟩) rfl (by omega) (by omega) (by omega) (fun _ _ hx => hx.elim) (fun v26 τ25 hp27 => ?_)
      obtain ⟨rfl, hs9⟩ := hp27
      replace hs9 := hs9.symm
      subst hs9
      show J κ τ2 [(0, .ref (am 0)), (1, vi ((i : Int))), (2, vi ((j : Int))), (3, vi (n)), (4, vi (x))] 31 [vi ((inI x 80 300)), .ref (am 0)] _ _
      refine j_if_ne (tgt := 38) C dX7_isNoBlend_31 rfl rfl (inI_r _ _ _) (fun cc28 => ?_) (fun cc28 => ?_)
      · replace cc28 := inI_T cc28
        refine j_iconst C dX7_isNoBlend_38 rfl ?_
        refine j_iconst C dX7_isNoBlend_39 rfl ?_
        refine j_callV (st' := []) (As := [vi (0), vi (2)]) C dX7_isNoBlend_40 rfl m_X7_62 h06 rfl rfl rfl (c_thr0 (kL κ) hfl (kD κ) (kc κ) τ2 am bs ru se pf hd ca evs ln bl 0 hN5 2) rfl (by omega) (by omega) (by omega) (fun _ _ hx => hx.elim) (fun v30 τ29 hp31 => ?_)
        obtain ⟨rfl, hN32, hN32k, hN32d⟩ := hp31
        show J κ τ29 [(0, .ref (am 0)), (1, vi ((i : Int))), (2, vi ((j : Int))), (3, vi (n)), (4, vi (x))] 43 [vi (0)] _ _
        have hN32K := hN5K.tr hN32k
        have hN32D := hN32d.trans hN5D
        obtain ⟨hI33, gc33, gm33, gr33, gp33, gb33, go33, gf33, gg33, gt33, gz33, gk33, gl33, _, _, _, h033, ⟨hgc33, hgm33, hgr33, hgp33, hgb33, hgo33, hgf33, hgg33, hgt33, hgz33, hgk33, hgl33⟩, ⟨rfl, rfl, rfl⟩, hBn33, hRu33, hPr33, hTr33, hKi33, hLi33⟩ := id hN32
        have hI := hI33
        have hnb633 := hBn33.1
        refine j_if_ne (tgt := 71) C dX7_isNoBlend_43 rfl rfl ⟨by omega, by omega⟩ (fun cc34 => absurd cc34 (by decide)) (fun _ => ?_)
        refine j_aload_n 0 C dX7_isNoBlend_46 rfl rfl rfl ?_
        refine j_aload_n 0 C dX7_isNoBlend_47 rfl rfl rfl ?_
        refine j_iload_n 1 C dX7_isNoBlend_48 rfl rfl rfl ?_
        refine j_iload_n 2 C dX7_isNoBlend_49 rfl rfl rfl ?_
        refine j_iload_n 3 C dX7_isNoBlend_50 rfl rfl rfl ?_
        refine j_iload 4 C dX7_isNoBlend_51 rfl rfl ?_
        have hmwx := bm_in (n := n) (x := x) ⟨by omega, by omega⟩ ⟨by omega, by omega⟩
        refine j_callV (st' := [.ref (am 0)]) (As := [vi ((i : Int)), vi ((j : Int)), vi (n), vi (x)]) C dX7_isNoBlend_53 rfl m_X7_160 h033 rfl rfl rfl (c_share (kL κ) hfl (kD κ) (kc κ) τ29 am bs ru se pf hd ca evs ln bl 0 hN32 i j hi hj hlyi hlyj hprr (by omega) (by omega) n x ⟨by omega, by omega⟩ hmwx) rfl (by omega) (by omega) (by omega) (fun _ _ hx => hx.elim) (fun v36 τ35 hp37 => ?_)
        obtain ⟨rfl, ⟨bl39, hN38⟩, hN38k, hN38d⟩ := hp37
        show J κ τ35 [(0, .ref (am 0)), (1, vi ((i : Int))), (2, vi ((j : Int))), (3, vi (n)), (4, vi (x))] 56 [vi ((bsO (bestF pf (fl (gB bs (i : Int))) (fl (gB bs (j : Int))) n (x * n)))), .ref (am 0)] _ _
        have hN38K := hN32K.tr hN38k
        have hN38D := hN38d.trans hN32D
        obtain ⟨hI40, gc40, gm40, gr40, gp40, gb40, go40, gf40, gg40, gt40, gz40, gk40, gl40, _, _, _, h040, ⟨hgc40, hgm40, hgr40, hgp40, hgb40, hgo40, hgf40, hgg40, hgt40, hgz40, hgk40, hgl40⟩, ⟨rfl, rfl, rfl⟩, hBn40, hRu40, hPr40, hTr40, hKi40, hLi40⟩ := id hN38
        have hI := hI40
        have hnb640 := hBn40.1
        rw [Int.mul_comm x n]
        rw [show bsO (bestF pf (fl (gB bs (i : Int))) (fl (gB bs (j : Int))) n (n * x)) = (bestF pf (fl (gB bs (i : Int))) (fl (gB bs (j : Int))) n (n * x)).2.1 from if_pos hf]
        have hsh := bestF_share (pf := pf) (L1 := fl (gB bs (i : Int))) (L2 := fl (gB bs (j : Int))) (n := n) (mw := n * x) (by omega) (by omega) (by omega) hf
        refine j_if_ge (tgt := 63) C dX7_isNoBlend_56 rfl rfl ⟨by omega, by omega⟩ (fun cc41 => ?_) (fun cc41 => ?_)
        · refine j_iconst C dX7_isNoBlend_63 rfl ?_
          refine j_iconst C dX7_isNoBlend_64 rfl ?_
          refine j_callV (st' := []) (As := [vi (0), vi (3)]) C dX7_isNoBlend_65 rfl m_X7_62 h040 rfl rfl rfl (c_thr0 (kL κ) hfl (kD κ) (kc κ) τ35 am bs ru se pf hd ca evs ln bl39 0 hN38 3) rfl (by omega) (by omega) (by omega) (fun _ _ hx => hx.elim) (fun v43 τ42 hp44 => ?_)
          obtain ⟨rfl, hN45, hN45k, hN45d⟩ := hp44
          show J κ τ42 [(0, .ref (am 0)), (1, vi ((i : Int))), (2, vi ((j : Int))), (3, vi (n)), (4, vi (x))] 68 [vi (0)] _ _
          have hN45K := hN38K.tr hN45k
          have hN45D := hN45d.trans hN38D
          obtain ⟨hI46, gc46, gm46, gr46, gp46, gb46, go46, gf46, gg46, gt46, gz46, gk46, gl46, _, _, _, h046, ⟨hgc46, hgm46, hgr46, hgp46, hgb46, hgo46, hgf46, hgg46, hgt46, hgz46, hgk46, hgl46⟩, ⟨rfl, rfl, rfl⟩, hBn46, hRu46, hPr46, hTr46, hKi46, hLi46⟩ := id hN45
          have hI := hI46
          have hnb646 := hBn46.1
          refine j_if_eq (tgt := 75) C dX7_isNoBlend_68 rfl rfl ⟨by omega, by omega⟩ (fun _ => ?_) (fun cc47 => absurd cc47 (by decide))
          refine j_iconst C dX7_isNoBlend_75 rfl ?_
          exact j_zret C E dX7_isNoBlend_76 rfl (by omega) (by omega) ⟨rfl, ⟨_, hN45⟩, hN45K, hN45D⟩
        · refine j_iconst C dX7_isNoBlend_59 rfl ?_
          refine j_goto (tgt := 64) C dX7_isNoBlend_60 rfl ?_
          refine j_iconst C dX7_isNoBlend_64 rfl ?_
          refine j_callV (st' := []) (As := [vi (1), vi (3)]) C dX7_isNoBlend_65 rfl m_X7_62 h040 rfl rfl rfl (c_thr1 (kL κ) hfl (kD κ) (kc κ) τ35 am bs ru se pf hd ca evs ln bl39 0 hN38 3) rfl (by omega) (by omega) (by omega) (fun _ _ hx => hx.elim) (fun v49 τ48 hp50 => ?_)
          obtain ⟨rfl, hN51, hN51k, hN51d⟩ := hp50
          show J κ τ48 [(0, .ref (am 0)), (1, vi ((i : Int))), (2, vi ((j : Int))), (3, vi (n)), (4, vi (x))] 68 [vi (1)] _ _
          have hN51K := hN38K.tr hN51k
          have hN51D := hN51d.trans hN38D
          obtain ⟨hI52, gc52, gm52, gr52, gp52, gb52, go52, gf52, gg52, gt52, gz52, gk52, gl52, _, _, _, h052, ⟨hgc52, hgm52, hgr52, hgp52, hgb52, hgo52, hgf52, hgg52, hgt52, hgz52, hgk52, hgl52⟩, ⟨rfl, rfl, rfl⟩, hBn52, hRu52, hPr52, hTr52, hKi52, hLi52⟩ := id hN51
          have hI := hI52
          have hnb652 := hBn52.1
          refine j_if_eq (tgt := 75) C dX7_isNoBlend_68 rfl rfl ⟨by omega, by omega⟩ (fun cc53 => absurd cc53 (by decide)) (fun _ => ?_)
          refine j_iconst C dX7_isNoBlend_71 rfl ?_
          refine j_goto (tgt := 76) C dX7_isNoBlend_72 rfl ?_
          exfalso
          omega
      · replace cc28 := inI_F cc28
        refine j_iconst C dX7_isNoBlend_34 rfl ?_
        refine j_goto (tgt := 39) C dX7_isNoBlend_35 rfl ?_
        refine j_iconst C dX7_isNoBlend_39 rfl ?_
        refine j_callV (st' := []) (As := [vi (1), vi (2)]) C dX7_isNoBlend_40 rfl m_X7_62 h06 rfl rfl rfl (c_thr1 (kL κ) hfl (kD κ) (kc κ) τ2 am bs ru se pf hd ca evs ln bl 0 hN5 2) rfl (by omega) (by omega) (by omega) (fun _ _ hx => hx.elim) (fun v55 τ54 hp56 => ?_)
        obtain ⟨rfl, hN57, hN57k, hN57d⟩ := hp56
        show J κ τ54 [(0, .ref (am 0)), (1, vi ((i : Int))), (2, vi ((j : Int))), (3, vi (n)), (4, vi (x))] 43 [vi (1)] _ _
        have hN57K := hN5K.tr hN57k
        have hN57D := hN57d.trans hN5D
        obtain ⟨hI58, gc58, gm58, gr58, gp58, gb58, go58, gf58, gg58, gt58, gz58, gk58, gl58, _, _, _, h058, ⟨hgc58, hgm58, hgr58, hgp58, hgb58, hgo58, hgf58, hgg58, hgt58, hgz58, hgk58, hgl58⟩, ⟨rfl, rfl, rfl⟩, hBn58, hRu58, hPr58, hTr58, hKi58, hLi58⟩ := id hN57
        have hI := hI58
        have hnb658 := hBn58.1
        refine j_if_ne (tgt := 71) C dX7_isNoBlend_43 rfl rfl ⟨by omega, by omega⟩ (fun _ => ?_) (fun cc59 => absurd cc59 (by decide))
        refine j_iconst C dX7_isNoBlend_71 rfl ?_
        refine j_goto (tgt := 76) C dX7_isNoBlend_72 rfl ?_
        exfalso
        omega
set_option maxHeartbeats 8000000 in
set_option maxRecDepth 20000 in
theorem m_blendCost (l : Launch) (hfl : l.stackTraces = false) (D : va_G) (cy : Nat → Nat) (σ : Wd) (am : Nat → Nat) (bs : List Bn) (ru : Nat → Int × Int) (se : Int) (pf : Nat → Int) (hd : Hd) (ca : Int) (evs : List Evt) (ln : List Int) (bl : Int × Int × Int) (th : Int) (hM : RM cy σ am bs ru se pf hd ca evs ln bl th) (a : Int) (ha9 : (-2147483648 ≤ a ∧ a < 2147483648)) (b : Int) (hb9 : (-2147483648 ≤ b ∧ b < 2147483648)) (n : Int) (hn9 : (-2147483648 ≤ n ∧ n < 2147483648)) (x : Int) (hx9 : (-2147483648 ≤ x ∧ x < 2147483648)) (hO : Ok bs ru se pf hd evs ln) : Ct l yX7_blendCost cX7_blendCost 5 (some .int) 5 0 0 D cy [.ref (am 0), vi (a), vi (b), vi (n), vi (x)] σ (fun v σ' => ∃ rz : Int, v = some (vi rz) ∧ ((o_blendCost bs ru se pf hd ca evs ln a b n x).1 = 0 → rz = (o_blendCost bs ru se pf hd ca evs ln a b n x).2.1) ∧ (∃ bl', RMs cy σ' am (o_blendCost bs ru se pf hd ca evs ln a b n x).2.2 bl' (o_blendCost bs ru se pf hd ca evs ln a b n x).1) ∧ Keep σ σ' (inM am) ∧ σ'.1 = σ.1) noX := by
  refine ct_start (by decide +kernel) hfl rfl (fun κ e1 e2 e3 C E NH => ?_)
  subst e1 e2 e3
  have C : Cx κ cX7_blendCost 5 RX7 "blendCost" 5 := C
  obtain ⟨-, -, -, -, hc, hs⟩ := id E
  show J κ σ [(0, .ref (am 0)), (1, vi (a)), (2, vi (b)), (3, vi (n)), (4, vi (x))] 0 [] 0 0
  obtain ⟨hI1, gc1, gm1, gr1, gp1, gb1, go1, gf1, gg1, gt1, gz1, gk1, gl1, _, _, _, h01, ⟨hgc1, hgm1, hgr1, hgp1, hgb1, hgo1, hgf1, hgg1, hgt1, hgz1, hgk1, hgl1⟩, ⟨rfl, rfl, rfl⟩, hBn1, hRu1, hPr1, hTr1, hKi1, hLi1⟩ := id hM
  have hI := hI1
  have hnb61 := hBn1.1
  have kp0 : Keep σ σ (inM am) := Keep.rf
  have dm0 : σ.1 = σ.1 := rfl
  obtain ⟨⟨hc1, hc2⟩, hc3, hc4⟩ := hO.2.2.2.1
  have h6 := hO.1
  have hlb := hO.2.2.1
  have hTb := totB_in hO.2.1
  have hprr := hO.2.2.2.2.1
  refine j_aload_n 0 C dX7_blendCost_0 rfl rfl rfl ?_
  refine j_iload_n 1 C dX7_blendCost_1 rfl rfl rfl ?_
  refine j_iload_n 2 C dX7_blendCost_2 rfl rfl rfl ?_
  refine j_iload_n 3 C dX7_blendCost_3 rfl rfl rfl ?_
  refine j_iload 4 C dX7_blendCost_4 rfl rfl ?_
  rcases Classical.em (a < 0 ∨ (bs.length : Int) ≤ a ∨ b < 0 ∨ (bs.length : Int) ≤ b) with hq | hq
  · refine j_callV (st' := []) (As := [vi (a), vi (b), vi (n), vi (x)]) C dX7_blendCost_6 rfl m_X7_164 h01 rfl rfl rfl (c_nB1 (kL κ) hfl (kD κ) (kc κ) σ am bs ru se pf hd ca evs ln bl th hM a b ⟨by omega, by omega⟩ ⟨by omega, by omega⟩ n hn9 x hx9 hq) rfl (by omega) (by omega) (by omega) (fun _ _ hx => hx.elim) (fun v3 τ2 hp4 => ?_)
    obtain ⟨rfl, ⟨bl6, hN5⟩, hN5k, hN5d⟩ := hp4
    show J κ τ2 [(0, .ref (am 0)), (1, vi (a)), (2, vi (b)), (3, vi (n)), (4, vi (x))] 9 [vi (1)] _ _
    have hN5K := kp0.tr hN5k
    have hN5D := hN5d.trans dm0
    obtain ⟨hI7, gc7, gm7, gr7, gp7, gb7, go7, gf7, gg7, gt7, gz7, gk7, gl7, _, _, _, h07, ⟨hgc7, hgm7, hgr7, hgp7, hgb7, hgo7, hgf7, hgg7, hgt7, hgz7, hgk7, hgl7⟩, ⟨rfl, rfl, rfl⟩, hBn7, hRu7, hPr7, hTr7, hKi7, hLi7⟩ := id hN5
    have hI := hI7
    have hnb67 := hBn7.1
    refine j_if_eq (tgt := 14) C dX7_blendCost_9 rfl rfl ⟨by omega, by omega⟩ (fun cc8 => absurd cc8 (by decide)) (fun _ => ?_)
    refine j_iconst C dX7_blendCost_12 rfl ?_
    have ho : o_blendCost bs ru se pf hd ca evs ln a b n x = (1, 0, (bs, ru, se, pf, hd, ca, evs, ln)) := by unfold o_blendCost; rw [if_pos (by omega)]
    exact j_iret C E dX7_blendCost_13 (by omega) (by omega) ⟨_, rfl, by rw [ho]; exact fun h9 => absurd (show (1 : Int) = 0 from h9) (by decide), ⟨_, by rw [ho]; exact hN5⟩, hN5K, hN5D⟩
  · obtain ⟨i, hi, rfl⟩ : ∃ i : Nat, i < bs.length ∧ a = (i : Int) := ⟨a.toNat, by omega, by omega⟩
    have hmmi := gB_mem (bs := bs) (i := (i : Int)) (by omega) (by omega)
    obtain ⟨hcpi, hlyi, htci⟩ := hO.2.1 _ hmmi
    have hlli := len_lenB hmmi
    have ht0i := tot_0 hlyi
    have hfli : tot (fl (gB bs (i : Int))) = tot (gB bs (i : Int)).2.2 := sum_fl _ _
    have hfoi : lysOk (fl (gB bs (i : Int))) := fl_ok hlyi
    obtain ⟨j, hj, rfl⟩ : ∃ j : Nat, j < bs.length ∧ b = (j : Int) := ⟨b.toNat, by omega, by omega⟩
    have hmmj := gB_mem (bs := bs) (i := (j : Int)) (by omega) (by omega)
    obtain ⟨hcpj, hlyj, htcj⟩ := hO.2.1 _ hmmj
    have hllj := len_lenB hmmj
    have ht0j := tot_0 hlyj
    have hflj : tot (fl (gB bs (j : Int))) = tot (gB bs (j : Int)).2.2 := sum_fl _ _
    have hfoj : lysOk (fl (gB bs (j : Int))) := fl_ok hlyj
    rcases Classical.em ((i : Int) = (j : Int) ∨ n < 1 ∨ 500 < n ∨ x < 80 ∨ 300 < x) with hq2 | hq2
    · refine j_callV (st' := []) (As := [vi ((i : Int)), vi ((j : Int)), vi (n), vi (x)]) C dX7_blendCost_6 rfl m_X7_164 h01 rfl rfl rfl (c_nB2 (kL κ) hfl (kD κ) (kc κ) σ am bs ru se pf hd ca evs ln bl th hM i j hi hj n hn9 x hx9 hq2) rfl (by omega) (by omega) (by omega) (fun _ _ hx => hx.elim) (fun v10 τ9 hp11 => ?_)
      obtain ⟨rfl, ⟨bl13, hN12⟩, hN12k, hN12d⟩ := hp11
      show J κ τ9 [(0, .ref (am 0)), (1, vi ((i : Int))), (2, vi ((j : Int))), (3, vi (n)), (4, vi (x))] 9 [vi (1)] _ _
      have hN12K := kp0.tr hN12k
      have hN12D := hN12d.trans dm0
      obtain ⟨hI14, gc14, gm14, gr14, gp14, gb14, go14, gf14, gg14, gt14, gz14, gk14, gl14, _, _, _, h014, ⟨hgc14, hgm14, hgr14, hgp14, hgb14, hgo14, hgf14, hgg14, hgt14, hgz14, hgk14, hgl14⟩, ⟨rfl, rfl, rfl⟩, hBn14, hRu14, hPr14, hTr14, hKi14, hLi14⟩ := id hN12
      have hI := hI14
      have hnb614 := hBn14.1
      refine j_if_eq (tgt := 14) C dX7_blendCost_9 rfl rfl ⟨by omega, by omega⟩ (fun cc15 => absurd cc15 (by decide)) (fun _ => ?_)
      refine j_iconst C dX7_blendCost_12 rfl ?_
      have ho : o_blendCost bs ru se pf hd ca evs ln (i : Int) (j : Int) n x = (2, 0, (bs, ru, se, pf, hd, ca, evs, ln)) := by unfold o_blendCost; rw [if_neg (by omega), if_pos (by omega)]
      exact j_iret C E dX7_blendCost_13 (by omega) (by omega) ⟨_, rfl, by rw [ho]; exact fun h9 => absurd (show (2 : Int) = 0 from h9) (by decide), ⟨_, by rw [ho]; exact hN12⟩, hN12K, hN12D⟩
    · rcases Classical.em ((bestF pf (fl (gB bs (i : Int))) (fl (gB bs (j : Int))) n (n * x)).1 = true) with hf | hf
      · have hsh := bestF_share (pf := pf) (L1 := fl (gB bs (i : Int))) (L2 := fl (gB bs (j : Int))) (n := n) (mw := n * x) (by omega) (by omega) (by omega) hf
        refine j_callV (st' := []) (As := [vi ((i : Int)), vi ((j : Int)), vi (n), vi (x)]) C dX7_blendCost_6 rfl m_X7_164 h01 rfl rfl rfl (c_nB0 (kL κ) hfl (kD κ) (kc κ) σ am bs ru se pf hd ca evs ln bl th hM i j hi hj n hn9 x hx9 hO hq2 hf) rfl (by omega) (by omega) (by omega) (fun _ _ hx => hx.elim) (fun v17 τ16 hp18 => ?_)
        obtain ⟨rfl, ⟨bl20, hN19⟩, hN19k, hN19d⟩ := hp18
        show J κ τ16 [(0, .ref (am 0)), (1, vi ((i : Int))), (2, vi ((j : Int))), (3, vi (n)), (4, vi (x))] 9 [vi (0)] _ _
        have hN19K := kp0.tr hN19k
        have hN19D := hN19d.trans dm0
        obtain ⟨hI21, gc21, gm21, gr21, gp21, gb21, go21, gf21, gg21, gt21, gz21, gk21, gl21, _, _, _, h021, ⟨hgc21, hgm21, hgr21, hgp21, hgb21, hgo21, hgf21, hgg21, hgt21, hgz21, hgk21, hgl21⟩, ⟨rfl, rfl, rfl⟩, hBn21, hRu21, hPr21, hTr21, hKi21, hLi21⟩ := id hN19
        have hI := hI21
        have hnb621 := hBn21.1
        refine j_if_eq (tgt := 14) C dX7_blendCost_9 rfl rfl ⟨by omega, by omega⟩ (fun _ => ?_) (fun cc22 => absurd cc22 (by decide))
        refine j_aload_n 0 C dX7_blendCost_14 rfl rfl rfl ?_
        refine j_iload_n 1 C dX7_blendCost_15 rfl rfl rfl ?_
        refine j_iload_n 2 C dX7_blendCost_16 rfl rfl rfl ?_
        refine j_aload_n 0 C dX7_blendCost_17 rfl rfl rfl ?_
        refine j_iload_n 1 C dX7_blendCost_18 rfl rfl rfl ?_
        refine j_iload_n 2 C dX7_blendCost_19 rfl rfl rfl ?_
        refine j_iload_n 3 C dX7_blendCost_20 rfl rfl rfl ?_
        refine j_iload 4 C dX7_blendCost_21 rfl rfl ?_
        have hmwx := bm_in (n := n) (x := x) ⟨by omega, by omega⟩ ⟨by omega, by omega⟩
        refine j_callV (st' := [vi ((j : Int)), vi ((i : Int)), .ref (am 0)]) (As := [vi ((i : Int)), vi ((j : Int)), vi (n), vi (x)]) C dX7_blendCost_23 rfl m_X7_160 h021 rfl rfl rfl (c_share (kL κ) hfl (kD κ) (kc κ) τ16 am bs ru se pf hd ca evs ln bl20 0 hN19 i j hi hj hlyi hlyj hprr (by omega) (by omega) n x ⟨by omega, by omega⟩ hmwx) rfl (by omega) (by omega) (by omega) (fun _ _ hx => hx.elim) (fun v24 τ23 hp25 => ?_)
        obtain ⟨rfl, ⟨bl27, hN26⟩, hN26k, hN26d⟩ := hp25
        show J κ τ23 [(0, .ref (am 0)), (1, vi ((i : Int))), (2, vi ((j : Int))), (3, vi (n)), (4, vi (x))] 26 [vi ((bsO (bestF pf (fl (gB bs (i : Int))) (fl (gB bs (j : Int))) n (x * n)))), vi ((j : Int)), vi ((i : Int)), .ref (am 0)] _ _
        have hN26K := hN19K.tr hN26k
        have hN26D := hN26d.trans hN19D
        obtain ⟨hI28, gc28, gm28, gr28, gp28, gb28, go28, gf28, gg28, gt28, gz28, gk28, gl28, _, _, _, h028, ⟨hgc28, hgm28, hgr28, hgp28, hgb28, hgo28, hgf28, hgg28, hgt28, hgz28, hgk28, hgl28⟩, ⟨rfl, rfl, rfl⟩, hBn28, hRu28, hPr28, hTr28, hKi28, hLi28⟩ := id hN26
        have hI := hI28
        have hnb628 := hBn28.1
        rw [Int.mul_comm x n]
        rw [show bsO (bestF pf (fl (gB bs (i : Int))) (fl (gB bs (j : Int))) n (n * x)) = (bestF pf (fl (gB bs (i : Int))) (fl (gB bs (j : Int))) n (n * x)).2.1 from if_pos hf]
        refine j_iload_n 3 C dX7_blendCost_26 rfl rfl rfl ?_
        refine j_callV (st' := []) (As := [vi ((i : Int)), vi ((j : Int)), vi ((bestF pf (fl (gB bs (i : Int))) (fl (gB bs (j : Int))) n (n * x)).2.1), vi (n)]) C dX7_blendCost_27 rfl m_X7_157 h028 rfl rfl rfl (c_blends2 (kL κ) hfl (kD κ) (kc κ) τ23 am bs ru se pf hd ca evs ln bl27 0 hN26 i j hi hj hlyi hlyj ((bestF pf (fl (gB bs (i : Int))) (fl (gB bs (j : Int))) n (n * x)).2.1) n ⟨by omega, by omega⟩ ⟨by omega, by omega⟩) rfl (by omega) (by omega) (by omega) (fun _ _ hx => hx.elim) (fun v30 τ29 hp31 => ?_)
        obtain ⟨rfl, hN32, hN32k, hN32d⟩ := hp31
        show J κ τ29 [(0, .ref (am 0)), (1, vi ((i : Int))), (2, vi ((j : Int))), (3, vi (n)), (4, vi (x))] 30 [] _ _
        have hN32K := hN26K.tr hN32k
        have hN32D := hN32d.trans hN26D
        obtain ⟨hI33, gc33, gm33, gr33, gp33, gb33, go33, gf33, gg33, gt33, gz33, gk33, gl33, _, _, _, h033, ⟨hgc33, hgm33, hgr33, hgp33, hgb33, hgo33, hgf33, hgg33, hgt33, hgz33, hgk33, hgl33⟩, ⟨rfl, rfl, rfl⟩, hBn33, hRu33, hPr33, hTr33, hKi33, hLi33⟩ := id hN32
        have hI := hI33
        have hnb633 := hBn33.1
        refine j_aload_n 0 C dX7_blendCost_30 rfl rfl rfl ?_
        refine j_get C dX7_blendCost_31 rfl fg_X7_147 h033 rfl ?_
        have ho : o_blendCost bs ru se pf hd ca evs ln (i : Int) (j : Int) n x = (0, (bestF pf (fl (gB bs (i : Int))) (fl (gB bs (j : Int))) n (n * x)).2.2, (bs, ru, se, pf, hd, ca, evs, ln)) := by unfold o_blendCost; rw [if_neg (by omega), if_neg (by omega), if_neg (fun z => z hf)]
        exact j_iret C E dX7_blendCost_34 (by omega) (by omega) ⟨_, rfl, by rw [ho]; exact fun _ => (by unfold bestF at hf ⊢; exact (bestK_cost _ _ _ _ _ _ _ hf).symm), ⟨_, by rw [ho]; exact hN32⟩, hN32K, hN32D⟩
      · refine j_callV (st' := []) (As := [vi ((i : Int)), vi ((j : Int)), vi (n), vi (x)]) C dX7_blendCost_6 rfl m_X7_164 h01 rfl rfl rfl (c_nB3 (kL κ) hfl (kD κ) (kc κ) σ am bs ru se pf hd ca evs ln bl th hM i j hi hj n hn9 x hx9 hO hq2 hf) rfl (by omega) (by omega) (by omega) (fun _ _ hx => hx.elim) (fun v35 τ34 hp36 => ?_)
        obtain ⟨rfl, ⟨bl38, hN37⟩, hN37k, hN37d⟩ := hp36
        show J κ τ34 [(0, .ref (am 0)), (1, vi ((i : Int))), (2, vi ((j : Int))), (3, vi (n)), (4, vi (x))] 9 [vi (1)] _ _
        have hN37K := kp0.tr hN37k
        have hN37D := hN37d.trans dm0
        obtain ⟨hI39, gc39, gm39, gr39, gp39, gb39, go39, gf39, gg39, gt39, gz39, gk39, gl39, _, _, _, h039, ⟨hgc39, hgm39, hgr39, hgp39, hgb39, hgo39, hgf39, hgg39, hgt39, hgz39, hgk39, hgl39⟩, ⟨rfl, rfl, rfl⟩, hBn39, hRu39, hPr39, hTr39, hKi39, hLi39⟩ := id hN37
        have hI := hI39
        have hnb639 := hBn39.1
        refine j_if_eq (tgt := 14) C dX7_blendCost_9 rfl rfl ⟨by omega, by omega⟩ (fun cc40 => absurd cc40 (by decide)) (fun _ => ?_)
        refine j_iconst C dX7_blendCost_12 rfl ?_
        have ho : o_blendCost bs ru se pf hd ca evs ln (i : Int) (j : Int) n x = (3, 0, (bs, ru, se, pf, hd, ca, evs, ln)) := by unfold o_blendCost; rw [if_neg (by omega), if_neg (by omega), if_pos hf]
        exact j_iret C E dX7_blendCost_13 (by omega) (by omega) ⟨_, rfl, by rw [ho]; exact fun h9 => absurd (show (3 : Int) = 0 from h9) (by decide), ⟨_, by rw [ho]; exact hN37⟩, hN37K, hN37D⟩
set_option maxHeartbeats 4000000 in
set_option maxRecDepth 20000 in
theorem m_blendCostByTrying (l : Launch) (hfl : l.stackTraces = false) (D : va_G) (cy : Nat → Nat) (σ : Wd) (am : Nat → Nat) (bs : List Bn) (ru : Nat → Int × Int) (se : Int) (pf : Nat → Int) (hd : Hd) (ca : Int) (evs : List Evt) (ln : List Int) (bl : Int × Int × Int) (th : Int) (hM : RM cy σ am bs ru se pf hd ca evs ln bl th) (a : Int) (ha9 : (-2147483648 ≤ a ∧ a < 2147483648)) (b : Int) (hb9 : (-2147483648 ≤ b ∧ b < 2147483648)) (n : Int) (hn9 : (-2147483648 ≤ n ∧ n < 2147483648)) (x : Int) (hx9 : (-2147483648 ≤ x ∧ x < 2147483648)) (hO : Ok bs ru se pf hd evs ln) : Ct l yX7_blendCostByTrying cX7_blendCostByTrying 5 (some .int) 6 0 0 D cy [.ref (am 0), vi (a), vi (b), vi (n), vi (x)] σ (fun v σ' => ∃ rz : Int, v = some (vi rz) ∧ ((o_blendCost bs ru se pf hd ca evs ln a b n x).1 = 0 → rz = (o_blendCost bs ru se pf hd ca evs ln a b n x).2.1) ∧ (∃ bl', RMs cy σ' am (o_blendCost bs ru se pf hd ca evs ln a b n x).2.2 bl' (o_blendCost bs ru se pf hd ca evs ln a b n x).1) ∧ Keep σ σ' (inM am) ∧ σ'.1 = σ.1) noX := by
  refine ct_start (by decide +kernel) hfl rfl (fun κ e1 e2 e3 C E NH => ?_)
  subst e1 e2 e3
  have C : Cx κ cX7_blendCostByTrying 5 RX7 "blendCostByTrying" 6 := C
  obtain ⟨-, -, -, -, hc, hs⟩ := id E
  show J κ σ [(0, .ref (am 0)), (1, vi (a)), (2, vi (b)), (3, vi (n)), (4, vi (x))] 0 [] 0 0
  obtain ⟨hI1, gc1, gm1, gr1, gp1, gb1, go1, gf1, gg1, gt1, gz1, gk1, gl1, _, _, _, h01, ⟨hgc1, hgm1, hgr1, hgp1, hgb1, hgo1, hgf1, hgg1, hgt1, hgz1, hgk1, hgl1⟩, ⟨rfl, rfl, rfl⟩, hBn1, hRu1, hPr1, hTr1, hKi1, hLi1⟩ := id hM
  have hI := hI1
  have hnb61 := hBn1.1
  have kp0 : Keep σ σ (inM am) := Keep.rf
  have dm0 : σ.1 = σ.1 := rfl
  obtain ⟨⟨hc1, hc2⟩, hc3, hc4⟩ := hO.2.2.2.1
  have h6 := hO.1
  have hlb := hO.2.2.1
  have hTb := totB_in hO.2.1
  have hprr := hO.2.2.2.2.1
  refine j_aload_n 0 C dX7_blendCostByTrying_0 rfl rfl rfl ?_
  refine j_iload_n 1 C dX7_blendCostByTrying_1 rfl rfl rfl ?_
  refine j_iload_n 2 C dX7_blendCostByTrying_2 rfl rfl rfl ?_
  refine j_iload_n 3 C dX7_blendCostByTrying_3 rfl rfl rfl ?_
  refine j_iload 4 C dX7_blendCostByTrying_4 rfl rfl ?_
  refine j_callV (st' := []) (As := [vi (a), vi (b), vi (n), vi (x)]) C dX7_blendCostByTrying_6 rfl m_X7_168 h01 rfl rfl rfl (m_blendCost (kL κ) hfl (kD κ) (kc κ) σ am bs ru se pf hd ca evs ln bl th hM a ha9 b hb9 n hn9 x hx9 hO) rfl (by omega) (by omega) (by omega) (fun _ _ hx => hx.elim) (fun v3 τ2 hp4 => ?_)
  obtain ⟨z9, rfl, hv9, hm9, hk9, hd9⟩ := hp4
  show J κ τ2 [(0, .ref (am 0)), (1, vi (a)), (2, vi (b)), (3, vi (n)), (4, vi (x))] 9 [vi (z9)] _ _
  exact j_iret C E dX7_blendCostByTrying_9 (by omega) (by omega) ⟨_, rfl, hv9, hm9, hk9, hd9⟩
set_option maxHeartbeats 8000000 in
set_option maxRecDepth 20000 in
theorem m_blendShare (l : Launch) (hfl : l.stackTraces = false) (D : va_G) (cy : Nat → Nat) (σ : Wd) (am : Nat → Nat) (bs : List Bn) (ru : Nat → Int × Int) (se : Int) (pf : Nat → Int) (hd : Hd) (ca : Int) (evs : List Evt) (ln : List Int) (bl : Int × Int × Int) (th : Int) (hM : RM cy σ am bs ru se pf hd ca evs ln bl th) (a : Int) (ha9 : (-2147483648 ≤ a ∧ a < 2147483648)) (b : Int) (hb9 : (-2147483648 ≤ b ∧ b < 2147483648)) (n : Int) (hn9 : (-2147483648 ≤ n ∧ n < 2147483648)) (x : Int) (hx9 : (-2147483648 ≤ x ∧ x < 2147483648)) (hO : Ok bs ru se pf hd evs ln) : Ct l yX7_blendShare cX7_blendShare 5 (some .int) 5 0 0 D cy [.ref (am 0), vi (a), vi (b), vi (n), vi (x)] σ (fun v σ' => ∃ rz : Int, v = some (vi rz) ∧ ((o_blendShare bs ru se pf hd ca evs ln a b n x).1 = 0 → rz = (o_blendShare bs ru se pf hd ca evs ln a b n x).2.1) ∧ (∃ bl', RMs cy σ' am (o_blendShare bs ru se pf hd ca evs ln a b n x).2.2 bl' (o_blendShare bs ru se pf hd ca evs ln a b n x).1) ∧ Keep σ σ' (inM am) ∧ σ'.1 = σ.1) noX := by
  refine ct_start (by decide +kernel) hfl rfl (fun κ e1 e2 e3 C E NH => ?_)
  subst e1 e2 e3
  have C : Cx κ cX7_blendShare 5 RX7 "blendShare" 5 := C
  obtain ⟨-, -, -, -, hc, hs⟩ := id E
  show J κ σ [(0, .ref (am 0)), (1, vi (a)), (2, vi (b)), (3, vi (n)), (4, vi (x))] 0 [] 0 0
  obtain ⟨hI1, gc1, gm1, gr1, gp1, gb1, go1, gf1, gg1, gt1, gz1, gk1, gl1, _, _, _, h01, ⟨hgc1, hgm1, hgr1, hgp1, hgb1, hgo1, hgf1, hgg1, hgt1, hgz1, hgk1, hgl1⟩, ⟨rfl, rfl, rfl⟩, hBn1, hRu1, hPr1, hTr1, hKi1, hLi1⟩ := id hM
  have hI := hI1
  have hnb61 := hBn1.1
  have kp0 : Keep σ σ (inM am) := Keep.rf
  have dm0 : σ.1 = σ.1 := rfl
  obtain ⟨⟨hc1, hc2⟩, hc3, hc4⟩ := hO.2.2.2.1
  have h6 := hO.1
  have hlb := hO.2.2.1
  have hTb := totB_in hO.2.1
  have hprr := hO.2.2.2.2.1
  refine j_aload_n 0 C dX7_blendShare_0 rfl rfl rfl ?_
  refine j_iload_n 1 C dX7_blendShare_1 rfl rfl rfl ?_
  refine j_iload_n 2 C dX7_blendShare_2 rfl rfl rfl ?_
  refine j_iload_n 3 C dX7_blendShare_3 rfl rfl rfl ?_
  refine j_iload 4 C dX7_blendShare_4 rfl rfl ?_
  rcases Classical.em (a < 0 ∨ (bs.length : Int) ≤ a ∨ b < 0 ∨ (bs.length : Int) ≤ b) with hq | hq
  · refine j_callV (st' := []) (As := [vi (a), vi (b), vi (n), vi (x)]) C dX7_blendShare_6 rfl m_X7_164 h01 rfl rfl rfl (c_nB1 (kL κ) hfl (kD κ) (kc κ) σ am bs ru se pf hd ca evs ln bl th hM a b ⟨by omega, by omega⟩ ⟨by omega, by omega⟩ n hn9 x hx9 hq) rfl (by omega) (by omega) (by omega) (fun _ _ hx => hx.elim) (fun v3 τ2 hp4 => ?_)
    obtain ⟨rfl, ⟨bl6, hN5⟩, hN5k, hN5d⟩ := hp4
    show J κ τ2 [(0, .ref (am 0)), (1, vi (a)), (2, vi (b)), (3, vi (n)), (4, vi (x))] 9 [vi (1)] _ _
    have hN5K := kp0.tr hN5k
    have hN5D := hN5d.trans dm0
    obtain ⟨hI7, gc7, gm7, gr7, gp7, gb7, go7, gf7, gg7, gt7, gz7, gk7, gl7, _, _, _, h07, ⟨hgc7, hgm7, hgr7, hgp7, hgb7, hgo7, hgf7, hgg7, hgt7, hgz7, hgk7, hgl7⟩, ⟨rfl, rfl, rfl⟩, hBn7, hRu7, hPr7, hTr7, hKi7, hLi7⟩ := id hN5
    have hI := hI7
    have hnb67 := hBn7.1
    refine j_if_eq (tgt := 16) C dX7_blendShare_9 rfl rfl ⟨by omega, by omega⟩ (fun cc8 => absurd cc8 (by decide)) (fun _ => ?_)
    refine j_iconst C dX7_blendShare_12 rfl ?_
    refine j_goto (tgt := 25) C dX7_blendShare_13 rfl ?_
    have ho : o_blendShare bs ru se pf hd ca evs ln a b n x = (1, 0, (bs, ru, se, pf, hd, ca, evs, ln)) := by unfold o_blendShare; rw [if_pos (by omega)]
    exact j_iret C E dX7_blendShare_25 (by omega) (by omega) ⟨_, rfl, by rw [ho]; exact fun h9 => absurd (show (1 : Int) = 0 from h9) (by decide), ⟨_, by rw [ho]; exact hN5⟩, hN5K, hN5D⟩
  · obtain ⟨i, hi, rfl⟩ : ∃ i : Nat, i < bs.length ∧ a = (i : Int) := ⟨a.toNat, by omega, by omega⟩
    have hmmi := gB_mem (bs := bs) (i := (i : Int)) (by omega) (by omega)
    obtain ⟨hcpi, hlyi, htci⟩ := hO.2.1 _ hmmi
    have hlli := len_lenB hmmi
    have ht0i := tot_0 hlyi
    have hfli : tot (fl (gB bs (i : Int))) = tot (gB bs (i : Int)).2.2 := sum_fl _ _
    have hfoi : lysOk (fl (gB bs (i : Int))) := fl_ok hlyi
    obtain ⟨j, hj, rfl⟩ : ∃ j : Nat, j < bs.length ∧ b = (j : Int) := ⟨b.toNat, by omega, by omega⟩
    have hmmj := gB_mem (bs := bs) (i := (j : Int)) (by omega) (by omega)
    obtain ⟨hcpj, hlyj, htcj⟩ := hO.2.1 _ hmmj
    have hllj := len_lenB hmmj
    have ht0j := tot_0 hlyj
    have hflj : tot (fl (gB bs (j : Int))) = tot (gB bs (j : Int)).2.2 := sum_fl _ _
    have hfoj : lysOk (fl (gB bs (j : Int))) := fl_ok hlyj
    rcases Classical.em ((i : Int) = (j : Int) ∨ n < 1 ∨ 500 < n ∨ x < 80 ∨ 300 < x) with hq2 | hq2
    · refine j_callV (st' := []) (As := [vi ((i : Int)), vi ((j : Int)), vi (n), vi (x)]) C dX7_blendShare_6 rfl m_X7_164 h01 rfl rfl rfl (c_nB2 (kL κ) hfl (kD κ) (kc κ) σ am bs ru se pf hd ca evs ln bl th hM i j hi hj n hn9 x hx9 hq2) rfl (by omega) (by omega) (by omega) (fun _ _ hx => hx.elim) (fun v10 τ9 hp11 => ?_)
      obtain ⟨rfl, ⟨bl13, hN12⟩, hN12k, hN12d⟩ := hp11
      show J κ τ9 [(0, .ref (am 0)), (1, vi ((i : Int))), (2, vi ((j : Int))), (3, vi (n)), (4, vi (x))] 9 [vi (1)] _ _
      have hN12K := kp0.tr hN12k
      have hN12D := hN12d.trans dm0
      obtain ⟨hI14, gc14, gm14, gr14, gp14, gb14, go14, gf14, gg14, gt14, gz14, gk14, gl14, _, _, _, h014, ⟨hgc14, hgm14, hgr14, hgp14, hgb14, hgo14, hgf14, hgg14, hgt14, hgz14, hgk14, hgl14⟩, ⟨rfl, rfl, rfl⟩, hBn14, hRu14, hPr14, hTr14, hKi14, hLi14⟩ := id hN12
      have hI := hI14
      have hnb614 := hBn14.1
      refine j_if_eq (tgt := 16) C dX7_blendShare_9 rfl rfl ⟨by omega, by omega⟩ (fun cc15 => absurd cc15 (by decide)) (fun _ => ?_)
      refine j_iconst C dX7_blendShare_12 rfl ?_
      refine j_goto (tgt := 25) C dX7_blendShare_13 rfl ?_
      have ho : o_blendShare bs ru se pf hd ca evs ln (i : Int) (j : Int) n x = (2, 0, (bs, ru, se, pf, hd, ca, evs, ln)) := by unfold o_blendShare; rw [if_neg (by omega), if_pos (by omega)]
      exact j_iret C E dX7_blendShare_25 (by omega) (by omega) ⟨_, rfl, by rw [ho]; exact fun h9 => absurd (show (2 : Int) = 0 from h9) (by decide), ⟨_, by rw [ho]; exact hN12⟩, hN12K, hN12D⟩
    · rcases Classical.em ((bestF pf (fl (gB bs (i : Int))) (fl (gB bs (j : Int))) n (n * x)).1 = true) with hf | hf
      · have hsh := bestF_share (pf := pf) (L1 := fl (gB bs (i : Int))) (L2 := fl (gB bs (j : Int))) (n := n) (mw := n * x) (by omega) (by omega) (by omega) hf
        refine j_callV (st' := []) (As := [vi ((i : Int)), vi ((j : Int)), vi (n), vi (x)]) C dX7_blendShare_6 rfl m_X7_164 h01 rfl rfl rfl (c_nB0 (kL κ) hfl (kD κ) (kc κ) σ am bs ru se pf hd ca evs ln bl th hM i j hi hj n hn9 x hx9 hO hq2 hf) rfl (by omega) (by omega) (by omega) (fun _ _ hx => hx.elim) (fun v17 τ16 hp18 => ?_)
        obtain ⟨rfl, ⟨bl20, hN19⟩, hN19k, hN19d⟩ := hp18
        show J κ τ16 [(0, .ref (am 0)), (1, vi ((i : Int))), (2, vi ((j : Int))), (3, vi (n)), (4, vi (x))] 9 [vi (0)] _ _
        have hN19K := kp0.tr hN19k
        have hN19D := hN19d.trans dm0
        obtain ⟨hI21, gc21, gm21, gr21, gp21, gb21, go21, gf21, gg21, gt21, gz21, gk21, gl21, _, _, _, h021, ⟨hgc21, hgm21, hgr21, hgp21, hgb21, hgo21, hgf21, hgg21, hgt21, hgz21, hgk21, hgl21⟩, ⟨rfl, rfl, rfl⟩, hBn21, hRu21, hPr21, hTr21, hKi21, hLi21⟩ := id hN19
        have hI := hI21
        have hnb621 := hBn21.1
        refine j_if_eq (tgt := 16) C dX7_blendShare_9 rfl rfl ⟨by omega, by omega⟩ (fun _ => ?_) (fun cc22 => absurd cc22 (by decide))
        refine j_aload_n 0 C dX7_blendShare_16 rfl rfl rfl ?_
        refine j_iload_n 1 C dX7_blendShare_17 rfl rfl rfl ?_
        refine j_iload_n 2 C dX7_blendShare_18 rfl rfl rfl ?_
        refine j_iload_n 3 C dX7_blendShare_19 rfl rfl rfl ?_
        refine j_iload 4 C dX7_blendShare_20 rfl rfl ?_
        have hmwx := bm_in (n := n) (x := x) ⟨by omega, by omega⟩ ⟨by omega, by omega⟩
        refine j_callV (st' := []) (As := [vi ((i : Int)), vi ((j : Int)), vi (n), vi (x)]) C dX7_blendShare_22 rfl m_X7_160 h021 rfl rfl rfl (c_share (kL κ) hfl (kD κ) (kc κ) τ16 am bs ru se pf hd ca evs ln bl20 0 hN19 i j hi hj hlyi hlyj hprr (by omega) (by omega) n x ⟨by omega, by omega⟩ hmwx) rfl (by omega) (by omega) (by omega) (fun _ _ hx => hx.elim) (fun v24 τ23 hp25 => ?_)
        obtain ⟨rfl, ⟨bl27, hN26⟩, hN26k, hN26d⟩ := hp25
        show J κ τ23 [(0, .ref (am 0)), (1, vi ((i : Int))), (2, vi ((j : Int))), (3, vi (n)), (4, vi (x))] 25 [vi ((bsO (bestF pf (fl (gB bs (i : Int))) (fl (gB bs (j : Int))) n (x * n))))] _ _
        have hN26K := hN19K.tr hN26k
        have hN26D := hN26d.trans hN19D
        obtain ⟨hI28, gc28, gm28, gr28, gp28, gb28, go28, gf28, gg28, gt28, gz28, gk28, gl28, _, _, _, h028, ⟨hgc28, hgm28, hgr28, hgp28, hgb28, hgo28, hgf28, hgg28, hgt28, hgz28, hgk28, hgl28⟩, ⟨rfl, rfl, rfl⟩, hBn28, hRu28, hPr28, hTr28, hKi28, hLi28⟩ := id hN26
        have hI := hI28
        have hnb628 := hBn28.1
        rw [Int.mul_comm x n]
        rw [show bsO (bestF pf (fl (gB bs (i : Int))) (fl (gB bs (j : Int))) n (n * x)) = (bestF pf (fl (gB bs (i : Int))) (fl (gB bs (j : Int))) n (n * x)).2.1 from if_pos hf]
        have ho : o_blendShare bs ru se pf hd ca evs ln (i : Int) (j : Int) n x = (0, (bestF pf (fl (gB bs (i : Int))) (fl (gB bs (j : Int))) n (n * x)).2.1, (bs, ru, se, pf, hd, ca, evs, ln)) := by unfold o_blendShare; rw [if_neg (by omega), if_neg (by omega), if_neg (fun z => z hf)]
        exact j_iret C E dX7_blendShare_25 (by omega) (by omega) ⟨_, rfl, by rw [ho]; exact fun _ => rfl, ⟨_, by rw [ho]; exact hN26⟩, hN26K, hN26D⟩
      · refine j_callV (st' := []) (As := [vi ((i : Int)), vi ((j : Int)), vi (n), vi (x)]) C dX7_blendShare_6 rfl m_X7_164 h01 rfl rfl rfl (c_nB3 (kL κ) hfl (kD κ) (kc κ) σ am bs ru se pf hd ca evs ln bl th hM i j hi hj n hn9 x hx9 hO hq2 hf) rfl (by omega) (by omega) (by omega) (fun _ _ hx => hx.elim) (fun v30 τ29 hp31 => ?_)
        obtain ⟨rfl, ⟨bl33, hN32⟩, hN32k, hN32d⟩ := hp31
        show J κ τ29 [(0, .ref (am 0)), (1, vi ((i : Int))), (2, vi ((j : Int))), (3, vi (n)), (4, vi (x))] 9 [vi (1)] _ _
        have hN32K := kp0.tr hN32k
        have hN32D := hN32d.trans dm0
        obtain ⟨hI34, gc34, gm34, gr34, gp34, gb34, go34, gf34, gg34, gt34, gz34, gk34, gl34, _, _, _, h034, ⟨hgc34, hgm34, hgr34, hgp34, hgb34, hgo34, hgf34, hgg34, hgt34, hgz34, hgk34, hgl34⟩, ⟨rfl, rfl, rfl⟩, hBn34, hRu34, hPr34, hTr34, hKi34, hLi34⟩ := id hN32
        have hI := hI34
        have hnb634 := hBn34.1
        refine j_if_eq (tgt := 16) C dX7_blendShare_9 rfl rfl ⟨by omega, by omega⟩ (fun cc35 => absurd cc35 (by decide)) (fun _ => ?_)
        refine j_iconst C dX7_blendShare_12 rfl ?_
        refine j_goto (tgt := 25) C dX7_blendShare_13 rfl ?_
        have ho : o_blendShare bs ru se pf hd ca evs ln (i : Int) (j : Int) n x = (3, 0, (bs, ru, se, pf, hd, ca, evs, ln)) := by unfold o_blendShare; rw [if_neg (by omega), if_neg (by omega), if_pos hf]
        exact j_iret C E dX7_blendShare_25 (by omega) (by omega) ⟨_, rfl, by rw [ho]; exact fun h9 => absurd (show (3 : Int) = 0 from h9) (by decide), ⟨_, by rw [ho]; exact hN32⟩, hN32K, hN32D⟩
set_option maxHeartbeats 8000000 in
set_option maxRecDepth 20000 in
theorem m_sellBlend (l : Launch) (hfl : l.stackTraces = false) (D : va_G) (cy : Nat → Nat) (σ : Wd) (am : Nat → Nat) (bs : List Bn) (ru : Nat → Int × Int) (se : Int) (pf : Nat → Int) (hd : Hd) (ca : Int) (evs : List Evt) (ln : List Int) (bl : Int × Int × Int) (th : Int) (hM : RM cy σ am bs ru se pf hd ca evs ln bl th) (a : Int) (ha9 : (-2147483648 ≤ a ∧ a < 2147483648)) (b : Int) (hb9 : (-2147483648 ≤ b ∧ b < 2147483648)) (n : Int) (hn9 : (-2147483648 ≤ n ∧ n < 2147483648)) (x : Int) (hx9 : (-2147483648 ≤ x ∧ x < 2147483648)) (hO : Ok bs ru se pf hd evs ln) : Ct l yX7_sellBlend cX7_sellBlend 9 (some .int) 6 0 0 D cy [.ref (am 0), vi (a), vi (b), vi (n), vi (x)] σ (fun v σ' => ∃ rz : Int, v = some (vi rz) ∧ ((o_sellBlend bs ru se pf hd ca evs ln a b n x).1 = 0 → rz = (o_sellBlend bs ru se pf hd ca evs ln a b n x).2.1) ∧ (∃ bl', RMs cy σ' am (o_sellBlend bs ru se pf hd ca evs ln a b n x).2.2 bl' (o_sellBlend bs ru se pf hd ca evs ln a b n x).1) ∧ Keep σ σ' (inM am) ∧ σ'.1 = σ.1) noX := by
  refine ct_start (by decide +kernel) hfl rfl (fun κ e1 e2 e3 C E NH => ?_)
  subst e1 e2 e3
  have C : Cx κ cX7_sellBlend 9 RX7 "sellBlend" 6 := C
  obtain ⟨-, -, -, -, hc, hs⟩ := id E
  show J κ σ [(0, .ref (am 0)), (1, vi (a)), (2, vi (b)), (3, vi (n)), (4, vi (x))] 0 [] 0 0
  obtain ⟨hI1, gc1, gm1, gr1, gp1, gb1, go1, gf1, gg1, gt1, gz1, gk1, gl1, _, _, _, h01, ⟨hgc1, hgm1, hgr1, hgp1, hgb1, hgo1, hgf1, hgg1, hgt1, hgz1, hgk1, hgl1⟩, ⟨rfl, rfl, rfl⟩, hBn1, hRu1, hPr1, hTr1, hKi1, hLi1⟩ := id hM
  have hI := hI1
  have hnb61 := hBn1.1
  have kp0 : Keep σ σ (inM am) := Keep.rf
  have dm0 : σ.1 = σ.1 := rfl
  obtain ⟨⟨hc1, hc2⟩, hc3, hc4⟩ := hO.2.2.2.1
  have h6 := hO.1
  have hlb := hO.2.2.1
  have hTb := totB_in hO.2.1
  have hprr := hO.2.2.2.2.1
  refine j_aload_n 0 C dX7_sellBlend_0 rfl rfl rfl ?_
  refine j_iload_n 1 C dX7_sellBlend_1 rfl rfl rfl ?_
  refine j_iload_n 2 C dX7_sellBlend_2 rfl rfl rfl ?_
  refine j_iload_n 3 C dX7_sellBlend_3 rfl rfl rfl ?_
  refine j_iload 4 C dX7_sellBlend_4 rfl rfl ?_
  rcases Classical.em (a < 0 ∨ (bs.length : Int) ≤ a ∨ b < 0 ∨ (bs.length : Int) ≤ b) with hq | hq
  · refine j_callV (st' := []) (As := [vi (a), vi (b), vi (n), vi (x)]) C dX7_sellBlend_6 rfl m_X7_164 h01 rfl rfl rfl (c_nB1 (kL κ) hfl (kD κ) (kc κ) σ am bs ru se pf hd ca evs ln bl th hM a b ⟨by omega, by omega⟩ ⟨by omega, by omega⟩ n hn9 x hx9 hq) rfl (by omega) (by omega) (by omega) (fun _ _ hx => hx.elim) (fun v3 τ2 hp4 => ?_)
    obtain ⟨rfl, ⟨bl6, hN5⟩, hN5k, hN5d⟩ := hp4
    show J κ τ2 [(0, .ref (am 0)), (1, vi (a)), (2, vi (b)), (3, vi (n)), (4, vi (x))] 9 [vi (1)] _ _
    have hN5K := kp0.tr hN5k
    have hN5D := hN5d.trans dm0
    obtain ⟨hI7, gc7, gm7, gr7, gp7, gb7, go7, gf7, gg7, gt7, gz7, gk7, gl7, _, _, _, h07, ⟨hgc7, hgm7, hgr7, hgp7, hgb7, hgo7, hgf7, hgg7, hgt7, hgz7, hgk7, hgl7⟩, ⟨rfl, rfl, rfl⟩, hBn7, hRu7, hPr7, hTr7, hKi7, hLi7⟩ := id hN5
    have hI := hI7
    have hnb67 := hBn7.1
    refine j_if_ne (tgt := 34) C dX7_sellBlend_9 rfl rfl ⟨by omega, by omega⟩ (fun _ => ?_) (fun cc8 => absurd cc8 (by decide))
    refine j_iconst C dX7_sellBlend_34 rfl ?_
    have ho : o_sellBlend bs ru se pf hd ca evs ln a b n x = (1, 0, (bs, ru, se, pf, hd, ca, evs, ln)) := by unfold o_sellBlend; rw [if_pos (by omega)]
    exact j_iret C E dX7_sellBlend_35 (by omega) (by omega) ⟨_, rfl, by rw [ho]; exact fun h9 => absurd (show (1 : Int) = 0 from h9) (by decide), ⟨_, by rw [ho]; exact hN5⟩, hN5K, hN5D⟩
  · obtain ⟨i, hi, rfl⟩ : ∃ i : Nat, i < bs.length ∧ a = (i : Int) := ⟨a.toNat, by omega, by omega⟩
    have hmmi := gB_mem (bs := bs) (i := (i : Int)) (by omega) (by omega)
    obtain ⟨hcpi, hlyi, htci⟩ := hO.2.1 _ hmmi
    have hlli := len_lenB hmmi
    have ht0i := tot_0 hlyi
    have hfli : tot (fl (gB bs (i : Int))) = tot (gB bs (i : Int)).2.2 := sum_fl _ _
    have hfoi : lysOk (fl (gB bs (i : Int))) := fl_ok hlyi
    obtain ⟨j, hj, rfl⟩ : ∃ j : Nat, j < bs.length ∧ b = (j : Int) := ⟨b.toNat, by omega, by omega⟩
    have hmmj := gB_mem (bs := bs) (i := (j : Int)) (by omega) (by omega)
    obtain ⟨hcpj, hlyj, htcj⟩ := hO.2.1 _ hmmj
    have hllj := len_lenB hmmj
    have ht0j := tot_0 hlyj
    have hflj : tot (fl (gB bs (j : Int))) = tot (gB bs (j : Int)).2.2 := sum_fl _ _
    have hfoj : lysOk (fl (gB bs (j : Int))) := fl_ok hlyj
    rcases Classical.em ((i : Int) = (j : Int) ∨ n < 1 ∨ 500 < n ∨ x < 80 ∨ 300 < x) with hq2 | hq2
    · refine j_callV (st' := []) (As := [vi ((i : Int)), vi ((j : Int)), vi (n), vi (x)]) C dX7_sellBlend_6 rfl m_X7_164 h01 rfl rfl rfl (c_nB2 (kL κ) hfl (kD κ) (kc κ) σ am bs ru se pf hd ca evs ln bl th hM i j hi hj n hn9 x hx9 hq2) rfl (by omega) (by omega) (by omega) (fun _ _ hx => hx.elim) (fun v10 τ9 hp11 => ?_)
      obtain ⟨rfl, ⟨bl13, hN12⟩, hN12k, hN12d⟩ := hp11
      show J κ τ9 [(0, .ref (am 0)), (1, vi ((i : Int))), (2, vi ((j : Int))), (3, vi (n)), (4, vi (x))] 9 [vi (1)] _ _
      have hN12K := kp0.tr hN12k
      have hN12D := hN12d.trans dm0
      obtain ⟨hI14, gc14, gm14, gr14, gp14, gb14, go14, gf14, gg14, gt14, gz14, gk14, gl14, _, _, _, h014, ⟨hgc14, hgm14, hgr14, hgp14, hgb14, hgo14, hgf14, hgg14, hgt14, hgz14, hgk14, hgl14⟩, ⟨rfl, rfl, rfl⟩, hBn14, hRu14, hPr14, hTr14, hKi14, hLi14⟩ := id hN12
      have hI := hI14
      have hnb614 := hBn14.1
      refine j_if_ne (tgt := 34) C dX7_sellBlend_9 rfl rfl ⟨by omega, by omega⟩ (fun _ => ?_) (fun cc15 => absurd cc15 (by decide))
      refine j_iconst C dX7_sellBlend_34 rfl ?_
      have ho : o_sellBlend bs ru se pf hd ca evs ln (i : Int) (j : Int) n x = (2, 0, (bs, ru, se, pf, hd, ca, evs, ln)) := by unfold o_sellBlend; rw [if_neg (by omega), if_pos (by omega)]
      exact j_iret C E dX7_sellBlend_35 (by omega) (by omega) ⟨_, rfl, by rw [ho]; exact fun h9 => absurd (show (2 : Int) = 0 from h9) (by decide), ⟨_, by rw [ho]; exact hN12⟩, hN12K, hN12D⟩
    · rcases Classical.em ((bestF pf (fl (gB bs (i : Int))) (fl (gB bs (j : Int))) n (n * x)).1 = true) with hf | hf
      · have hsh := bestF_share (pf := pf) (L1 := fl (gB bs (i : Int))) (L2 := fl (gB bs (j : Int))) (n := n) (mw := n * x) (by omega) (by omega) (by omega) hf
        refine j_callV (st' := []) (As := [vi ((i : Int)), vi ((j : Int)), vi (n), vi (x)]) C dX7_sellBlend_6 rfl m_X7_164 h01 rfl rfl rfl (c_nB0 (kL κ) hfl (kD κ) (kc κ) σ am bs ru se pf hd ca evs ln bl th hM i j hi hj n hn9 x hx9 hO hq2 hf) rfl (by omega) (by omega) (by omega) (fun _ _ hx => hx.elim) (fun v17 τ16 hp18 => ?_)
        obtain ⟨rfl, ⟨bl20, hN19⟩, hN19k, hN19d⟩ := hp18
        show J κ τ16 [(0, .ref (am 0)), (1, vi ((i : Int))), (2, vi ((j : Int))), (3, vi (n)), (4, vi (x))] 9 [vi (0)] _ _
        have hN19K := kp0.tr hN19k
        have hN19D := hN19d.trans dm0
        obtain ⟨hI21, gc21, gm21, gr21, gp21, gb21, go21, gf21, gg21, gt21, gz21, gk21, gl21, _, _, _, h021, ⟨hgc21, hgm21, hgr21, hgp21, hgb21, hgo21, hgf21, hgg21, hgt21, hgz21, hgk21, hgl21⟩, ⟨rfl, rfl, rfl⟩, hBn21, hRu21, hPr21, hTr21, hKi21, hLi21⟩ := id hN19
        have hI := hI21
        have hnb621 := hBn21.1
        refine j_if_ne (tgt := 34) C dX7_sellBlend_9 rfl rfl ⟨by omega, by omega⟩ (fun cc22 => absurd cc22 (by decide)) (fun _ => ?_)
        refine j_aload_n 0 C dX7_sellBlend_12 rfl rfl rfl ?_
        refine j_aload_n 0 C dX7_sellBlend_13 rfl rfl rfl ?_
        refine j_get C dX7_sellBlend_14 rfl fg_X7_80 h021 rfl ?_
        refine j_bipush C dX7_sellBlend_17 rfl (by decide) ?_
        refine j_icmp_ne (tgt := 26) C dX7_sellBlend_19 rfl rfl ⟨by omega, by omega⟩ ⟨by omega, by omega⟩ (fun cc23 => ?_) (fun cc23 => ?_)
        · refine j_iconst C dX7_sellBlend_26 rfl ?_
          refine j_iconst C dX7_sellBlend_27 rfl ?_
          refine j_callV (st' := []) (As := [vi (0), vi (4)]) C dX7_sellBlend_28 rfl m_X7_62 h021 rfl rfl rfl (c_thr0 (kL κ) hfl (kD κ) (kc κ) τ16 am bs ru se pf hd ca evs ln bl20 0 hN19 4) rfl (by omega) (by omega) (by omega) (fun _ _ hx => hx.elim) (fun v25 τ24 hp26 => ?_)
          obtain ⟨rfl, hN27, hN27k, hN27d⟩ := hp26
          show J κ τ24 [(0, .ref (am 0)), (1, vi ((i : Int))), (2, vi ((j : Int))), (3, vi (n)), (4, vi (x))] 31 [vi (0)] _ _
          have hN27K := hN19K.tr hN27k
          have hN27D := hN27d.trans hN19D
          obtain ⟨hI28, gc28, gm28, gr28, gp28, gb28, go28, gf28, gg28, gt28, gz28, gk28, gl28, _, _, _, h028, ⟨hgc28, hgm28, hgr28, hgp28, hgb28, hgo28, hgf28, hgg28, hgt28, hgz28, hgk28, hgl28⟩, ⟨rfl, rfl, rfl⟩, hBn28, hRu28, hPr28, hTr28, hKi28, hLi28⟩ := id hN27
          have hI := hI28
          have hnb628 := hBn28.1
          refine j_if_eq (tgt := 36) C dX7_sellBlend_31 rfl rfl ⟨by omega, by omega⟩ (fun _ => ?_) (fun cc29 => absurd cc29 (by decide))
          have hl : evs.length < 80 := by omega
          have hij : i ≠ j := by omega
          obtain ⟨-, hap, hOk⟩ := blend_ev hO hl hi hj hij (s := (bestF pf (fl (gB bs (i : Int))) (fl (gB bs (j : Int))) n (n * x)).2.1) (r := n - (bestF pf (fl (gB bs (i : Int))) (fl (gB bs (j : Int))) n (n * x)).2.1) ⟨by omega, by omega⟩ ⟨by omega, by omega⟩
          have hs1 := sums_in hprr hfoi (by omega) ((bestF pf (fl (gB bs (i : Int))) (fl (gB bs (j : Int))) n (n * x)).2.1)
          have hs2 := sums_in hprr hfoj (by omega) (n - (bestF pf (fl (gB bs (i : Int))) (fl (gB bs (j : Int))) n (n * x)).2.1)
          have hd1 := dirts_in hfoi (by omega) ((bestF pf (fl (gB bs (i : Int))) (fl (gB bs (j : Int))) n (n * x)).2.1)
          have hd2 := dirts_in hfoj (by omega) (n - (bestF pf (fl (gB bs (i : Int))) (fl (gB bs (j : Int))) n (n * x)).2.1)
          have hgm := gM_eq ru se (fl (gB bs (i : Int))) (fl (gB bs (j : Int))) n (bestF pf (fl (gB bs (i : Int))) (fl (gB bs (j : Int))) n (n * x)).2.1
          have hgi : 1 ≤ (gradeM ru se (fl (gB bs (i : Int))) (fl (gB bs (j : Int))) (bestF pf (fl (gB bs (i : Int))) (fl (gB bs (j : Int))) n (n * x)).2.1 (n - (bestF pf (fl (gB bs (i : Int))) (fl (gB bs (j : Int))) n (n * x)).2.1)) ∧ (gradeM ru se (fl (gB bs (i : Int))) (fl (gB bs (j : Int))) (bestF pf (fl (gB bs (i : Int))) (fl (gB bs (j : Int))) n (n * x)).2.1 (n - (bestF pf (fl (gB bs (i : Int))) (fl (gB bs (j : Int))) n (n * x)).2.1)) ≤ 4 := gradeF_in _ _ _ _
          have hmW : 0 ≤ mixW (fl (gB bs (i : Int))) (fl (gB bs (j : Int))) n (bestF pf (fl (gB bs (i : Int))) (fl (gB bs (j : Int))) n (n * x)).2.1 ∧ mixW (fl (gB bs (i : Int))) (fl (gB bs (j : Int))) n (bestF pf (fl (gB bs (i : Int))) (fl (gB bs (j : Int))) n (n * x)).2.1 ≤ 3000000 := by unfold mixW; omega
          have hmD : 0 ≤ mixD (fl (gB bs (i : Int))) (fl (gB bs (j : Int))) n (bestF pf (fl (gB bs (i : Int))) (fl (gB bs (j : Int))) n (n * x)).2.1 ∧ mixD (fl (gB bs (i : Int))) (fl (gB bs (j : Int))) n (bestF pf (fl (gB bs (i : Int))) (fl (gB bs (j : Int))) n (n * x)).2.1 ≤ 1000000 := by unfold mixD; omega
          refine j_aload_n 0 C dX7_sellBlend_36 rfl rfl rfl ?_
          refine j_iload_n 1 C dX7_sellBlend_37 rfl rfl rfl ?_
          refine j_iload_n 2 C dX7_sellBlend_38 rfl rfl rfl ?_
          refine j_iload_n 3 C dX7_sellBlend_39 rfl rfl rfl ?_
          refine j_iload 4 C dX7_sellBlend_40 rfl rfl ?_
          have hmwx := bm_in (n := n) (x := x) ⟨by omega, by omega⟩ ⟨by omega, by omega⟩
          refine j_callV (st' := []) (As := [vi ((i : Int)), vi ((j : Int)), vi (n), vi (x)]) C dX7_sellBlend_42 rfl m_X7_160 h028 rfl rfl rfl (c_share (kL κ) hfl (kD κ) (kc κ) τ24 am bs ru se pf hd ca evs ln bl20 0 hN27 i j hi hj hlyi hlyj hprr (by omega) (by omega) n x ⟨by omega, by omega⟩ hmwx) rfl (by omega) (by omega) (by omega) (fun _ _ hx => hx.elim) (fun v31 τ30 hp32 => ?_)
          obtain ⟨rfl, ⟨bl34, hN33⟩, hN33k, hN33d⟩ := hp32
          show J κ τ30 [(0, .ref (am 0)), (1, vi ((i : Int))), (2, vi ((j : Int))), (3, vi (n)), (4, vi (x))] 45 [vi ((bsO (bestF pf (fl (gB bs (i : Int))) (fl (gB bs (j : Int))) n (x * n))))] _ _
          have hN33K := hN27K.tr hN33k
          have hN33D := hN33d.trans hN27D
          obtain ⟨hI35, gc35, gm35, gr35, gp35, gb35, go35, gf35, gg35, gt35, gz35, gk35, gl35, _, _, _, h035, ⟨hgc35, hgm35, hgr35, hgp35, hgb35, hgo35, hgf35, hgg35, hgt35, hgz35, hgk35, hgl35⟩, ⟨rfl, rfl, rfl⟩, hBn35, hRu35, hPr35, hTr35, hKi35, hLi35⟩ := id hN33
          have hI := hI35
          have hnb635 := hBn35.1
          rw [Int.mul_comm x n]
          rw [show bsO (bestF pf (fl (gB bs (i : Int))) (fl (gB bs (j : Int))) n (n * x)) = (bestF pf (fl (gB bs (i : Int))) (fl (gB bs (j : Int))) n (n * x)).2.1 from if_pos hf]
          refine j_istore (lv' := [(0, .ref (am 0)), (1, vi ((i : Int))), (2, vi ((j : Int))), (3, vi (n)), (4, vi (x)), (5, vi ((bestF pf (fl (gB bs (i : Int))) (fl (gB bs (j : Int))) n (n * x)).2.1))]) [1, 2, 3, 4, 5, 0] C dX7_sellBlend_45 rfl rfl rfl ?_
          refine j_aload_n 0 C dX7_sellBlend_47 rfl rfl rfl ?_
          refine j_iload_n 1 C dX7_sellBlend_48 rfl rfl rfl ?_
          refine j_iload_n 2 C dX7_sellBlend_49 rfl rfl rfl ?_
          refine j_iload 5 C dX7_sellBlend_50 rfl rfl ?_
          refine j_iload_n 3 C dX7_sellBlend_52 rfl rfl rfl ?_
          refine j_callV (st' := []) (As := [vi ((i : Int)), vi ((j : Int)), vi ((bestF pf (fl (gB bs (i : Int))) (fl (gB bs (j : Int))) n (n * x)).2.1), vi (n)]) C dX7_sellBlend_53 rfl m_X7_157 h035 rfl rfl rfl (c_blends2 (kL κ) hfl (kD κ) (kc κ) τ30 am bs ru se pf hd ca evs ln bl34 0 hN33 i j hi hj hlyi hlyj ((bestF pf (fl (gB bs (i : Int))) (fl (gB bs (j : Int))) n (n * x)).2.1) n ⟨by omega, by omega⟩ ⟨by omega, by omega⟩) rfl (by omega) (by omega) (by omega) (fun _ _ hx => hx.elim) (fun v37 τ36 hp38 => ?_)
          obtain ⟨rfl, hN39, hN39k, hN39d⟩ := hp38
          show J κ τ36 [(0, .ref (am 0)), (1, vi ((i : Int))), (2, vi ((j : Int))), (3, vi (n)), (4, vi (x)), (5, vi ((bestF pf (fl (gB bs (i : Int))) (fl (gB bs (j : Int))) n (n * x)).2.1))] 56 [] _ _
          have hN39K := hN33K.tr hN39k
          have hN39D := hN39d.trans hN33D
          obtain ⟨hI40, gc40, gm40, gr40, gp40, gb40, go40, gf40, gg40, gt40, gz40, gk40, gl40, _, _, _, h040, ⟨hgc40, hgm40, hgr40, hgp40, hgb40, hgo40, hgf40, hgg40, hgt40, hgz40, hgk40, hgl40⟩, ⟨rfl, rfl, rfl⟩, hBn40, hRu40, hPr40, hTr40, hKi40, hLi40⟩ := id hN39
          have hI := hI40
          have hnb640 := hBn40.1
          have h0y : has τ36 (am 0) (.inr (7, [.ref (am 1), .ref (am 2), .ref (am 3), .ref (am 4), .ref (am 5), .ref (am 6), .ref (am 7), .ref (am 8), .ref (am 9), .ref (am 10), .ref (am 11), .ref (am 12), vi ((bs.length : Int)), vi (se), vi ((evs.length : Int)), vi (hd.2.1), vi (hd.2.2.2.1), vi (hd.2.2.1), vi ((ln.length : Int)), vi ((mixW (fl (gB bs (i : Int))) (fl (gB bs (j : Int))) n (bestF pf (fl (gB bs (i : Int))) (fl (gB bs (j : Int))) n (n * x)).2.1)), vi ((mixD (fl (gB bs (i : Int))) (fl (gB bs (j : Int))) n (bestF pf (fl (gB bs (i : Int))) (fl (gB bs (j : Int))) n (n * x)).2.1)), vi ((mixB pf (fl (gB bs (i : Int))) (fl (gB bs (j : Int))) n (bestF pf (fl (gB bs (i : Int))) (fl (gB bs (j : Int))) n (n * x)).2.1).2.2), vi (0), vl (hd.2.2.2.2), vl (ca)])) := h040
          refine j_aload_n 0 C dX7_sellBlend_56 rfl rfl rfl ?_
          refine j_aload_n 0 C dX7_sellBlend_57 rfl rfl rfl ?_
          refine j_get C dX7_sellBlend_58 rfl fg_X7_141 h0y rfl ?_
          refine j_iload_n 3 C dX7_sellBlend_61 rfl rfl rfl ?_
          refine j_iadd C dX7_sellBlend_62 rfl ?_
          refine j_iconst C dX7_sellBlend_63 rfl ?_
          refine j_isub C dX7_sellBlend_64 rfl ?_
          refine j_iload_n 3 C dX7_sellBlend_65 rfl rfl rfl ?_
          refine j_idiv C dX7_sellBlend_66 rfl ⟨by omega, by omega⟩ ⟨by omega, by omega⟩ ?_
          refine j_aload_n 0 C dX7_sellBlend_67 rfl rfl rfl ?_
          refine j_get C dX7_sellBlend_68 rfl fg_X7_144 h0y rfl ?_
          refine j_iload_n 3 C dX7_sellBlend_71 rfl rfl rfl ?_
          refine j_iadd C dX7_sellBlend_72 rfl ?_
          refine j_iconst C dX7_sellBlend_73 rfl ?_
          refine j_isub C dX7_sellBlend_74 rfl ?_
          refine j_iload_n 3 C dX7_sellBlend_75 rfl rfl rfl ?_
          refine j_idiv C dX7_sellBlend_76 rfl ⟨by omega, by omega⟩ ⟨by omega, by omega⟩ ?_
          have hdv1 : 0 ≤ ((((mixW (fl (gB bs (i : Int))) (fl (gB bs (j : Int))) n (bestF pf (fl (gB bs (i : Int))) (fl (gB bs (j : Int))) n (n * x)).2.1) + n) - 1) / n) ∧ ((((mixW (fl (gB bs (i : Int))) (fl (gB bs (j : Int))) n (bestF pf (fl (gB bs (i : Int))) (fl (gB bs (j : Int))) n (n * x)).2.1) + n) - 1) / n) ≤ 4000000 := ⟨Int.ediv_nonneg (by omega) (by omega), Int.le_trans (Int.ediv_le_self _ (by omega)) (by omega)⟩
          have hdv2 : 0 ≤ ((((mixD (fl (gB bs (i : Int))) (fl (gB bs (j : Int))) n (bestF pf (fl (gB bs (i : Int))) (fl (gB bs (j : Int))) n (n * x)).2.1) + n) - 1) / n) ∧ ((((mixD (fl (gB bs (i : Int))) (fl (gB bs (j : Int))) n (bestF pf (fl (gB bs (i : Int))) (fl (gB bs (j : Int))) n (n * x)).2.1) + n) - 1) / n) ≤ 4000000 := ⟨Int.ediv_nonneg (by omega) (by omega), Int.le_trans (Int.ediv_le_self _ (by omega)) (by omega)⟩
          refine j_callV (st' := []) (As := [vi ((((mixW (fl (gB bs (i : Int))) (fl (gB bs (j : Int))) n (bestF pf (fl (gB bs (i : Int))) (fl (gB bs (j : Int))) n (n * x)).2.1) + n) - 1) / n), vi ((((mixD (fl (gB bs (i : Int))) (fl (gB bs (j : Int))) n (bestF pf (fl (gB bs (i : Int))) (fl (gB bs (j : Int))) n (n * x)).2.1) + n) - 1) / n)]) C dX7_sellBlend_77 rfl m_X7_76 h0y rfl rfl rfl (c_graded (kL κ) hfl (kD κ) (kc κ) τ36 am bs ru se pf hd ca evs ln (mixB pf (fl (gB bs (i : Int))) (fl (gB bs (j : Int))) n (bestF pf (fl (gB bs (i : Int))) (fl (gB bs (j : Int))) n (n * x)).2.1) 0 hN39 ((((mixW (fl (gB bs (i : Int))) (fl (gB bs (j : Int))) n (bestF pf (fl (gB bs (i : Int))) (fl (gB bs (j : Int))) n (n * x)).2.1) + n) - 1) / n) ((((mixD (fl (gB bs (i : Int))) (fl (gB bs (j : Int))) n (bestF pf (fl (gB bs (i : Int))) (fl (gB bs (j : Int))) n (n * x)).2.1) + n) - 1) / n) ⟨by omega, by omega⟩ ⟨by omega, by omega⟩) rfl (by omega) (by omega) (by omega) (fun _ _ hx => hx.elim) (fun v42 τ41 hp43 => ?_)
          obtain ⟨rfl, hs9⟩ := hp43
          replace hs9 := hs9.symm
          subst hs9
          show J κ τ36 [(0, .ref (am 0)), (1, vi ((i : Int))), (2, vi ((j : Int))), (3, vi (n)), (4, vi (x)), (5, vi ((bestF pf (fl (gB bs (i : Int))) (fl (gB bs (j : Int))) n (n * x)).2.1))] 80 [vi ((gradeF ru se ((((mixW (fl (gB bs (i : Int))) (fl (gB bs (j : Int))) n (bestF pf (fl (gB bs (i : Int))) (fl (gB bs (j : Int))) n (n * x)).2.1) + n) - 1) / n) ((((mixD (fl (gB bs (i : Int))) (fl (gB bs (j : Int))) n (bestF pf (fl (gB bs (i : Int))) (fl (gB bs (j : Int))) n (n * x)).2.1) + n) - 1) / n)))] _ _
          rw [← hgm]
          refine j_istore (lv' := [(0, .ref (am 0)), (1, vi ((i : Int))), (2, vi ((j : Int))), (3, vi (n)), (4, vi (x)), (5, vi ((bestF pf (fl (gB bs (i : Int))) (fl (gB bs (j : Int))) n (n * x)).2.1)), (6, vi ((gradeM ru se (fl (gB bs (i : Int))) (fl (gB bs (j : Int))) (bestF pf (fl (gB bs (i : Int))) (fl (gB bs (j : Int))) n (n * x)).2.1 (n - (bestF pf (fl (gB bs (i : Int))) (fl (gB bs (j : Int))) n (n * x)).2.1))))]) [1, 2, 3, 4, 5, 6, 0] C dX7_sellBlend_80 rfl rfl rfl ?_
          refine j_aload_n 0 C dX7_sellBlend_82 rfl rfl rfl ?_
          refine j_iload_n 1 C dX7_sellBlend_83 rfl rfl rfl ?_
          refine j_iload 5 C dX7_sellBlend_84 rfl rfl ?_
          refine j_iconst C dX7_sellBlend_86 rfl ?_
          refine j_callV (st' := []) (As := [vi ((i : Int)), vi ((bestF pf (fl (gB bs (i : Int))) (fl (gB bs (j : Int))) n (n * x)).2.1), vi (-1)]) C dX7_sellBlend_87 rfl m_X7_121 h0y rfl rfl rfl (c_flowsN (kL κ) hfl (kD κ) (kc κ) τ36 am bs ru se pf hd ca evs ln (mixB pf (fl (gB bs (i : Int))) (fl (gB bs (j : Int))) n (bestF pf (fl (gB bs (i : Int))) (fl (gB bs (j : Int))) n (n * x)).2.1) 0 hN39 i hi hlyi ((bestF pf (fl (gB bs (i : Int))) (fl (gB bs (j : Int))) n (n * x)).2.1) ⟨by omega, by omega⟩) rfl (by omega) (by omega) (by omega) (fun _ _ hx => hx.elim) (fun v45 τ44 hp46 => ?_)
          obtain ⟨rfl, hN47, hN47k, hN47d⟩ := hp46
          show J κ τ44 [(0, .ref (am 0)), (1, vi ((i : Int))), (2, vi ((j : Int))), (3, vi (n)), (4, vi (x)), (5, vi ((bestF pf (fl (gB bs (i : Int))) (fl (gB bs (j : Int))) n (n * x)).2.1)), (6, vi ((gradeM ru se (fl (gB bs (i : Int))) (fl (gB bs (j : Int))) (bestF pf (fl (gB bs (i : Int))) (fl (gB bs (j : Int))) n (n * x)).2.1 (n - (bestF pf (fl (gB bs (i : Int))) (fl (gB bs (j : Int))) n (n * x)).2.1))))] 90 [vi ((sumL (cf pf) (takeL ((bestF pf (fl (gB bs (i : Int))) (fl (gB bs (j : Int))) n (n * x)).2.1) (fl (gB bs (i : Int))))))] _ _
          have hN47K := hN39K.tr hN47k
          have hN47D := hN47d.trans hN39D
          obtain ⟨hI48, gc48, gm48, gr48, gp48, gb48, go48, gf48, gg48, gt48, gz48, gk48, gl48, _, _, _, h048, ⟨hgc48, hgm48, hgr48, hgp48, hgb48, hgo48, hgf48, hgg48, hgt48, hgz48, hgk48, hgl48⟩, ⟨rfl, rfl, rfl⟩, hBn48, hRu48, hPr48, hTr48, hKi48, hLi48⟩ := id hN47
          have hI := hI48
          have hnb648 := hBn48.1
          refine j_aload_n 0 C dX7_sellBlend_90 rfl rfl rfl ?_
          refine j_iload_n 2 C dX7_sellBlend_91 rfl rfl rfl ?_
          refine j_iload_n 3 C dX7_sellBlend_92 rfl rfl rfl ?_
          refine j_iload 5 C dX7_sellBlend_93 rfl rfl ?_
          refine j_isub C dX7_sellBlend_95 rfl ?_
          refine j_iconst C dX7_sellBlend_96 rfl ?_
          have hjo : j < (outB bs (i : Int) ((bestF pf (fl (gB bs (i : Int))) (fl (gB bs (j : Int))) n (n * x)).2.1)).length := by rw [outB_len]; exact hj
          have hgo : gB (outB bs (i : Int) ((bestF pf (fl (gB bs (i : Int))) (fl (gB bs (j : Int))) n (n * x)).2.1)) j = gB bs j := gB_outN hi (Ne.symm hij)
          refine j_callV (st' := [vi ((sumL (cf pf) (takeL ((bestF pf (fl (gB bs (i : Int))) (fl (gB bs (j : Int))) n (n * x)).2.1) (fl (gB bs (i : Int))))))]) (As := [vi ((j : Int)), vi (n - ((bestF pf (fl (gB bs (i : Int))) (fl (gB bs (j : Int))) n (n * x)).2.1)), vi (-1)]) C dX7_sellBlend_97 rfl m_X7_121 h048 rfl rfl rfl (c_flowsN (kL κ) hfl (kD κ) (kc κ) τ44 am (outB bs (i : Int) ((bestF pf (fl (gB bs (i : Int))) (fl (gB bs (j : Int))) n (n * x)).2.1)) ru se pf hd ca evs ln (mixB pf (fl (gB bs (i : Int))) (fl (gB bs (j : Int))) n (bestF pf (fl (gB bs (i : Int))) (fl (gB bs (j : Int))) n (n * x)).2.1) 0 hN47 j hjo (by rw [hgo]; exact hlyj) (n - (bestF pf (fl (gB bs (i : Int))) (fl (gB bs (j : Int))) n (n * x)).2.1) ⟨by omega, by omega⟩) rfl (by omega) (by omega) (by omega) (fun _ _ hx => hx.elim) (fun v50 τ49 hp51 => ?_)
          obtain ⟨rfl, hN52, hN52k, hN52d⟩ := hp51
          rw [← hap] at hN52
          show J κ τ49 [(0, .ref (am 0)), (1, vi ((i : Int))), (2, vi ((j : Int))), (3, vi (n)), (4, vi (x)), (5, vi ((bestF pf (fl (gB bs (i : Int))) (fl (gB bs (j : Int))) n (n * x)).2.1)), (6, vi ((gradeM ru se (fl (gB bs (i : Int))) (fl (gB bs (j : Int))) (bestF pf (fl (gB bs (i : Int))) (fl (gB bs (j : Int))) n (n * x)).2.1 (n - (bestF pf (fl (gB bs (i : Int))) (fl (gB bs (j : Int))) n (n * x)).2.1))))] 100 [vi ((sumL (cf pf) (takeL (n - (bestF pf (fl (gB bs (i : Int))) (fl (gB bs (j : Int))) n (n * x)).2.1) (fl (gB (outB bs (i : Int) ((bestF pf (fl (gB bs (i : Int))) (fl (gB bs (j : Int))) n (n * x)).2.1)) (j : Int)))))), vi ((sumL (cf pf) (takeL ((bestF pf (fl (gB bs (i : Int))) (fl (gB bs (j : Int))) n (n * x)).2.1) (fl (gB bs (i : Int))))))] _ _
          have hN52K := hN47K.tr hN52k
          have hN52D := hN52d.trans hN47D
          obtain ⟨hI53, gc53, gm53, gr53, gp53, gb53, go53, gf53, gg53, gt53, gz53, gk53, gl53, _, _, _, h053, ⟨hgc53, hgm53, hgr53, hgp53, hgb53, hgo53, hgf53, hgg53, hgt53, hgz53, hgk53, hgl53⟩, ⟨rfl, rfl, rfl⟩, hBn53, hRu53, hPr53, hTr53, hKi53, hLi53⟩ := id hN52
          have hI := hI53
          have hnb653 := hBn53.1
          rw [hgo]
          refine j_iadd C dX7_sellBlend_100 rfl ?_
          refine j_istore (lv' := [(0, .ref (am 0)), (1, vi ((i : Int))), (2, vi ((j : Int))), (3, vi (n)), (4, vi (x)), (5, vi ((bestF pf (fl (gB bs (i : Int))) (fl (gB bs (j : Int))) n (n * x)).2.1)), (6, vi ((gradeM ru se (fl (gB bs (i : Int))) (fl (gB bs (j : Int))) (bestF pf (fl (gB bs (i : Int))) (fl (gB bs (j : Int))) n (n * x)).2.1 (n - (bestF pf (fl (gB bs (i : Int))) (fl (gB bs (j : Int))) n (n * x)).2.1)))), (7, vi ((sumL (cf pf) (takeL ((bestF pf (fl (gB bs (i : Int))) (fl (gB bs (j : Int))) n (n * x)).2.1) (fl (gB bs (i : Int))))) + (sumL (cf pf) (takeL (n - (bestF pf (fl (gB bs (i : Int))) (fl (gB bs (j : Int))) n (n * x)).2.1) (fl (gB bs (j : Int)))))))]) [1, 2, 3, 4, 5, 6, 7, 0] C dX7_sellBlend_101 rfl rfl rfl ?_
          refine j_iload_n 3 C dX7_sellBlend_103 rfl rfl rfl ?_
          refine j_aload_n 0 C dX7_sellBlend_104 rfl rfl rfl ?_
          refine j_get C dX7_sellBlend_105 rfl fg_X7_19 h053 rfl ?_
          refine j_iload 6 C dX7_sellBlend_108 rfl rfl ?_
          refine j_iconst C dX7_sellBlend_110 rfl ?_
          refine j_isub C dX7_sellBlend_111 rfl ?_
          refine j_iald C dX7_sellBlend_112 rfl hgp53 ⟨by omega, by omega⟩ (by omega) (prK hPr53 (g := (gradeM ru se (fl (gB bs (i : Int))) (fl (gB bs (j : Int))) (bestF pf (fl (gB bs (i : Int))) (fl (gB bs (j : Int))) n (n * x)).2.1 (n - (bestF pf (fl (gB bs (i : Int))) (fl (gB bs (j : Int))) n (n * x)).2.1))) ⟨by omega, by omega⟩ (z := (gradeM ru se (fl (gB bs (i : Int))) (fl (gB bs (j : Int))) (bestF pf (fl (gB bs (i : Int))) (fl (gB bs (j : Int))) n (n * x)).2.1 (n - (bestF pf (fl (gB bs (i : Int))) (fl (gB bs (j : Int))) n (n * x)).2.1)) - 1) (by omega)) ?_
          refine j_imul C dX7_sellBlend_113 rfl ?_
          refine j_istore (lv' := [(0, .ref (am 0)), (1, vi ((i : Int))), (2, vi ((j : Int))), (3, vi (n)), (4, vi (x)), (5, vi ((bestF pf (fl (gB bs (i : Int))) (fl (gB bs (j : Int))) n (n * x)).2.1)), (6, vi ((gradeM ru se (fl (gB bs (i : Int))) (fl (gB bs (j : Int))) (bestF pf (fl (gB bs (i : Int))) (fl (gB bs (j : Int))) n (n * x)).2.1 (n - (bestF pf (fl (gB bs (i : Int))) (fl (gB bs (j : Int))) n (n * x)).2.1)))), (7, vi ((sumL (cf pf) (takeL ((bestF pf (fl (gB bs (i : Int))) (fl (gB bs (j : Int))) n (n * x)).2.1) (fl (gB bs (i : Int))))) + (sumL (cf pf) (takeL (n - (bestF pf (fl (gB bs (i : Int))) (fl (gB bs (j : Int))) n (n * x)).2.1) (fl (gB bs (j : Int))))))), (8, vi (n * (pf (gradeM ru se (fl (gB bs (i : Int))) (fl (gB bs (j : Int))) (bestF pf (fl (gB bs (i : Int))) (fl (gB bs (j : Int))) n (n * x)).2.1 (n - (bestF pf (fl (gB bs (i : Int))) (fl (gB bs (j : Int))) n (n * x)).2.1)).toNat)))]) [1, 2, 3, 4, 5, 6, 7, 8, 0] C dX7_sellBlend_114 rfl rfl rfl ?_
          refine j_aload_n 0 C dX7_sellBlend_116 rfl rfl rfl ?_
          refine j_dup C dX7_sellBlend_117 rfl rfl ?_
          refine j_get C dX7_sellBlend_118 rfl fg_X7_101 h053 rfl ?_
          refine j_iload 8 C dX7_sellBlend_121 rfl rfl ?_
          have hp9 := hprr (gradeM ru se (fl (gB bs (i : Int))) (fl (gB bs (j : Int))) (bestF pf (fl (gB bs (i : Int))) (fl (gB bs (j : Int))) n (n * x)).2.1 (n - (bestF pf (fl (gB bs (i : Int))) (fl (gB bs (j : Int))) n (n * x)).2.1)).toNat (by omega)
          have hp8 := mul_in (n := n) (p := pf (gradeM ru se (fl (gB bs (i : Int))) (fl (gB bs (j : Int))) (bestF pf (fl (gB bs (i : Int))) (fl (gB bs (j : Int))) n (n * x)).2.1 (n - (bestF pf (fl (gB bs (i : Int))) (fl (gB bs (j : Int))) n (n * x)).2.1)).toNat) ⟨by omega, by omega⟩ hp9
          refine j_i2l C dX7_sellBlend_123 rfl ⟨by omega, by omega⟩ ?_
          refine j_ladd C dX7_sellBlend_124 rfl ?_
          refine j_put (fs' := [.ref (am 1), .ref (am 2), .ref (am 3), .ref (am 4), .ref (am 5), .ref (am 6), .ref (am 7), .ref (am 8), .ref (am 9), .ref (am 10), .ref (am 11), .ref (am 12), vi (((apB (gradeF ru se) bs (98, (i : Int), (j : Int), (bestF pf (fl (gB bs (i : Int))) (fl (gB bs (j : Int))) n (n * x)).2.1, n - (bestF pf (fl (gB bs (i : Int))) (fl (gB bs (j : Int))) n (n * x)).2.1, 0, 0)).length : Int)), vi (se), vi ((evs.length : Int)), vi (hd.2.1), vi (hd.2.2.2.1), vi (hd.2.2.1), vi ((ln.length : Int)), vi ((mixB pf (fl (gB bs (i : Int))) (fl (gB bs (j : Int))) n (bestF pf (fl (gB bs (i : Int))) (fl (gB bs (j : Int))) n (n * x)).2.1).1), vi ((mixB pf (fl (gB bs (i : Int))) (fl (gB bs (j : Int))) n (bestF pf (fl (gB bs (i : Int))) (fl (gB bs (j : Int))) n (n * x)).2.1).2.1), vi ((mixB pf (fl (gB bs (i : Int))) (fl (gB bs (j : Int))) n (bestF pf (fl (gB bs (i : Int))) (fl (gB bs (j : Int))) n (n * x)).2.1).2.2), vi (0), vl (hd.2.2.2.2), vl (ca + (n * (pf (gradeM ru se (fl (gB bs (i : Int))) (fl (gB bs (j : Int))) (bestF pf (fl (gB bs (i : Int))) (fl (gB bs (j : Int))) n (n * x)).2.1 (n - (bestF pf (fl (gB bs (i : Int))) (fl (gB bs (j : Int))) n (n * x)).2.1)).toNat)))]) C dX7_sellBlend_125 rfl fa_X7_101 h053 rfl rfl rfl rfl (fun τ54 ee55 => ?_)
          have u56 : has τ54 (am 0) (.inr (7, [.ref (am 1), .ref (am 2), .ref (am 3), .ref (am 4), .ref (am 5), .ref (am 6), .ref (am 7), .ref (am 8), .ref (am 9), .ref (am 10), .ref (am 11), .ref (am 12), vi (((apB (gradeF ru se) bs (98, (i : Int), (j : Int), (bestF pf (fl (gB bs (i : Int))) (fl (gB bs (j : Int))) n (n * x)).2.1, n - (bestF pf (fl (gB bs (i : Int))) (fl (gB bs (j : Int))) n (n * x)).2.1, 0, 0)).length : Int)), vi (se), vi ((evs.length : Int)), vi (hd.2.1), vi (hd.2.2.2.1), vi (hd.2.2.1), vi ((ln.length : Int)), vi ((mixB pf (fl (gB bs (i : Int))) (fl (gB bs (j : Int))) n (bestF pf (fl (gB bs (i : Int))) (fl (gB bs (j : Int))) n (n * x)).2.1).1), vi ((mixB pf (fl (gB bs (i : Int))) (fl (gB bs (j : Int))) n (bestF pf (fl (gB bs (i : Int))) (fl (gB bs (j : Int))) n (n * x)).2.1).2.1), vi ((mixB pf (fl (gB bs (i : Int))) (fl (gB bs (j : Int))) n (bestF pf (fl (gB bs (i : Int))) (fl (gB bs (j : Int))) n (n * x)).2.1).2.2), vi (0), vl (hd.2.2.2.2), vl (ca + (n * (pf (gradeM ru se (fl (gB bs (i : Int))) (fl (gB bs (j : Int))) (bestF pf (fl (gB bs (i : Int))) (fl (gB bs (j : Int))) n (n * x)).2.1 (n - (bestF pf (fl (gB bs (i : Int))) (fl (gB bs (j : Int))) n (n * x)).2.1)).toNat)))])) := h053.self' ee55
          have u57 := hgc53.ne' ee55 (hI 1 0 (by decide) (by decide) (by decide))
          have u58 := hgm53.ne' ee55 (hI 2 0 (by decide) (by decide) (by decide))
          have u59 := hgr53.ne' ee55 (hI 3 0 (by decide) (by decide) (by decide))
          have u60 := hgp53.ne' ee55 (hI 4 0 (by decide) (by decide) (by decide))
          have u61 := hgb53.ne' ee55 (hI 5 0 (by decide) (by decide) (by decide))
          have u62 := hgo53.ne' ee55 (hI 6 0 (by decide) (by decide) (by decide))
          have u63 := hgf53.ne' ee55 (hI 7 0 (by decide) (by decide) (by decide))
          have u64 := hgg53.ne' ee55 (hI 8 0 (by decide) (by decide) (by decide))
          have u65 := hgt53.ne' ee55 (hI 9 0 (by decide) (by decide) (by decide))
          have u66 := hgz53.ne' ee55 (hI 10 0 (by decide) (by decide) (by decide))
          have u67 := hgk53.ne' ee55 (hI 11 0 (by decide) (by decide) (by decide))
          have u68 := hgl53.ne' ee55 (hI 12 0 (by decide) (by decide) (by decide))
          have kp69 := hN52K.put ee55 ⟨0, by decide, rfl⟩
          have dm70 := (dom_put ee55).trans hN52D
          refine j_aload_n 0 C dX7_sellBlend_128 rfl rfl rfl ?_
          refine j_bipush C dX7_sellBlend_129 rfl (by decide) ?_
          have hMc : RM (kc κ) τ54 am (apB (gradeF ru se) bs (98, (i : Int), (j : Int), (bestF pf (fl (gB bs (i : Int))) (fl (gB bs (j : Int))) n (n * x)).2.1, n - (bestF pf (fl (gB bs (i : Int))) (fl (gB bs (j : Int))) n (n * x)).2.1, 0, 0)) ru se pf hd (ca + (n * (pf (gradeM ru se (fl (gB bs (i : Int))) (fl (gB bs (j : Int))) (bestF pf (fl (gB bs (i : Int))) (fl (gB bs (j : Int))) n (n * x)).2.1 (n - (bestF pf (fl (gB bs (i : Int))) (fl (gB bs (j : Int))) n (n * x)).2.1)).toNat))) evs ln (mixB pf (fl (gB bs (i : Int))) (fl (gB bs (j : Int))) n (bestF pf (fl (gB bs (i : Int))) (fl (gB bs (j : Int))) n (n * x)).2.1) 0 := ⟨hI, _, _, _, _, _, _, _, _, _, _, _, _, _, _, _, u56, ⟨u57, u58, u59, u60, u61, u62, u63, u64, u65, u66, u67, u68⟩, ⟨rfl, rfl, rfl⟩, hBn53, hRu53, hPr53, hTr53, hKi53, hLi53⟩
          rw [show ca + (n * (pf (gradeM ru se (fl (gB bs (i : Int))) (fl (gB bs (j : Int))) (bestF pf (fl (gB bs (i : Int))) (fl (gB bs (j : Int))) n (n * x)).2.1 (n - (bestF pf (fl (gB bs (i : Int))) (fl (gB bs (j : Int))) n (n * x)).2.1)).toNat)) = ca + n * pf (gradeM ru se (fl (gB bs (i : Int))) (fl (gB bs (j : Int))) (bestF pf (fl (gB bs (i : Int))) (fl (gB bs (j : Int))) n (n * x)).2.1 (n - (bestF pf (fl (gB bs (i : Int))) (fl (gB bs (j : Int))) n (n * x)).2.1)).toNat from rfl] at hMc
          have hTA := totB_in hOk.2.1
          have hA6 := hOk.1
          refine j_callV (st' := []) (As := [vi (98)]) C dX7_sellBlend_131 rfl m_X7_105 u56 rfl rfl rfl (c_notes (kL κ) hfl (kD κ) (kc κ) τ54 am (apB (gradeF ru se) bs (98, (i : Int), (j : Int), (bestF pf (fl (gB bs (i : Int))) (fl (gB bs (j : Int))) n (n * x)).2.1, n - (bestF pf (fl (gB bs (i : Int))) (fl (gB bs (j : Int))) n (n * x)).2.1, 0, 0)) ru se pf hd (ca + n * pf (gradeM ru se (fl (gB bs (i : Int))) (fl (gB bs (j : Int))) (bestF pf (fl (gB bs (i : Int))) (fl (gB bs (j : Int))) n (n * x)).2.1 (n - (bestF pf (fl (gB bs (i : Int))) (fl (gB bs (j : Int))) n (n * x)).2.1)).toNat) evs ln (mixB pf (fl (gB bs (i : Int))) (fl (gB bs (j : Int))) n (bestF pf (fl (gB bs (i : Int))) (fl (gB bs (j : Int))) n (n * x)).2.1) 0 hMc (98, (i : Int), (j : Int), (bestF pf (fl (gB bs (i : Int))) (fl (gB bs (j : Int))) n (n * x)).2.1, n - (bestF pf (fl (gB bs (i : Int))) (fl (gB bs (j : Int))) n (n * x)).2.1, 0, 0) nar_b (⟨by decide, by decide⟩ : (0 : Int) ≤ 98 ∧ (98 : Int) < 128) hl (by omega) ⟨by omega, by omega⟩ ⟨by omega, by omega⟩) rfl (by omega) (by omega) (by omega) (fun _ _ hx => hx.elim) (fun v72 τ71 hp73 => ?_)
          obtain ⟨rfl, hN74, hN74k, hN74d⟩ := hp73
          show J κ τ71 [(0, .ref (am 0)), (1, vi ((i : Int))), (2, vi ((j : Int))), (3, vi (n)), (4, vi (x)), (5, vi ((bestF pf (fl (gB bs (i : Int))) (fl (gB bs (j : Int))) n (n * x)).2.1)), (6, vi ((gradeM ru se (fl (gB bs (i : Int))) (fl (gB bs (j : Int))) (bestF pf (fl (gB bs (i : Int))) (fl (gB bs (j : Int))) n (n * x)).2.1 (n - (bestF pf (fl (gB bs (i : Int))) (fl (gB bs (j : Int))) n (n * x)).2.1)))), (7, vi ((sumL (cf pf) (takeL ((bestF pf (fl (gB bs (i : Int))) (fl (gB bs (j : Int))) n (n * x)).2.1) (fl (gB bs (i : Int))))) + (sumL (cf pf) (takeL (n - (bestF pf (fl (gB bs (i : Int))) (fl (gB bs (j : Int))) n (n * x)).2.1) (fl (gB bs (j : Int))))))), (8, vi (n * (pf (gradeM ru se (fl (gB bs (i : Int))) (fl (gB bs (j : Int))) (bestF pf (fl (gB bs (i : Int))) (fl (gB bs (j : Int))) n (n * x)).2.1 (n - (bestF pf (fl (gB bs (i : Int))) (fl (gB bs (j : Int))) n (n * x)).2.1)).toNat)))] 134 [] _ _
          have hN74K := kp69.tr hN74k
          have hN74D := hN74d.trans dm70
          obtain ⟨hI75, gc75, gm75, gr75, gp75, gb75, go75, gf75, gg75, gt75, gz75, gk75, gl75, _, _, _, h075, ⟨hgc75, hgm75, hgr75, hgp75, hgb75, hgo75, hgf75, hgg75, hgt75, hgz75, hgk75, hgl75⟩, ⟨rfl, rfl, rfl⟩, hBn75, hRu75, hPr75, hTr75, hKi75, hLi75⟩ := id hN74
          have hI := hI75
          have hnb675 := hBn75.1
          refine j_iload 7 C dX7_sellBlend_134 rfl rfl ?_
          refine j_if_ge (tgt := 143) C dX7_sellBlend_136 rfl rfl ⟨by omega, by omega⟩ (fun cc76 => ?_) (fun cc76 => ?_)
          · refine j_iload 8 C dX7_sellBlend_143 rfl rfl ?_
            have ho : o_sellBlend bs ru se pf hd ca evs ln (i : Int) (j : Int) n x = (0, n * pf (gradeM ru se (fl (gB bs (i : Int))) (fl (gB bs (j : Int))) (bestF pf (fl (gB bs (i : Int))) (fl (gB bs (j : Int))) n (n * x)).2.1 (n - (bestF pf (fl (gB bs (i : Int))) (fl (gB bs (j : Int))) n (n * x)).2.1)).toNat, evS bs ru se pf hd ca evs ln (98, (i : Int), (j : Int), (bestF pf (fl (gB bs (i : Int))) (fl (gB bs (j : Int))) n (n * x)).2.1, n - (bestF pf (fl (gB bs (i : Int))) (fl (gB bs (j : Int))) n (n * x)).2.1, 0, 0) (n * pf (gradeM ru se (fl (gB bs (i : Int))) (fl (gB bs (j : Int))) (bestF pf (fl (gB bs (i : Int))) (fl (gB bs (j : Int))) n (n * x)).2.1 (n - (bestF pf (fl (gB bs (i : Int))) (fl (gB bs (j : Int))) n (n * x)).2.1)).toNat)) := by unfold o_sellBlend; rw [if_neg (by omega), if_neg (by omega), if_neg (fun z => z hf), if_neg (by omega)]
            exact j_iret C E dX7_sellBlend_145 (by omega) (by omega) ⟨_, rfl, by rw [ho]; exact fun _ => rfl, ⟨_, by rw [ho]; exact hN74⟩, hN74K, hN74D⟩
          · refine j_iconst C dX7_sellBlend_139 rfl ?_
            refine j_goto (tgt := 145) C dX7_sellBlend_140 rfl ?_
            exfalso
            omega
        · refine j_iconst C dX7_sellBlend_22 rfl ?_
          refine j_goto (tgt := 27) C dX7_sellBlend_23 rfl ?_
          refine j_iconst C dX7_sellBlend_27 rfl ?_
          refine j_callV (st' := []) (As := [vi (1), vi (4)]) C dX7_sellBlend_28 rfl m_X7_62 h021 rfl rfl rfl (c_thr1 (kL κ) hfl (kD κ) (kc κ) τ16 am bs ru se pf hd ca evs ln bl20 0 hN19 4) rfl (by omega) (by omega) (by omega) (fun _ _ hx => hx.elim) (fun v78 τ77 hp79 => ?_)
          obtain ⟨rfl, hN80, hN80k, hN80d⟩ := hp79
          show J κ τ77 [(0, .ref (am 0)), (1, vi ((i : Int))), (2, vi ((j : Int))), (3, vi (n)), (4, vi (x))] 31 [vi (1)] _ _
          have hN80K := hN19K.tr hN80k
          have hN80D := hN80d.trans hN19D
          obtain ⟨hI81, gc81, gm81, gr81, gp81, gb81, go81, gf81, gg81, gt81, gz81, gk81, gl81, _, _, _, h081, ⟨hgc81, hgm81, hgr81, hgp81, hgb81, hgo81, hgf81, hgg81, hgt81, hgz81, hgk81, hgl81⟩, ⟨rfl, rfl, rfl⟩, hBn81, hRu81, hPr81, hTr81, hKi81, hLi81⟩ := id hN80
          have hI := hI81
          have hnb681 := hBn81.1
          refine j_if_eq (tgt := 36) C dX7_sellBlend_31 rfl rfl ⟨by omega, by omega⟩ (fun cc82 => absurd cc82 (by decide)) (fun _ => ?_)
          refine j_iconst C dX7_sellBlend_34 rfl ?_
          have ho : o_sellBlend bs ru se pf hd ca evs ln (i : Int) (j : Int) n x = (4, 0, (bs, ru, se, pf, hd, ca, evs, ln)) := by unfold o_sellBlend; rw [if_neg (by omega), if_neg (by omega), if_neg (fun z => z hf), if_pos (by omega)]
          exact j_iret C E dX7_sellBlend_35 (by omega) (by omega) ⟨_, rfl, by rw [ho]; exact fun h9 => absurd (show (4 : Int) = 0 from h9) (by decide), ⟨_, by rw [ho]; exact hN80⟩, hN80K, hN80D⟩
      · refine j_callV (st' := []) (As := [vi ((i : Int)), vi ((j : Int)), vi (n), vi (x)]) C dX7_sellBlend_6 rfl m_X7_164 h01 rfl rfl rfl (c_nB3 (kL κ) hfl (kD κ) (kc κ) σ am bs ru se pf hd ca evs ln bl th hM i j hi hj n hn9 x hx9 hO hq2 hf) rfl (by omega) (by omega) (by omega) (fun _ _ hx => hx.elim) (fun v84 τ83 hp85 => ?_)
        obtain ⟨rfl, ⟨bl87, hN86⟩, hN86k, hN86d⟩ := hp85
        show J κ τ83 [(0, .ref (am 0)), (1, vi ((i : Int))), (2, vi ((j : Int))), (3, vi (n)), (4, vi (x))] 9 [vi (1)] _ _
        have hN86K := kp0.tr hN86k
        have hN86D := hN86d.trans dm0
        obtain ⟨hI88, gc88, gm88, gr88, gp88, gb88, go88, gf88, gg88, gt88, gz88, gk88, gl88, _, _, _, h088, ⟨hgc88, hgm88, hgr88, hgp88, hgb88, hgo88, hgf88, hgg88, hgt88, hgz88, hgk88, hgl88⟩, ⟨rfl, rfl, rfl⟩, hBn88, hRu88, hPr88, hTr88, hKi88, hLi88⟩ := id hN86
        have hI := hI88
        have hnb688 := hBn88.1
        refine j_if_ne (tgt := 34) C dX7_sellBlend_9 rfl rfl ⟨by omega, by omega⟩ (fun _ => ?_) (fun cc89 => absurd cc89 (by decide))
        refine j_iconst C dX7_sellBlend_34 rfl ?_
        have ho : o_sellBlend bs ru se pf hd ca evs ln (i : Int) (j : Int) n x = (3, 0, (bs, ru, se, pf, hd, ca, evs, ln)) := by unfold o_sellBlend; rw [if_neg (by omega), if_neg (by omega), if_pos hf]
        exact j_iret C E dX7_sellBlend_35 (by omega) (by omega) ⟨_, rfl, by rw [ho]; exact fun h9 => absurd (show (3 : Int) = 0 from h9) (by decide), ⟨_, by rw [ho]; exact hN86⟩, hN86K, hN86D⟩
