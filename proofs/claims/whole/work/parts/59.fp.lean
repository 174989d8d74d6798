/-! quotients: rows, GrainElevator's meanMoisture and wetShare -/
section FpJ
variable {κ : Kx} {cc : ByteArray} {nL : Nat} {own nm : String} {lev : Nat} {σ : Wd} {lv lv' : List (Nat × Value)} {pc pc' tgt : Nat} {st : List Value} {k n : Nat}
theorem j_dconst0 (C : Cx κ cc nL own nm lev) (hd : decode cc pc = .ok (.dconst 0, 1)) (hp : pc + 1 = pc') (kk : J κ σ lv pc' (.double FP.dconst0 :: st) k n) : J κ σ lv pc st k n := by
  obtain ⟨⟨hx, hb, hmx, hkn⟩, ⟨hown, -, -, -⟩, hG, hK, -⟩ := C
  subst hp
  intro H locs ls hl hP hD hS
  exact lv_dconst0 hx hb hd (kk H locs ls hl hP hD hS)
theorem j_fconst0 (C : Cx κ cc nL own nm lev) (hd : decode cc pc = .ok (.fconst 0, 1)) (hp : pc + 1 = pc') (kk : J κ σ lv pc' (.float FP.fconst0 :: st) k n) : J κ σ lv pc st k n := by
  obtain ⟨⟨hx, hb, hmx, hkn⟩, ⟨hown, -, -, -⟩, hG, hK, -⟩ := C
  subst hp
  intro H locs ls hl hP hD hS
  exact lv_fconst0 hx hb hd (kk H locs ls hl hP hD hS)
end FpJ
/-- what meanMoisture and wetShare refuse and answer -/
def cdMean (bs : List Bn) (b : Int) : Int := if b < 0 ∨ (bs.length : Int) ≤ b then 1 else if tot (gB bs b).2.2 = 0 then 2 else 0
def vMean (bs : List Bn) (b : Int) : UInt64 := FP.ddiv (FP.i2d (Int32.ofInt (sumL wf (gB bs b).2.2))) (FP.i2d (Int32.ofInt (tot (gB bs b).2.2)))
def cdWet (bs : List Bn) (m : Int) : Int := if m < 80 ∨ 300 < m then 1 else if totB bs = 0 then 2 else 0
def vWet (bs : List Bn) (m : Int) : UInt32 := FP.fdiv (FP.i2f (Int32.ofInt (sumB (wetF m) bs))) (FP.i2f (Int32.ofInt (totB bs)))
set_option maxHeartbeats 8000000 in
set_option maxRecDepth 20000 in
theorem c_meanMoisture (l : Launch) (hfl : l.stackTraces = false) (D : va_G) (cy : Nat → Nat) (σ : Wd) (tg ad : Nat → Nat) (bs : List Bn) (ru : Nat → Int × Int) (se : Int) (pf : Nat → Int) (hd : Hd) (ca : Int) (evs : List Evt) (ln : List Int) (hX0 : RX cy σ tg ad bs ru se pf hd ca evs ln) (i : Nat) (hi : i < bs.length) (htz : ¬ tot (gB bs i).2.2 = 0) : Ct l yX6_meanMoisture cX6_meanMoisture 4 (some .double) 7 2 14 D cy [.ref (ad 0), vi ((i : Int))] σ (fun v σ' => v = some (.double (vMean bs i)) ∧ Keep σ σ' (fun _ => False)) noX := by
  refine ct_start (by decide +kernel) hfl rfl (fun κ e1 e2 e3 C E NH => ?_)
  subst e1 e2 e3
  have C : Cx κ cX6_meanMoisture 4 RX6 "meanMoisture" 7 := C
  obtain ⟨-, -, -, -, hc, hs⟩ := id E
  show J κ σ [(0, .ref (ad 0)), (1, vi ((i : Int)))] 0 [] 0 0
  have hXX := hX0
  obtain ⟨⟨x1, x2⟩, hB, ⟨bsA, hA, hAe⟩, hEv, hX, hO⟩ := hXX
  obtain ⟨⟨hR, t7, t8, t9⟩, ⟨hPr, t10⟩, ⟨hH, t11, t12⟩, cap0, hSb, t13, t14⟩ := id hX
  have hL1 := hB.1.1
  have hL5 := hEv.1.1
  have hbl := bins_len ad 100 bs.length
  have hel9 := evl_len ad evs.length
  have h6 := hB.2.1
  obtain ⟨⟨hc1, hc2⟩, hc3, hc4⟩ := hO.2.2.2.1
  have hev80 := hO.2.2.1.2
  have hpr := hO.2.2.2.2.1
  have hRo := hR.1
  have hHo := hH.1
  obtain ⟨ml0, g0, hSc, -⟩ := id hSb
  have hSo := hSc.1
  have hTb := totB_in hO.2.1
  obtain ⟨m91, hl91, -⟩ := id hL1
  obtain ⟨m92, hl92, -⟩ := id hL5
  obtain ⟨⟨cap, mf, ly⟩, hg7⟩ : ∃ z, gB bs (i : Int) = z := ⟨_, rfl⟩
  have hb7 := hB.at hi hg7
  have hbk7 := hO.2.1 _ (gB_mem (bs := bs) (i := (i : Int)) (by omega) (by omega))
  rw [hg7] at hbk7
  obtain ⟨hcp7, hly7, htc7⟩ := hbk7
  dsimp only at hcp7 hly7 htc7
  have ht07 := tot_0 hly7
  obtain ⟨old7, ga7, gb7, gc7, gd7, ⟨hh7, -, -⟩, -, hcn7, -, hok7⟩ := id hb7
  dsimp only at hh7 hcn7 hok7
  refine j_aload_n 0 C dX6_meanMoisture_0 rfl rfl rfl ?_
  refine j_get C dX6_meanMoisture_1 rfl fg_X6_12 x1 rfl ?_
  refine j_iload_n 1 C dX6_meanMoisture_4 rfl rfl rfl ?_
  refine j_callS (st' := []) (As := [.ref (ad 1), vi ((i : Int))]) C dX6_meanMoisture_5 rfl m_X6_75 rfl rfl (c_biG (kL κ) hfl (kD κ) (kc κ) σ (ad 1) (ad 2) _ hL1 i _ (bins_at hi) _ hh7) rfl (by omega) (by omega) (by omega) (fun _ _ hx => hx.elim) (fun v2 τ1 hp3 => ?_)
  obtain ⟨rfl, hs9⟩ := hp3
  replace hs9 := hs9.symm
  subst hs9
  show J κ σ [(0, .ref (ad 0)), (1, vi ((i : Int)))] 8 [.ref (bq ad 100 i 0)] _ _
  have hnz : ¬ tot ly = 0 := by have e := htz; rw [hg7] at e; exact e
  refine j_astore_n (lv' := [(0, .ref (ad 0)), (1, vi ((i : Int))), (2, .ref (bq ad 100 i 0))]) [1, 2, 0] C dX6_meanMoisture_8 rfl rfl rfl rfl ?_
  refine j_aload_n 2 C dX6_meanMoisture_9 rfl rfl rfl ?_
  refine j_get C dX6_meanMoisture_10 rfl fg_X6_153 hh7 rfl ?_
  refine j_if_ne (tgt := 26) C dX6_meanMoisture_13 rfl rfl ⟨by omega, by omega⟩ (fun cc4 => ?_) (fun cc4 => ?_)
  · have kp0 : Keep σ σ (fun _ => False) := Keep.rf
    have dm0 : σ.1 = σ.1 := rfl
    refine j_new C dX6_meanMoisture_26 rfl na_X6_118 (by omega) (by omega) (k' := 1) (n' := 7) (by first | rfl | omega) (by first | rfl | omega) (fun fo τ5 nq7 ee6 => ?_)
    have u8 := x1.old' ee6 nq7
    have u9 := hl91.old' ee6 nq7
    have u10 := hl92.old' ee6 nq7
    have u11 := hRo.old' ee6 nq7
    have u12 := hPr.old' ee6 nq7
    have u13 := hHo.old' ee6 nq7
    have u14 := hH.2.old' ee6 nq7
    have u15 := hSo.old' ee6 nq7
    have u16 := hh7.old' ee6 nq7
    have u17 : has τ5 fo (.inr (3, [.null, .null, vi (0), vi (0), vi (0), vi (0), vi (0)])) := has.fresh' ee6
    have kp18 := kp0.new ee6 nq7
    have dm19 := (dom_new ee6).trans (congrArg (· ++ [fo]) dm0)
    refine j_dup C dX6_meanMoisture_29 rfl rfl ?_
    refine j_aload_n 2 C dX6_meanMoisture_30 rfl rfl rfl ?_
    refine j_aload_n 0 C dX6_meanMoisture_31 rfl rfl rfl ?_
    refine j_get C dX6_meanMoisture_32 rfl fg_X6_29 u8 rfl ?_
    have hbFfo := hb7.keep kp18 (fun _ _ z => z)
    have hpFfo := kp18 _ _ hPr (fun z => z)
    have nnfo : fo ∉ σ.1 := fun z => nq7 (by rw [dm0]; first | exact z | simp [z])
    refine j_callI (st' := [.ref fo]) (As := [.ref (bq ad 100 i 0), .ref (ad 10)]) C dX6_meanMoisture_35 rfl m_X6_120 rfl rfl (c_flowInit (kL κ) hfl (kD κ) (kc κ) τ5 (bq ad 100 i 0) (bq ad 100 i 1) (bq ad 100 i 2) (bq ad 100 i 3) (bq ad 100 i 4) cap mf ly hbFfo fo (ad 10) pf hpFfo u17) rfl (by omega) (by omega) (by omega) (fun _ _ hx => hx.elim) (fun v21 τ20 hp22 => ?_)
    obtain ⟨rfl, hFfo, hkFfo, hdFfo⟩ := hp22
    show J κ τ20 [(0, .ref (ad 0)), (1, vi ((i : Int))), (2, .ref (bq ad 100 i 0))] 38 [.ref fo] _ _
    have kffo : Keep σ τ20 (fun _ => False) := kp18.tr2 hkFfo (fun y z => Or.inr (by rw [show y = fo from z]; exact nnfo))
    have dnfo := hdFfo.trans dm19
    have hb15 := hb7.keep kffo (fun _ _ z => z)
    obtain ⟨old6, ga6, gb6, gc6, gd6, ⟨hh6, -, -⟩, -, hcn6, -, hok6⟩ := id hb15
    dsimp only at hh6 hcn6 hok6
    obtain ⟨i9, u9, hfo, -⟩ := id hFfo
    refine j_astore_n (lv' := [(0, .ref (ad 0)), (1, vi ((i : Int))), (2, .ref (bq ad 100 i 0)), (3, .ref fo)]) [1, 2, 3, 0] C dX6_meanMoisture_38 rfl rfl rfl rfl ?_
    refine j_aload_n 3 C dX6_meanMoisture_39 rfl rfl rfl ?_
    refine j_aload_n 2 C dX6_meanMoisture_40 rfl rfl rfl ?_
    refine j_get C dX6_meanMoisture_41 rfl fg_X6_153 hh6 rfl ?_
    have hbG := hb7.keep kffo (fun _ _ z => z)
    have hpG := kffo _ _ hPr (fun z => z)
    refine j_callV (st' := []) (As := [vi (tot ly)]) C dX6_meanMoisture_44 rfl m_X6_123 hfo rfl rfl rfl (c_goOn (kL κ) hfl (kD κ) (kc κ) τ20 (bq ad 100 i 0) (bq ad 100 i 1) (bq ad 100 i 2) (bq ad 100 i 3) (bq ad 100 i 4) cap mf ly hbG fo (ad 10) pf 0 (tot ly) hpG hFfo ⟨by omega, by omega⟩) rfl (by omega) (by omega) (by omega) (fun _ _ hx => hx.elim) (fun v25 τ24 hp26 => ?_)
    obtain ⟨rfl, hFw23, hFw23k, hFw23d⟩ := hp26
    show J κ τ24 [(0, .ref (ad 0)), (1, vi ((i : Int))), (2, .ref (bq ad 100 i 0)), (3, .ref fo)] 47 [] _ _
    have hFw23K : Keep σ τ24 (fun _ => False) := kffo.tr2 hFw23k (fun y z => Or.inr (by rw [show y = fo from z]; exact nnfo))
    have hFw23D := hFw23d.trans dnfo
    rw [show min (0 + tot ly) (tot ly) = tot ly by omega] at hFw23
    obtain ⟨i8, u8, hfo2, -⟩ := id hFw23
    have hokf : lysOk (fl (cap, mf, ly)) := fl_ok (b := (cap, mf, ly)) hly7
    have htf : tot (fl (cap, mf, ly)) = tot ly := sum_fl _ (cap, mf, ly)
    have hta := take_all lin_w (fl (cap, mf, ly)) hokf
    rw [htf, sum_fl wf (cap, mf, ly)] at hta
    dsimp only at hta
    rw [hta] at hfo2
    have hb16 := hb7.keep hFw23K (fun _ _ z => z)
    obtain ⟨old5, ga5, gb5, gc5, gd5, ⟨hh5, -, -⟩, -, hcn5, -, hok5⟩ := id hb16
    dsimp only at hh5 hcn5 hok5
    refine j_aload_n 3 C dX6_meanMoisture_47 rfl rfl rfl ?_
    refine j_get C dX6_meanMoisture_48 rfl fg_X6_186 hfo2 rfl ?_
    refine j_i2d C dX6_meanMoisture_51 rfl ?_
    refine j_aload_n 2 C dX6_meanMoisture_52 rfl rfl rfl ?_
    refine j_get C dX6_meanMoisture_53 rfl fg_X6_153 hh5 rfl ?_
    refine j_i2d C dX6_meanMoisture_56 rfl ?_
    refine j_ddiv C dX6_meanMoisture_57 rfl (fp_d _ ⟨by omega, by omega⟩) ?_
    exact j_dret C E dX6_meanMoisture_58 (by omega) (by omega) ⟨by unfold vMean; rw [hg7], hFw23K⟩
  · exact absurd cc4 hnz
set_option maxHeartbeats 4000000 in
set_option maxRecDepth 20000 in
theorem c_meanMoistureB1 (l : Launch) (hfl : l.stackTraces = false) (D : va_G) (cy : Nat → Nat) (σ : Wd) (tg ad : Nat → Nat) (bs : List Bn) (ru : Nat → Int × Int) (se : Int) (pf : Nat → Int) (hd : Hd) (ca : Int) (evs : List Evt) (ln : List Int) (hX0 : RX cy σ tg ad bs ru se pf hd ca evs ln) (b : Int) (hb9 : (-2147483648 ≤ b ∧ b < 2147483648)) (hbad : b < 0 ∨ (bs.length : Int) ≤ b) : Ct l yX6_meanMoisture cX6_meanMoisture 4 (some .double) 7 1 6 D cy [.ref (ad 0), vi (b)] σ (fun v σ' => False) (fun E9 σ' => E9 = "java/lang/IndexOutOfBoundsException" ∧ σ' = σ) := by
  refine ct_start (by decide +kernel) hfl rfl (fun κ e1 e2 e3 C E NH => ?_)
  subst e1 e2 e3
  have C : Cx κ cX6_meanMoisture 4 RX6 "meanMoisture" 7 := C
  obtain ⟨-, -, -, -, hc, hs⟩ := id E
  show J κ σ [(0, .ref (ad 0)), (1, vi (b))] 0 [] 0 0
  have hXX := hX0
  obtain ⟨⟨x1, x2⟩, hB, ⟨bsA, hA, hAe⟩, hEv, hX, hO⟩ := hXX
  obtain ⟨⟨hR, t7, t8, t9⟩, ⟨hPr, t10⟩, ⟨hH, t11, t12⟩, cap0, hSb, t13, t14⟩ := id hX
  have hL1 := hB.1.1
  have hL5 := hEv.1.1
  have hbl := bins_len ad 100 bs.length
  have hel9 := evl_len ad evs.length
  have h6 := hB.2.1
  obtain ⟨⟨hc1, hc2⟩, hc3, hc4⟩ := hO.2.2.2.1
  have hev80 := hO.2.2.1.2
  have hpr := hO.2.2.2.2.1
  have hRo := hR.1
  have hHo := hH.1
  obtain ⟨ml0, g0, hSc, -⟩ := id hSb
  have hSo := hSc.1
  have hTb := totB_in hO.2.1
  obtain ⟨m91, hl91, -⟩ := id hL1
  obtain ⟨m92, hl92, -⟩ := id hL5
  refine j_aload_n 0 C dX6_meanMoisture_0 rfl rfl rfl ?_
  refine j_get C dX6_meanMoisture_1 rfl fg_X6_12 x1 rfl ?_
  refine j_iload_n 1 C dX6_meanMoisture_4 rfl rfl rfl ?_
  refine j_callS (st' := []) (As := [.ref (ad 1), vi (b)]) C dX6_meanMoisture_5 rfl m_X6_75 rfl rfl (c_biB (kL κ) hfl (kD κ) (kc κ) σ (ad 1) (ad 2) _ hL1 b hb9 (by rw [hbl]; exact hbad)) rfl (by omega) (by omega) (by omega) (fun E9 σ9 hx => jx_out C E NH (by omega) (by omega) hx) (fun v2 τ1 hp3 => ?_)
  exact hp3.elim
set_option maxHeartbeats 4000000 in
set_option maxRecDepth 20000 in
theorem c_meanMoistureB2 (l : Launch) (hfl : l.stackTraces = false) (D : va_G) (cy : Nat → Nat) (σ : Wd) (tg ad : Nat → Nat) (bs : List Bn) (ru : Nat → Int × Int) (se : Int) (pf : Nat → Int) (hd : Hd) (ca : Int) (evs : List Evt) (ln : List Int) (hX0 : RX cy σ tg ad bs ru se pf hd ca evs ln) (i : Nat) (hi : i < bs.length) (htz : tot (gB bs i).2.2 = 0) : Ct l yX6_meanMoisture cX6_meanMoisture 4 (some .double) 7 1 6 D cy [.ref (ad 0), vi ((i : Int))] σ (fun v σ' => False) (fun E9 σ' => E9 = "java/lang/ArithmeticException" ∧ σ' = σ) := by
  refine ct_start (by decide +kernel) hfl rfl (fun κ e1 e2 e3 C E NH => ?_)
  subst e1 e2 e3
  have C : Cx κ cX6_meanMoisture 4 RX6 "meanMoisture" 7 := C
  obtain ⟨-, -, -, -, hc, hs⟩ := id E
  show J κ σ [(0, .ref (ad 0)), (1, vi ((i : Int)))] 0 [] 0 0
  have hXX := hX0
  obtain ⟨⟨x1, x2⟩, hB, ⟨bsA, hA, hAe⟩, hEv, hX, hO⟩ := hXX
  obtain ⟨⟨hR, t7, t8, t9⟩, ⟨hPr, t10⟩, ⟨hH, t11, t12⟩, cap0, hSb, t13, t14⟩ := id hX
  have hL1 := hB.1.1
  have hL5 := hEv.1.1
  have hbl := bins_len ad 100 bs.length
  have hel9 := evl_len ad evs.length
  have h6 := hB.2.1
  obtain ⟨⟨hc1, hc2⟩, hc3, hc4⟩ := hO.2.2.2.1
  have hev80 := hO.2.2.1.2
  have hpr := hO.2.2.2.2.1
  have hRo := hR.1
  have hHo := hH.1
  obtain ⟨ml0, g0, hSc, -⟩ := id hSb
  have hSo := hSc.1
  have hTb := totB_in hO.2.1
  obtain ⟨m91, hl91, -⟩ := id hL1
  obtain ⟨m92, hl92, -⟩ := id hL5
  obtain ⟨⟨cap, mf, ly⟩, hg7⟩ : ∃ z, gB bs (i : Int) = z := ⟨_, rfl⟩
  have hb7 := hB.at hi hg7
  have hbk7 := hO.2.1 _ (gB_mem (bs := bs) (i := (i : Int)) (by omega) (by omega))
  rw [hg7] at hbk7
  obtain ⟨hcp7, hly7, htc7⟩ := hbk7
  dsimp only at hcp7 hly7 htc7
  have ht07 := tot_0 hly7
  obtain ⟨old7, ga7, gb7, gc7, gd7, ⟨hh7, -, -⟩, -, hcn7, -, hok7⟩ := id hb7
  dsimp only at hh7 hcn7 hok7
  refine j_aload_n 0 C dX6_meanMoisture_0 rfl rfl rfl ?_
  refine j_get C dX6_meanMoisture_1 rfl fg_X6_12 x1 rfl ?_
  refine j_iload_n 1 C dX6_meanMoisture_4 rfl rfl rfl ?_
  refine j_callS (st' := []) (As := [.ref (ad 1), vi ((i : Int))]) C dX6_meanMoisture_5 rfl m_X6_75 rfl rfl (c_biG (kL κ) hfl (kD κ) (kc κ) σ (ad 1) (ad 2) _ hL1 i _ (bins_at hi) _ hh7) rfl (by omega) (by omega) (by omega) (fun _ _ hx => hx.elim) (fun v2 τ1 hp3 => ?_)
  obtain ⟨rfl, hs9⟩ := hp3
  replace hs9 := hs9.symm
  subst hs9
  show J κ σ [(0, .ref (ad 0)), (1, vi ((i : Int)))] 8 [.ref (bq ad 100 i 0)] _ _
  have hz9 : tot ly = 0 := by have e := htz; rw [hg7] at e; exact e
  refine j_astore_n (lv' := [(0, .ref (ad 0)), (1, vi ((i : Int))), (2, .ref (bq ad 100 i 0))]) [1, 2, 0] C dX6_meanMoisture_8 rfl rfl rfl rfl ?_
  refine j_aload_n 2 C dX6_meanMoisture_9 rfl rfl rfl ?_
  refine j_get C dX6_meanMoisture_10 rfl fg_X6_153 hh7 rfl ?_
  refine j_if_ne (tgt := 26) C dX6_meanMoisture_13 rfl rfl ⟨by omega, by omega⟩ (fun cc4 => ?_) (fun cc4 => ?_)
  · exact absurd hz9 cc4
  · exact j_throw C E NH tx_X6_181_185 (is := 183) (text := "the bin is empty") (by decide) dX6_meanMoisture_16 dX6_meanMoisture_19 dX6_meanMoisture_20 dX6_meanMoisture_22 dX6_meanMoisture_25 rfl (by omega) (by omega) ⟨rfl, rfl⟩
set_option maxHeartbeats 8000000 in
set_option maxRecDepth 20000 in
theorem c_wetShare (l : Launch) (hfl : l.stackTraces = false) (D : va_G) (cy : Nat → Nat) (σ : Wd) (tg ad : Nat → Nat) (bs : List Bn) (ru : Nat → Int × Int) (se : Int) (pf : Nat → Int) (hd : Hd) (ca : Int) (evs : List Evt) (ln : List Int) (hX0 : RX cy σ tg ad bs ru se pf hd ca evs ln) (m : Int) (hm9 : (-2147483648 ≤ m ∧ m < 2147483648)) (hm : 80 ≤ m ∧ m ≤ 300) (htz : ¬ totB bs = 0) : Ct l yX6_wetShare cX6_wetShare 5 (some .float) 7 0 0 D cy [.ref (ad 0), vi (m)] σ (fun v σ' => v = some (.float (vWet bs m)) ∧ σ' = σ) noX := by
  refine ct_start (by decide +kernel) hfl rfl (fun κ e1 e2 e3 C E NH => ?_)
  subst e1 e2 e3
  have C : Cx κ cX6_wetShare 5 RX6 "wetShare" 7 := C
  obtain ⟨-, -, -, -, hc, hs⟩ := id E
  show J κ σ [(0, .ref (ad 0)), (1, vi (m))] 0 [] 0 0
  have hXX := hX0
  obtain ⟨⟨x1, x2⟩, hB, ⟨bsA, hA, hAe⟩, hEv, hX, hO⟩ := hXX
  obtain ⟨⟨hR, t7, t8, t9⟩, ⟨hPr, t10⟩, ⟨hH, t11, t12⟩, cap0, hSb, t13, t14⟩ := id hX
  have hL1 := hB.1.1
  have hL5 := hEv.1.1
  have hbl := bins_len ad 100 bs.length
  have hel9 := evl_len ad evs.length
  have h6 := hB.2.1
  obtain ⟨⟨hc1, hc2⟩, hc3, hc4⟩ := hO.2.2.2.1
  have hev80 := hO.2.2.1.2
  have hpr := hO.2.2.2.2.1
  have hRo := hR.1
  have hHo := hH.1
  obtain ⟨ml0, g0, hSc, -⟩ := id hSb
  have hSo := hSc.1
  have hTb := totB_in hO.2.1
  obtain ⟨m91, hl91, -⟩ := id hL1
  obtain ⟨m92, hl92, -⟩ := id hL5
  refine j_iload_n 1 C dX6_wetShare_0 rfl rfl rfl ?_
  refine j_callS (st' := []) (As := [vi (m)]) C dX6_wetShare_1 rfl m_X6_144 rfl rfl (c_cmG (kL κ) hfl (kD κ) (kc κ) σ m hm9 hm) rfl (by omega) (by omega) (by omega) (fun _ _ hx => hx.elim) (fun v2 τ1 hp3 => ?_)
  obtain ⟨rfl, hs9⟩ := hp3
  replace hs9 := hs9.symm
  subst hs9
  show J κ σ [(0, .ref (ad 0)), (1, vi (m))] 4 [] _ _
  refine j_aload_n 0 C dX6_wetShare_4 rfl rfl rfl ?_
  refine j_callV (st' := []) (As := []) C dX6_wetShare_5 rfl m_X6_189 x1 rfl rfl rfl (c_owned (kL κ) hfl (kD κ) (kc κ) σ tg ad 1 2 100 bs hB (ad 0) (ad 3) (ad 5) (ad 7) (ad 10) (ad 11) (ad 13) ca x1) rfl (by omega) (by omega) (by omega) (fun _ _ hx => hx.elim) (fun v5 τ4 hp6 => ?_)
  obtain ⟨rfl, hs9⟩ := hp6
  replace hs9 := hs9.symm
  subst hs9
  show J κ σ [(0, .ref (ad 0)), (1, vi (m))] 8 [vi (totB bs)] _ _
  refine j_istore_n (lv' := [(0, .ref (ad 0)), (1, vi (m)), (2, vi (totB bs))]) [1, 2, 0] C dX6_wetShare_8 rfl rfl rfl rfl ?_
  refine j_iload_n 2 C dX6_wetShare_9 rfl rfl rfl ?_
  refine j_if_ne (tgt := 23) C dX6_wetShare_10 rfl rfl ⟨by omega, by omega⟩ (fun cc7 => ?_) (fun cc7 => ?_)
  · refine j_iconst C dX6_wetShare_23 rfl ?_
    refine j_istore_n (lv' := [(0, .ref (ad 0)), (1, vi (m)), (2, vi (totB bs)), (3, vi (0))]) [1, 2, 3, 0] C dX6_wetShare_24 rfl rfl rfl rfl ?_
    refine j_iconst C dX6_wetShare_25 rfl ?_
    refine j_istore (lv' := [(0, .ref (ad 0)), (1, vi (m)), (2, vi (totB bs)), (3, vi (0)), (4, vi (0))]) [1, 2, 3, 4, 0] C dX6_wetShare_26 rfl rfl rfl ?_
    have lp : ∀ (N : Nat) (i : Nat), i ≤ bs.length → (bs.length + 1 - i) < N → J κ σ [(0, .ref (ad 0)), (1, vi (m)), (2, vi (totB bs)), (3, vi (sumB (wetF m) (bs.take i))), (4, vi ((i : Int)))] 28 [] 0 0 := by
      intro N
      induction N with
      | zero => intro i hi9 hN; exact absurd hN (Nat.not_lt_zero _)
      | succ N ih =>
        intro i hi9 hN
        refine j_iload 4 C dX6_wetShare_28 rfl rfl ?_
        refine j_aload_n 0 C dX6_wetShare_30 rfl rfl rfl ?_
        refine j_get C dX6_wetShare_31 rfl fg_X6_12 x1 rfl ?_
        refine j_callV (st' := [vi ((i : Int))]) (As := []) C dX6_wetShare_34 rfl m_X6_55 hl91 rfl rfl rfl (c_size (kL κ) hfl (kD κ) (kc κ) σ (ad 1) (ad 2) _ hL1) rfl (by omega) (by omega) (by omega) (fun _ _ hx => hx.elim) (fun v9 τ8 hp10 => ?_)
        obtain ⟨rfl, hs9⟩ := hp10
        replace hs9 := hs9.symm
        subst hs9
        show J κ σ [(0, .ref (ad 0)), (1, vi (m)), (2, vi (totB bs)), (3, vi (sumB (wetF m) (bs.take i))), (4, vi ((i : Int)))] 37 [vi (((bins ad 100 bs.length).length : Int)), vi ((i : Int))] _ _
        rw [hbl]
        refine j_icmp_ge (tgt := 65) C dX6_wetShare_37 rfl rfl ⟨by omega, by omega⟩ ⟨by omega, by omega⟩ (fun cc11 => ?_) (fun cc11 => ?_)
        · refine j_iload_n 3 C dX6_wetShare_65 rfl rfl rfl ?_
          refine j_i2f C dX6_wetShare_66 rfl ?_
          refine j_iload_n 2 C dX6_wetShare_67 rfl rfl rfl ?_
          refine j_i2f C dX6_wetShare_68 rfl ?_
          refine j_fdiv C dX6_wetShare_69 rfl (fp_f _ ⟨by omega, by omega⟩) ?_
          exact j_fret C E dX6_wetShare_70 (by omega) (by omega) ⟨by unfold vWet; rw [List.take_of_length_le (by omega)], rfl⟩
        · have hi : i < bs.length := by omega
          obtain ⟨⟨cap, mf, ly⟩, hg7⟩ : ∃ z, gB bs (i : Int) = z := ⟨_, rfl⟩
          have hb7 := hB.at hi hg7
          have hbk7 := hO.2.1 _ (gB_mem (bs := bs) (i := (i : Int)) (by omega) (by omega))
          rw [hg7] at hbk7
          obtain ⟨hcp7, hly7, htc7⟩ := hbk7
          dsimp only at hcp7 hly7 htc7
          have ht07 := tot_0 hly7
          obtain ⟨old7, ga7, gb7, gc7, gd7, ⟨hh7, -, -⟩, -, hcn7, -, hok7⟩ := id hb7
          dsimp only at hh7 hcn7 hok7
          refine j_iload_n 3 C dX6_wetShare_40 rfl rfl rfl ?_
          refine j_aload_n 0 C dX6_wetShare_41 rfl rfl rfl ?_
          refine j_get C dX6_wetShare_42 rfl fg_X6_12 x1 rfl ?_
          refine j_iload 4 C dX6_wetShare_45 rfl rfl ?_
          have hLg12 := hL1
          have hLg12i : i < (bins ad 100 bs.length).length := by rw [bins_len]; exact hi
          have hLg12b : (bins ad 100 bs.length)[i]'hLg12i = bq ad 100 i 0 := (List.getElem?_eq_some_iff.mp (bins_at hi)).2
          refine j_callV (st' := [vi (sumB (wetF m) (bs.take i))]) (As := [vi ((i : Int))]) C dX6_wetShare_47 rfl m_X6_194 hl91 rfl rfl rfl (c_listGet (kL κ) hfl (kD κ) (kc κ) σ (ad 1) (ad 2) _ hLg12 i hLg12i) rfl (by omega) (by omega) (by omega) (fun _ _ hx => hx.elim) (fun v14 τ13 hp15 => ?_)
          obtain ⟨rfl, hs9⟩ := hp15
          replace hs9 := hs9.symm
          subst hs9
          show J κ σ [(0, .ref (ad 0)), (1, vi (m)), (2, vi (totB bs)), (3, vi (sumB (wetF m) (bs.take i))), (4, vi ((i : Int)))] 50 [.ref ((bins ad 100 bs.length)[i]'hLg12i), vi (sumB (wetF m) (bs.take i))] _ _
          rw [hLg12b]
          refine j_chk C dX6_wetShare_50 rfl hh7 rfl cl_X6_66 ?_
          refine j_iload_n 1 C dX6_wetShare_53 rfl rfl rfl ?_
          refine j_callV (st' := [vi (sumB (wetF m) (bs.take i))]) (As := [vi (m)]) C dX6_wetShare_54 rfl m_X6_147 hh7 rfl rfl rfl (c_wetterThan (kL κ) hfl (kD κ) (kc κ) σ (bq ad 100 i 0) (bq ad 100 i 1) (bq ad 100 i 2) (bq ad 100 i 3) (bq ad 100 i 4) cap mf ly hb7 m ⟨by omega, by omega⟩) rfl (by omega) (by omega) (by omega) (fun _ _ hx => hx.elim) (fun v17 τ16 hp18 => ?_)
          obtain ⟨rfl, hs9⟩ := hp18
          replace hs9 := hs9.symm
          subst hs9
          show J κ σ [(0, .ref (ad 0)), (1, vi (m)), (2, vi (totB bs)), (3, vi (sumB (wetF m) (bs.take i))), (4, vi ((i : Int)))] 57 [vi (sumL (wetF m) ly), vi (sumB (wetF m) (bs.take i))] _ _
          have hs9 := sumB_take (wetF m) bs i hi
          rw [hg7] at hs9
          dsimp only at hs9
          refine j_iadd C dX6_wetShare_57 rfl ?_
          refine j_istore_n (lv' := [(0, .ref (ad 0)), (1, vi (m)), (2, vi (totB bs)), (3, vi ((sumB (wetF m) (bs.take i)) + (sumL (wetF m) ly))), (4, vi ((i : Int)))]) [1, 2, 3, 0, 4] C dX6_wetShare_58 rfl rfl rfl rfl ?_
          refine j_iinc (y := (i : Int) + 1) (lv' := [(0, .ref (ad 0)), (1, vi (m)), (2, vi (totB bs)), (3, vi ((sumB (wetF m) (bs.take i)) + (sumL (wetF m) ly))), (4, vi ((i : Int) + 1))]) 4 [1, 2, 3, 4, 0] C dX6_wetShare_59 rfl rfl rfl rfl rfl ?_
          refine j_goto (tgt := 28) C dX6_wetShare_62 rfl ?_
          rw [← hs9]
          exact ih (i + 1) (by omega) (by omega)
    exact lp _ 0 (Nat.zero_le _) (Nat.lt_succ_self _)
  · exact absurd cc7 htz
set_option maxHeartbeats 4000000 in
set_option maxRecDepth 20000 in
theorem c_wetShareB1 (l : Launch) (hfl : l.stackTraces = false) (D : va_G) (cy : Nat → Nat) (σ : Wd) (tg ad : Nat → Nat) (bs : List Bn) (ru : Nat → Int × Int) (se : Int) (pf : Nat → Int) (hd : Hd) (ca : Int) (evs : List Evt) (ln : List Int) (hX0 : RX cy σ tg ad bs ru se pf hd ca evs ln) (m : Int) (hm9 : (-2147483648 ≤ m ∧ m < 2147483648)) (h : m < 80 ∨ 300 < m) : Ct l yX6_wetShare cX6_wetShare 5 (some .float) 7 1 6 D cy [.ref (ad 0), vi (m)] σ (fun v σ' => False) (fun E9 σ' => E9 = "java/lang/IllegalArgumentException" ∧ σ' = σ) := by
  refine ct_start (by decide +kernel) hfl rfl (fun κ e1 e2 e3 C E NH => ?_)
  subst e1 e2 e3
  have C : Cx κ cX6_wetShare 5 RX6 "wetShare" 7 := C
  obtain ⟨-, -, -, -, hc, hs⟩ := id E
  show J κ σ [(0, .ref (ad 0)), (1, vi (m))] 0 [] 0 0
  have hXX := hX0
  obtain ⟨⟨x1, x2⟩, hB, ⟨bsA, hA, hAe⟩, hEv, hX, hO⟩ := hXX
  obtain ⟨⟨hR, t7, t8, t9⟩, ⟨hPr, t10⟩, ⟨hH, t11, t12⟩, cap0, hSb, t13, t14⟩ := id hX
  have hL1 := hB.1.1
  have hL5 := hEv.1.1
  have hbl := bins_len ad 100 bs.length
  have hel9 := evl_len ad evs.length
  have h6 := hB.2.1
  obtain ⟨⟨hc1, hc2⟩, hc3, hc4⟩ := hO.2.2.2.1
  have hev80 := hO.2.2.1.2
  have hpr := hO.2.2.2.2.1
  have hRo := hR.1
  have hHo := hH.1
  obtain ⟨ml0, g0, hSc, -⟩ := id hSb
  have hSo := hSc.1
  have hTb := totB_in hO.2.1
  obtain ⟨m91, hl91, -⟩ := id hL1
  obtain ⟨m92, hl92, -⟩ := id hL5
  refine j_iload_n 1 C dX6_wetShare_0 rfl rfl rfl ?_
  refine j_callS (st' := []) (As := [vi (m)]) C dX6_wetShare_1 rfl m_X6_144 rfl rfl (c_cmB (kL κ) hfl (kD κ) (kc κ) σ m hm9 h) rfl (by omega) (by omega) (by omega) (fun E9 σ9 hx => jx_out C E NH (by omega) (by omega) hx) (fun v2 τ1 hp3 => ?_)
  exact hp3.elim
set_option maxHeartbeats 4000000 in
set_option maxRecDepth 20000 in
theorem c_wetShareB2 (l : Launch) (hfl : l.stackTraces = false) (D : va_G) (cy : Nat → Nat) (σ : Wd) (tg ad : Nat → Nat) (bs : List Bn) (ru : Nat → Int × Int) (se : Int) (pf : Nat → Int) (hd : Hd) (ca : Int) (evs : List Evt) (ln : List Int) (hX0 : RX cy σ tg ad bs ru se pf hd ca evs ln) (m : Int) (hm9 : (-2147483648 ≤ m ∧ m < 2147483648)) (hm : 80 ≤ m ∧ m ≤ 300) (htz : totB bs = 0) : Ct l yX6_wetShare cX6_wetShare 5 (some .float) 7 1 6 D cy [.ref (ad 0), vi (m)] σ (fun v σ' => False) (fun E9 σ' => E9 = "java/lang/ArithmeticException" ∧ σ' = σ) := by
  refine ct_start (by decide +kernel) hfl rfl (fun κ e1 e2 e3 C E NH => ?_)
  subst e1 e2 e3
  have C : Cx κ cX6_wetShare 5 RX6 "wetShare" 7 := C
  obtain ⟨-, -, -, -, hc, hs⟩ := id E
  show J κ σ [(0, .ref (ad 0)), (1, vi (m))] 0 [] 0 0
  have hXX := hX0
  obtain ⟨⟨x1, x2⟩, hB, ⟨bsA, hA, hAe⟩, hEv, hX, hO⟩ := hXX
  obtain ⟨⟨hR, t7, t8, t9⟩, ⟨hPr, t10⟩, ⟨hH, t11, t12⟩, cap0, hSb, t13, t14⟩ := id hX
  have hL1 := hB.1.1
  have hL5 := hEv.1.1
  have hbl := bins_len ad 100 bs.length
  have hel9 := evl_len ad evs.length
  have h6 := hB.2.1
  obtain ⟨⟨hc1, hc2⟩, hc3, hc4⟩ := hO.2.2.2.1
  have hev80 := hO.2.2.1.2
  have hpr := hO.2.2.2.2.1
  have hRo := hR.1
  have hHo := hH.1
  obtain ⟨ml0, g0, hSc, -⟩ := id hSb
  have hSo := hSc.1
  have hTb := totB_in hO.2.1
  obtain ⟨m91, hl91, -⟩ := id hL1
  obtain ⟨m92, hl92, -⟩ := id hL5
  refine j_iload_n 1 C dX6_wetShare_0 rfl rfl rfl ?_
  refine j_callS (st' := []) (As := [vi (m)]) C dX6_wetShare_1 rfl m_X6_144 rfl rfl (c_cmG (kL κ) hfl (kD κ) (kc κ) σ m hm9 hm) rfl (by omega) (by omega) (by omega) (fun _ _ hx => hx.elim) (fun v2 τ1 hp3 => ?_)
  obtain ⟨rfl, hs9⟩ := hp3
  replace hs9 := hs9.symm
  subst hs9
  show J κ σ [(0, .ref (ad 0)), (1, vi (m))] 4 [] _ _
  refine j_aload_n 0 C dX6_wetShare_4 rfl rfl rfl ?_
  refine j_callV (st' := []) (As := []) C dX6_wetShare_5 rfl m_X6_189 x1 rfl rfl rfl (c_owned (kL κ) hfl (kD κ) (kc κ) σ tg ad 1 2 100 bs hB (ad 0) (ad 3) (ad 5) (ad 7) (ad 10) (ad 11) (ad 13) ca x1) rfl (by omega) (by omega) (by omega) (fun _ _ hx => hx.elim) (fun v5 τ4 hp6 => ?_)
  obtain ⟨rfl, hs9⟩ := hp6
  replace hs9 := hs9.symm
  subst hs9
  show J κ σ [(0, .ref (ad 0)), (1, vi (m))] 8 [vi (totB bs)] _ _
  refine j_istore_n (lv' := [(0, .ref (ad 0)), (1, vi (m)), (2, vi (totB bs))]) [1, 2, 0] C dX6_wetShare_8 rfl rfl rfl rfl ?_
  refine j_iload_n 2 C dX6_wetShare_9 rfl rfl rfl ?_
  refine j_if_ne (tgt := 23) C dX6_wetShare_10 rfl rfl ⟨by omega, by omega⟩ (fun cc7 => ?_) (fun cc7 => ?_)
  · exact absurd htz cc7
  · exact j_throw C E NH tx_X6_181_185 (is := 192) (text := "all bins are empty") (by decide) dX6_wetShare_13 dX6_wetShare_16 dX6_wetShare_17 dX6_wetShare_19 dX6_wetShare_22 rfl (by omega) (by omega) ⟨rfl, rfl⟩
