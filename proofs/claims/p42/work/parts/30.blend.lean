/-! GrainElevator: the search for the best blend -/
def mixC (pf : Nat → Int) (L1 L2 : List Ly) (n s : Int) : Int := sumL (cf pf) (takeL s L1) + sumL (cf pf) (takeL (n - s) L2)
def mixW (L1 L2 : List Ly) (n s : Int) : Int := sumL wf (takeL s L1) + sumL wf (takeL (n - s) L2)
/-- the best of k shares from lo on -/
def bestK (pf : Nat → Int) (L1 L2 : List Ly) (n mw lo : Int) : Nat → Bl
  | 0 => (false, 0, 0)
  | k + 1 => offF (bestK pf L1 L2 n mw lo k) (lo + (k : Int)) (mixC pf L1 L2 n (lo + (k : Int))) (mixW L1 L2 n (lo + (k : Int))) mw
def loS (L2 : List Ly) (n : Int) : Int := max 0 (n - tot L2)
def hiS (L1 : List Ly) (n : Int) : Int := min (tot L1) n
def bestF (pf : Nat → Int) (L1 L2 : List Ly) (n mw : Int) : Bl := bestK pf L1 L2 n mw (loS L2 n) (hiS L1 n + 1 - loS L2 n).toNat
theorem take_le_tot {L : List Ly} (hok : lysOk L) (n : Int) : 0 ≤ tot (takeL n L) ∧ tot (takeL n L) ≤ tot L := by
  have h1 := drop_take (fun x => x.1) (fun a b y => rfl) L n
  have h2 := tot_0 (drop_ok L n hok)
  have h3 := tot_0 (take_ok L n hok)
  unfold tot at *
  omega
theorem wet_in : ∀ {l : List Ly}, lysOk l → 0 ≤ sumL wf l ∧ sumL wf l ≤ 300 * tot l
  | [], _ => by simp [sumL, tot]
  | x :: l, h => by
    obtain ⟨⟨a1, a2⟩, ⟨b1, b2⟩, -⟩ := h x List.mem_cons_self
    have ih := wet_in (l := l) (fun y hy => h y (List.mem_cons_of_mem _ hy))
    have m1 : 0 ≤ x.1 * x.2.1 := Int.mul_nonneg (by omega) (by omega)
    have m2 : x.1 * x.2.1 ≤ x.1 * 300 := Int.mul_le_mul_of_nonneg_left b2 (by omega)
    unfold tot at ih ⊢
    simp only [sumL, wf] at ih ⊢
    omega
theorem sums_in {pf : Nat → Int} (hp : ∀ i, i < 5 → 0 ≤ pf i ∧ pf i ≤ 2000) {L : List Ly} (hok : lysOk L) (ht : tot L ≤ 5000) (n : Int) : (0 ≤ sumL (cf pf) (takeL n L) ∧ sumL (cf pf) (takeL n L) ≤ 10000000) ∧ (0 ≤ sumL wf (takeL n L) ∧ sumL wf (takeL n L) ≤ 1500000) := by
  have h1 := take_le_tot hok n
  have h2 := cost_in hp (take_ok L n hok)
  have h3 := wet_in (take_ok L n hok)
  exact ⟨⟨by omega, by omega⟩, by omega, by omega⟩
theorem bestK_in {pf : Nat → Int} (hp : ∀ i, i < 5 → 0 ≤ pf i ∧ pf i ≤ 2000) {L1 L2 : List Ly} (h1 : lysOk L1) (h2 : lysOk L2) (t1 : tot L1 ≤ 5000) (t2 : tot L2 ≤ 5000) (n mw lo : Int) : ∀ k, 0 ≤ (bestK pf L1 L2 n mw lo k).2.2 ∧ (bestK pf L1 L2 n mw lo k).2.2 ≤ 20000000
  | 0 => by simp [bestK]
  | k + 1 => by
    have ih := bestK_in hp h1 h2 t1 t2 n mw lo k
    have a1 := (sums_in hp h1 t1 (lo + (k : Int))).1
    have a2 := (sums_in hp h2 t2 (n - (lo + (k : Int)))).1
    unfold bestK offF
    split
    · show 0 ≤ mixC pf L1 L2 n (lo + (k : Int)) ∧ mixC pf L1 L2 n (lo + (k : Int)) ≤ 20000000
      unfold mixC
      omega
    · exact ih
theorem FlowR.cong {σ : Wd} {a b p : Nat} {pf : Nat → Int} {L : List Ly} {k k' : Int} (h : FlowR σ a b p pf L k) (e : k = k') : FlowR σ a b p pf L k' := e ▸ h
set_option maxHeartbeats 4000000 in
set_option maxRecDepth 20000 in
theorem c_leastShare (l : Launch) (hfl : l.stackTraces = false) (D : va_G) (cy : Nat → Nat) (σ : Wd) (h9 q1 q2 q3 q4 : Nat) (cap : Int) (mf : Bool) (ly : List Ly) (hb : BinR cy σ h9 q1 q2 q3 q4 (cap, mf, ly)) (n : Int) (hn : 0 ≤ n ∧ n ≤ 1000000) (ht : 0 ≤ tot ly ∧ tot ly ≤ 1000000) : Ct l yX6_leastShare cX6_leastShare 2 (some .int) 0 0 0 D cy [.ref h9, vi (n)] σ (fun v σ' => v = some (vi (max 0 (n - tot ly))) ∧ σ' = σ) noX := by
  refine ct_start (by decide +kernel) hfl rfl (fun κ e1 e2 e3 C E NH => ?_)
  subst e1 e2 e3
  have C : Cx κ cX6_leastShare 2 RX6 "leastShare" 0 := C
  obtain ⟨-, -, -, -, hc, hs⟩ := id E
  show J κ σ [(0, .ref h9), (1, vi (n))] 0 [] 0 0
  obtain ⟨old7, ga7, gb7, gc7, gd7, ⟨hh7, -, -⟩, -⟩ := id hb
  dsimp only at hh7
  refine j_iconst C dX6_leastShare_0 rfl ?_
  refine j_iload_n 1 C dX6_leastShare_1 rfl rfl rfl ?_
  refine j_aload_n 0 C dX6_leastShare_2 rfl rfl rfl ?_
  refine j_get C dX6_leastShare_3 rfl fg_X6_153 hh7 rfl ?_
  refine j_isub C dX6_leastShare_6 rfl ?_
  refine j_max (z := (max 0 (n - tot ly))) C dX6_leastShare_7 rfl mm_X6_361 ms_max mi_math mc_max (Nat.le_of_ble_eq_true rfl) (by omega) (by omega) ⟨by omega, by omega⟩ ⟨by omega, by omega⟩ rfl ?_
  exact j_iret C E dX6_leastShare_10 (by omega) (by omega) ⟨rfl, rfl⟩
set_option maxHeartbeats 8000000 in
set_option maxRecDepth 20000 in
theorem c_bestGo (l : Launch) (hfl : l.stackTraces = false) (D : va_G) (cy : Nat → Nat) (σ : Wd) (tg ad : Nat → Nat) (bs : List Bn) (ru : Nat → Int × Int) (se : Int) (pf : Nat → Int) (hd : Hd) (ca : Int) (evs : List Evt) (ln : List Int) (hX0 : RX cy σ tg ad bs ru se pf hd ca evs ln) (i : Nat) (hi : i < bs.length) (j : Nat) (hj : j < bs.length) (n mw : Int) (hn : 0 ≤ n ∧ n ≤ 500) (hmw : 0 ≤ mw ∧ mw ≤ 1000000) : Ct l yX6_bestByGoingOn cX6_bestByGoingOn 11 (some (.object "GrainElevator$Blend")) 5 3 17 D cy [.ref (ad 0), .ref (bq ad 100 i 0), .ref (bq ad 100 j 0), vi (n), vi (mw)] σ (fun v σ' => ∃ bl : Nat, v = some (.ref bl) ∧ BlR σ' bl (bestF pf (fl (gB bs i)) (fl (gB bs j)) n mw) ∧ Keep σ σ' (fun _ => False)) noX := by
  refine ct_start (by decide +kernel) hfl rfl (fun κ e1 e2 e3 C E NH => ?_)
  subst e1 e2 e3
  have C : Cx κ cX6_bestByGoingOn 11 RX6 "bestByGoingOn" 5 := C
  obtain ⟨-, -, -, -, hc, hs⟩ := id E
  show J κ σ [(0, .ref (ad 0)), (1, .ref (bq ad 100 i 0)), (2, .ref (bq ad 100 j 0)), (3, vi (n)), (4, vi (mw))] 0 [] 0 0
  have hXX := hX0
  obtain ⟨⟨x1, x2⟩, hB, ⟨bsA, hA, hAe⟩, hEv, hX, hO⟩ := hXX
  obtain ⟨⟨hR, t7, t8, t9⟩, ⟨hPr, t10⟩, ⟨hH, t11, t12⟩, cap0, hSb, t13, t14⟩ := id hX
  have hL1 := hB.1.1
  have hL5 := hEv.1.1
  have hbl := bins_len ad 100 bs.length
  have hel9 := evl_len ad evs.length
  have h6 := hB.2.1
  obtain ⟨⟨hc1, hc2⟩, hc3, hc4⟩ := hO.2.2.2.1
  have hev80 := hO.2.2.1.2
  have hpr := hO.2.2.2.2.1
  have hRo := hR.1
  have hHo := hH.1
  obtain ⟨ml0, g0, hSc, -⟩ := id hSb
  have hSo := hSc.1
  have hTb := totB_in hO.2.1
  obtain ⟨m91, hl91, -⟩ := id hL1
  obtain ⟨m92, hl92, -⟩ := id hL5
  obtain ⟨⟨cap, mf, ly⟩, hg7⟩ : ∃ z, gB bs (i : Int) = z := ⟨_, rfl⟩
  have hb7 := hB.at hi hg7
  have hbk7 := hO.2.1 _ (gB_mem (bs := bs) (i := (i : Int)) (by omega) (by omega))
  rw [hg7] at hbk7
  obtain ⟨hcp7, hly7, htc7⟩ := hbk7
  dsimp only at hcp7 hly7 htc7
  have ht07 := tot_0 hly7
  obtain ⟨old7, ga7, gb7, gc7, gd7, ⟨hh7, -, -⟩, -, hcn7, -, hok7⟩ := id hb7
  dsimp only at hh7 hcn7 hok7
  obtain ⟨⟨cap', mf', lz⟩, hg8⟩ : ∃ z, gB bs (j : Int) = z := ⟨_, rfl⟩
  have hb8 := hB.at hj hg8
  have hbk8 := hO.2.1 _ (gB_mem (bs := bs) (i := (j : Int)) (by omega) (by omega))
  rw [hg8] at hbk8
  obtain ⟨hcp8, hly8, htc8⟩ := hbk8
  dsimp only at hcp8 hly8 htc8
  have ht08 := tot_0 hly8
  obtain ⟨old8, ga8, gb8, gc8, gd8, ⟨hh8, -, -⟩, -, hcn8, -, hok8⟩ := id hb8
  dsimp only at hh8 hcn8 hok8
  obtain ⟨L1, hL1e⟩ : ∃ L, fl (cap, mf, ly) = L := ⟨_, rfl⟩
  obtain ⟨L2, hL2e⟩ : ∃ L, fl (cap', mf', lz) = L := ⟨_, rfl⟩
  have hok1 : lysOk L1 := by rw [← hL1e]; exact fl_ok (b := (cap, mf, ly)) hly7
  have hok2 : lysOk L2 := by rw [← hL2e]; exact fl_ok (b := (cap', mf', lz)) hly8
  have ht1 : tot L1 = tot ly := by rw [← hL1e]; exact sum_fl _ (cap, mf, ly)
  have ht2 : tot L2 = tot lz := by rw [← hL2e]; exact sum_fl _ (cap', mf', lz)
  have hbF : fl (gB bs i) = L1 := by rw [hg7]; exact hL1e
  have hbG : fl (gB bs j) = L2 := by rw [hg8]; exact hL2e
  rw [hbF, hbG] at E
  have kp0 : Keep σ σ (fun _ => False) := Keep.rf
  have dm0 : σ.1 = σ.1 := rfl
  refine j_new C dX6_bestByGoingOn_0 rfl na_X6_203 (by omega) (by omega) (k' := 1) (n' := 3) (by first | rfl | omega) (by first | rfl | omega) (fun bl τ1 nq3 ee2 => ?_)
  have u4 := x1.old' ee2 nq3
  have u5 := hl91.old' ee2 nq3
  have u6 := hl92.old' ee2 nq3
  have u7 := hRo.old' ee2 nq3
  have u8 := hPr.old' ee2 nq3
  have u9 := hHo.old' ee2 nq3
  have u10 := hH.2.old' ee2 nq3
  have u11 := hSo.old' ee2 nq3
  have u12 := hh7.old' ee2 nq3
  have u13 := hh8.old' ee2 nq3
  have u14 : has τ1 bl (.inr (1, [vi (0), vi (0), vi (0)])) := has.fresh' ee2
  have kp15 := kp0.new ee2 nq3
  have dm16 := (dom_new ee2).trans (congrArg (· ++ [bl]) dm0)
  have nnbl : bl ∉ σ.1 := nq3
  refine j_dup C dX6_bestByGoingOn_3 rfl rfl ?_
  refine j_callN (st' := [.ref bl]) (As := []) C dX6_bestByGoingOn_4 rfl m_X6_341 rfl rfl (c_blendInit (kL κ) hfl (kD κ) (kc κ) τ1 bl u14) rfl (by omega) (by omega) (by omega) (fun _ _ hx => hx.elim) (fun v18 τ17 hp19 => ?_)
  obtain ⟨rfl, hBl, hkb, hdb⟩ := hp19
  show J κ τ17 [(0, .ref (ad 0)), (1, .ref (bq ad 100 i 0)), (2, .ref (bq ad 100 j 0)), (3, vi (n)), (4, vi (mw))] 7 [.ref bl] _ _
  have kb1 : Keep σ τ17 (fun _ => False) := kp15.tr2 hkb (fun y z => Or.inr (by rw [show y = bl from z]; exact nnbl))
  have db1 := hdb.trans dm16
  have xx20 := kb1 _ _ x1 (fun z => z)
  have xx21 := kb1 _ _ hh7 (fun z => z)
  have xx22 := kb1 _ _ hh8 (fun z => z)
  have hBl0 := hBl
  refine j_astore (lv' := [(0, .ref (ad 0)), (1, .ref (bq ad 100 i 0)), (2, .ref (bq ad 100 j 0)), (3, vi (n)), (4, vi (mw)), (5, .ref bl)]) [1, 2, 3, 4, 5, 0] C dX6_bestByGoingOn_7 rfl rfl rfl ?_
  refine j_new C dX6_bestByGoingOn_9 rfl na_X6_118 (by omega) (by omega) (k' := 2) (n' := 10) (by first | rfl | omega) (by first | rfl | omega) (fun f1 τ24 nq26 ee25 => ?_)
  have u27 := xx20.old' ee25 nq26
  have u28 := xx21.old' ee25 nq26
  have u29 := xx22.old' ee25 nq26
  have u30 := hBl.old' ee25 nq26
  have u31 : has τ24 f1 (.inr (3, [.null, .null, vi (0), vi (0), vi (0), vi (0), vi (0)])) := has.fresh' ee25
  have kp32 := kb1.new ee25 nq26
  have dm33 := (dom_new ee25).trans (congrArg (· ++ [f1]) db1)
  refine j_dup C dX6_bestByGoingOn_12 rfl rfl ?_
  refine j_aload_n 1 C dX6_bestByGoingOn_13 rfl rfl rfl ?_
  refine j_aload_n 0 C dX6_bestByGoingOn_14 rfl rfl rfl ?_
  refine j_get C dX6_bestByGoingOn_15 rfl fg_X6_29 u27 rfl ?_
  have hbFf1 := hb7.keep kp32 (fun _ _ z => z)
  have hpFf1 := kp32 _ _ hPr (fun z => z)
  have nnf1 : f1 ∉ σ.1 := fun z => nq26 (by rw [db1]; first | exact z | simp [z])
  refine j_callI (st' := [.ref f1]) (As := [.ref (bq ad 100 i 0), .ref (ad 10)]) C dX6_bestByGoingOn_18 rfl m_X6_120 rfl rfl (c_flowInit (kL κ) hfl (kD κ) (kc κ) τ24 (bq ad 100 i 0) (bq ad 100 i 1) (bq ad 100 i 2) (bq ad 100 i 3) (bq ad 100 i 4) cap mf ly hbFf1 f1 (ad 10) pf hpFf1 u31) rfl (by omega) (by omega) (by omega) (fun _ _ hx => hx.elim) (fun v35 τ34 hp36 => ?_)
  obtain ⟨rfl, hFf1, hkFf1, hdFf1⟩ := hp36
  show J κ τ34 [(0, .ref (ad 0)), (1, .ref (bq ad 100 i 0)), (2, .ref (bq ad 100 j 0)), (3, vi (n)), (4, vi (mw)), (5, .ref bl)] 21 [.ref f1] _ _
  have kff1 : Keep σ τ34 (fun _ => False) := kp32.tr2 hkFf1 (fun y z => Or.inr (by rw [show y = f1 from z]; exact nnf1))
  have dnf1 := hdFf1.trans dm33
  obtain ⟨i7f1, u7f1, q7f1, -⟩ := id hFf1
  have hBl1 := hkFf1 _ _ u30 (fun z => nq26 (by rw [← show bl = f1 from z]; exact hBl.1))
  have xx37 := kff1 _ _ x1 (fun z => z)
  have xx38 := kff1 _ _ hh7 (fun z => z)
  have xx39 := kff1 _ _ hh8 (fun z => z)
  refine j_astore (lv' := [(0, .ref (ad 0)), (1, .ref (bq ad 100 i 0)), (2, .ref (bq ad 100 j 0)), (3, vi (n)), (4, vi (mw)), (5, .ref bl), (6, .ref f1)]) [1, 2, 3, 4, 5, 6, 0] C dX6_bestByGoingOn_21 rfl rfl rfl ?_
  obtain ⟨i91, u91, hfo1, -⟩ := id hFf1
  refine j_new C dX6_bestByGoingOn_23 rfl na_X6_118 (by omega) (by omega) (k' := 3) (n' := 17) (by first | rfl | omega) (by first | rfl | omega) (fun f2 τ41 nq43 ee42 => ?_)
  have u44 := xx37.old' ee42 nq43
  have u45 := xx38.old' ee42 nq43
  have u46 := xx39.old' ee42 nq43
  have u47 := hBl1.old' ee42 nq43
  have u48 := hfo1.old' ee42 nq43
  have u49 : has τ41 f2 (.inr (3, [.null, .null, vi (0), vi (0), vi (0), vi (0), vi (0)])) := has.fresh' ee42
  have kp50 := kff1.new ee42 nq43
  have dm51 := (dom_new ee42).trans (congrArg (· ++ [f2]) dnf1)
  have hne12 : f1 ≠ f2 := hfo1.apart nq43
  refine j_dup C dX6_bestByGoingOn_26 rfl rfl ?_
  refine j_aload_n 2 C dX6_bestByGoingOn_27 rfl rfl rfl ?_
  refine j_aload_n 0 C dX6_bestByGoingOn_28 rfl rfl rfl ?_
  refine j_get C dX6_bestByGoingOn_29 rfl fg_X6_29 u44 rfl ?_
  have hFf1b : FlowR τ41 f1 (bq ad 100 i 0) (ad 10) pf (fl (cap, mf, ly)) 0 := hFf1.keep (Keep.rf.new (by assumption) nq43 : Keep τ34 τ41 (fun _ => False)) (fun z => z)
  have hbFf2 := hb8.keep kp50 (fun _ _ z => z)
  have hpFf2 := kp50 _ _ hPr (fun z => z)
  have nnf2 : f2 ∉ σ.1 := fun z => nq43 (by rw [dnf1]; first | exact z | simp [z])
  refine j_callI (st' := [.ref f2]) (As := [.ref (bq ad 100 j 0), .ref (ad 10)]) C dX6_bestByGoingOn_32 rfl m_X6_120 rfl rfl (c_flowInit (kL κ) hfl (kD κ) (kc κ) τ41 (bq ad 100 j 0) (bq ad 100 j 1) (bq ad 100 j 2) (bq ad 100 j 3) (bq ad 100 j 4) cap' mf' lz hbFf2 f2 (ad 10) pf hpFf2 u49) rfl (by omega) (by omega) (by omega) (fun _ _ hx => hx.elim) (fun v53 τ52 hp54 => ?_)
  obtain ⟨rfl, hFf2, hkFf2, hdFf2⟩ := hp54
  show J κ τ52 [(0, .ref (ad 0)), (1, .ref (bq ad 100 i 0)), (2, .ref (bq ad 100 j 0)), (3, vi (n)), (4, vi (mw)), (5, .ref bl), (6, .ref f1)] 35 [.ref f2] _ _
  have kff2 : Keep σ τ52 (fun _ => False) := kp50.tr2 hkFf2 (fun y z => Or.inr (by rw [show y = f2 from z]; exact nnf2))
  have dnf2 := hdFf2.trans dm51
  obtain ⟨i7f2, u7f2, q7f2, -⟩ := id hFf2
  have hBl2 := hkFf2 _ _ u47 (fun z => nq43 (by rw [← show bl = f2 from z]; exact hBl1.1))
  have hF1c := hFf1b.keep hkFf2 (fun z => hne12 z)
  have xx55 := kff2 _ _ x1 (fun z => z)
  have xx56 := kff2 _ _ hh7 (fun z => z)
  have xx57 := kff2 _ _ hh8 (fun z => z)
  have nnf : f1 ∉ σ.1 ∧ f2 ∉ σ.1 ∧ bl ∉ σ.1 := ⟨nnf1, nnf2, nnbl⟩
  have hlo : loS L2 n = max 0 (n - tot lz) := by unfold loS; rw [ht2]
  have hhi : hiS L1 n = min (tot ly) n := by unfold hiS; rw [ht1]
  obtain ⟨lo, hlo9⟩ : ∃ z, loS L2 n = z := ⟨_, rfl⟩
  obtain ⟨hi9, hhi9⟩ : ∃ z, hiS L1 n = z := ⟨_, rfl⟩
  rw [hlo9] at hlo
  rw [hhi9] at hhi
  unfold bestF at E
  rw [hlo9, hhi9] at E
  have hBlx := hBl2
  have hF1x := hF1c
  have hF2x := hFf2
  refine j_astore (lv' := [(0, .ref (ad 0)), (1, .ref (bq ad 100 i 0)), (2, .ref (bq ad 100 j 0)), (3, vi (n)), (4, vi (mw)), (5, .ref bl), (6, .ref f1), (7, .ref f2)]) [1, 2, 3, 4, 5, 6, 7, 0] C dX6_bestByGoingOn_35 rfl rfl rfl ?_
  refine j_aload_n 2 C dX6_bestByGoingOn_37 rfl rfl rfl ?_
  refine j_iload_n 3 C dX6_bestByGoingOn_38 rfl rfl rfl ?_
  have hbl58 := hb8.keep kff2 (fun _ _ q => q)
  refine j_callS (st' := []) (As := [.ref (bq ad 100 j 0), vi (n)]) C dX6_bestByGoingOn_39 rfl m_X6_342 rfl rfl (c_leastShare (kL κ) hfl (kD κ) (kc κ) τ52 (bq ad 100 j 0) (bq ad 100 j 1) (bq ad 100 j 2) (bq ad 100 j 3) (bq ad 100 j 4) cap' mf' lz hbl58 n ⟨by omega, by omega⟩ ⟨by omega, by omega⟩) rfl (by omega) (by omega) (by omega) (fun _ _ hx => hx.elim) (fun v60 τ59 hp61 => ?_)
  obtain ⟨rfl, hs9⟩ := hp61
  replace hs9 := hs9.symm
  subst hs9
  show J κ τ52 [(0, .ref (ad 0)), (1, .ref (bq ad 100 i 0)), (2, .ref (bq ad 100 j 0)), (3, vi (n)), (4, vi (mw)), (5, .ref bl), (6, .ref f1), (7, .ref f2)] 42 [vi (max 0 (n - tot lz))] _ _
  rw [← hlo]
  refine j_istore (lv' := [(0, .ref (ad 0)), (1, .ref (bq ad 100 i 0)), (2, .ref (bq ad 100 j 0)), (3, vi (n)), (4, vi (mw)), (5, .ref bl), (6, .ref f1), (7, .ref f2), (8, vi (lo))]) [1, 2, 3, 4, 5, 6, 7, 8, 0] C dX6_bestByGoingOn_42 rfl rfl rfl ?_
  refine j_aload_n 1 C dX6_bestByGoingOn_44 rfl rfl rfl ?_
  refine j_get C dX6_bestByGoingOn_45 rfl fg_X6_153 xx56 rfl ?_
  refine j_iload_n 3 C dX6_bestByGoingOn_48 rfl rfl rfl ?_
  refine j_min (z := hi9) C dX6_bestByGoingOn_49 rfl mm_X6_346 ms_min mi_math mc_min (Nat.le_of_ble_eq_true rfl) (by omega) (by omega) ⟨by omega, by omega⟩ ⟨by omega, by omega⟩ hhi.symm ?_
  refine j_istore (lv' := [(0, .ref (ad 0)), (1, .ref (bq ad 100 i 0)), (2, .ref (bq ad 100 j 0)), (3, vi (n)), (4, vi (mw)), (5, .ref bl), (6, .ref f1), (7, .ref f2), (8, vi (lo)), (9, vi (hi9))]) [1, 2, 3, 4, 5, 6, 7, 8, 9, 0] C dX6_bestByGoingOn_52 rfl rfl rfl ?_
  refine j_aload 6 C dX6_bestByGoingOn_54 rfl rfl ?_
  refine j_iload 8 C dX6_bestByGoingOn_56 rfl rfl ?_
  obtain ⟨i5, u5, hfo5, -⟩ := id hF1x
  have hbGhFw62 := hb7.keep kff2 (fun _ _ z => z)
  have hpGhFw62 := kff2 _ _ hPr (fun z => z)
  refine j_callV (st' := []) (As := [vi (lo)]) C dX6_bestByGoingOn_58 rfl m_X6_123 hfo5 rfl rfl rfl (c_goOn (kL κ) hfl (kD κ) (kc κ) τ52 (bq ad 100 i 0) (bq ad 100 i 1) (bq ad 100 i 2) (bq ad 100 i 3) (bq ad 100 i 4) cap mf ly hbGhFw62 f1 (ad 10) pf 0 lo hpGhFw62 hF1x ⟨by omega, by omega⟩) rfl (by omega) (by omega) (by omega) (fun _ _ hx => hx.elim) (fun v64 τ63 hp65 => ?_)
  obtain ⟨rfl, hFw62, hFw62k, hFw62d⟩ := hp65
  show J κ τ63 [(0, .ref (ad 0)), (1, .ref (bq ad 100 i 0)), (2, .ref (bq ad 100 j 0)), (3, vi (n)), (4, vi (mw)), (5, .ref bl), (6, .ref f1), (7, .ref f2), (8, vi (lo)), (9, vi (hi9))] 61 [] _ _
  have hFw62K : Keep σ τ63 (fun _ => False) := kff2.tr2 hFw62k (fun y z => Or.inr (by rw [show y = f1 from z]; exact nnf1))
  have hFw62D := hFw62d.trans dnf2
  have hBly := hFw62k _ _ hBlx (fun z => nnf.2.2 (by exfalso; exact (hBlx.nk (hfo5) rfl) z))
  have hF2y := hF2x.keep hFw62k (fun z => hne12 z.symm)
  have xx66 := hFw62K _ _ x1 (fun z => z)
  have xx67 := hFw62K _ _ hh7 (fun z => z)
  have xx68 := hFw62K _ _ hh8 (fun z => z)
  obtain ⟨i6, u6, hfo6, -⟩ := id hF2y
  refine j_aload 7 C dX6_bestByGoingOn_61 rfl rfl ?_
  refine j_iload_n 3 C dX6_bestByGoingOn_63 rfl rfl rfl ?_
  refine j_iload 8 C dX6_bestByGoingOn_64 rfl rfl ?_
  refine j_isub C dX6_bestByGoingOn_66 rfl ?_
  have hbGhFw69 := hb8.keep hFw62K (fun _ _ z => z)
  have hpGhFw69 := hFw62K _ _ hPr (fun z => z)
  refine j_callV (st' := []) (As := [vi (n - lo)]) C dX6_bestByGoingOn_67 rfl m_X6_123 hfo6 rfl rfl rfl (c_goOn (kL κ) hfl (kD κ) (kc κ) τ63 (bq ad 100 j 0) (bq ad 100 j 1) (bq ad 100 j 2) (bq ad 100 j 3) (bq ad 100 j 4) cap' mf' lz hbGhFw69 f2 (ad 10) pf 0 (n - lo) hpGhFw69 hF2y ⟨by omega, by omega⟩) rfl (by omega) (by omega) (by omega) (fun _ _ hx => hx.elim) (fun v71 τ70 hp72 => ?_)
  obtain ⟨rfl, hFw69, hFw69k, hFw69d⟩ := hp72
  show J κ τ70 [(0, .ref (ad 0)), (1, .ref (bq ad 100 i 0)), (2, .ref (bq ad 100 j 0)), (3, vi (n)), (4, vi (mw)), (5, .ref bl), (6, .ref f1), (7, .ref f2), (8, vi (lo)), (9, vi (hi9))] 70 [] _ _
  have hFw69K : Keep σ τ70 (fun _ => False) := hFw62K.tr2 hFw69k (fun y z => Or.inr (by rw [show y = f2 from z]; exact nnf2))
  have hFw69D := hFw69d.trans hFw62D
  have hBlz := hFw69k _ _ hBly (fun z => (hBly.nk hfo6 rfl) z)
  have hF1z := hFw62.keep hFw69k (fun z => hne12 z)
  rw [hL1e] at hF1z
  rw [hL2e] at hFw69
  refine j_iload 8 C dX6_bestByGoingOn_70 rfl rfl ?_
  refine j_istore (lv' := [(0, .ref (ad 0)), (1, .ref (bq ad 100 i 0)), (2, .ref (bq ad 100 j 0)), (3, vi (n)), (4, vi (mw)), (5, .ref bl), (6, .ref f1), (7, .ref f2), (8, vi (lo)), (9, vi (hi9)), (10, vi (lo))]) [1, 2, 3, 4, 5, 6, 7, 8, 9, 10, 0] C dX6_bestByGoingOn_72 rfl rfl rfl ?_
  have lp : ∀ (N : Nat) (s : Int) (k : Nat) (σ1 : Wd), Keep σ σ1 (fun _ => False) → BlR σ1 bl (bestK pf L1 L2 n mw lo k) → FlowR σ1 f1 (bq ad 100 i 0) (ad 10) pf L1 (min s (tot L1)) → FlowR σ1 f2 (bq ad 100 j 0) (ad 10) pf L2 (max (n - s) 0) → s = lo + (k : Int) → s ≤ max lo (hi9 + 1) → (1000000 - s).toNat < N → J κ σ1 [(0, .ref (ad 0)), (1, .ref (bq ad 100 i 0)), (2, .ref (bq ad 100 j 0)), (3, vi (n)), (4, vi (mw)), (5, .ref bl), (6, .ref f1), (7, .ref f2), (8, vi (lo)), (9, vi (hi9)), (10, vi (s))] 74 [] 3 17 := by
    intro N
    induction N with
    | zero => intro s k σ1 hk1 hBq hG1 hG2 hsk hsh hN; exact absurd hN (Nat.not_lt_zero _)
    | succ N ih =>
      intro s k σ1 hk1 hBq hG1 hG2 hsk hsh hN
      have hBk := bestK_in hpr hok1 hok2 (by omega) (by omega) n mw lo k
      have s1 := sums_in hpr hok1 (by omega) s
      have s2 := sums_in hpr hok2 (by omega) (n - s)
      obtain ⟨i5, u5, hfo5, -⟩ := id hG1
      obtain ⟨i6, u6, hfo6, -⟩ := id hG2
      refine j_iload 10 C dX6_bestByGoingOn_74 rfl rfl ?_
      refine j_iload 9 C dX6_bestByGoingOn_76 rfl rfl ?_
      refine j_icmp_gt (tgt := 112) C dX6_bestByGoingOn_78 rfl rfl ⟨by omega, by omega⟩ ⟨by omega, by omega⟩ (fun cc73 => ?_) (fun cc73 => ?_)
      · refine j_aload 5 C dX6_bestByGoingOn_112 rfl rfl ?_
        exact j_aret C E dX6_bestByGoingOn_114 (Or.inl ⟨_, rfl⟩) (by omega) (by omega) ⟨bl, rfl, (by rw [show (hi9 + 1 - lo).toNat = k by omega]; exact hBq), hk1⟩
      · rw [show min s (tot L1) = s by omega] at hfo5
        rw [show max (n - s) 0 = n - s by omega] at hfo6
        refine j_aload 5 C dX6_bestByGoingOn_81 rfl rfl ?_
        refine j_iload 10 C dX6_bestByGoingOn_83 rfl rfl ?_
        refine j_aload 6 C dX6_bestByGoingOn_85 rfl rfl ?_
        refine j_aload 7 C dX6_bestByGoingOn_87 rfl rfl ?_
        refine j_iload 4 C dX6_bestByGoingOn_89 rfl rfl ?_
        refine j_callV (st' := []) (As := [vi (s), .ref f1, .ref f2, vi (mw)]) C dX6_bestByGoingOn_91 rfl m_X6_351 hBq rfl rfl rfl (c_offer (kL κ) hfl (kD κ) (kc κ) σ1 bl f1 f2 _ s mw _ _ _ _ _ _ _ _ _ _ _ _ _ _ hBq hfo5 hfo6 ⟨by omega, by omega⟩ ⟨⟨by omega, by omega⟩, ⟨by omega, by omega⟩, ⟨by omega, by omega⟩, ⟨by omega, by omega⟩, ⟨by omega, by omega⟩⟩) rfl (by omega) (by omega) (by omega) (fun _ _ hx => hx.elim) (fun v75 τ74 hp76 => ?_)
        obtain ⟨rfl, hO1, hO2, hO3⟩ := hp76
        show J κ τ74 [(0, .ref (ad 0)), (1, .ref (bq ad 100 i 0)), (2, .ref (bq ad 100 j 0)), (3, vi (n)), (4, vi (mw)), (5, .ref bl), (6, .ref f1), (7, .ref f2), (8, vi (lo)), (9, vi (hi9)), (10, vi (s))] 94 [] _ _
        have hk2 : Keep σ τ74 (fun _ => False) := hk1.tr2 hO2 (fun y z => Or.inr (by rw [show y = bl from z]; exact nnf.2.2))
        have hG12 := hG1.keep hO2 (fun z => (hfo5.nk hBq rfl) z)
        have hG22 := hG2.keep hO2 (fun z => (hfo6.nk hBq rfl) z)
        obtain ⟨i3, u3, hfo3, -⟩ := id hG12
        rw [← hL1e] at hG12
        rw [← hL2e] at hG22
        refine j_aload 6 C dX6_bestByGoingOn_94 rfl rfl ?_
        refine j_iconst C dX6_bestByGoingOn_96 rfl ?_
        have hb77 := hb7.keep hk2 (fun _ _ z => z)
        have hp77 := hk2 _ _ hPr (fun z => z)
        refine j_callV (st' := []) (As := [vi (1)]) C dX6_bestByGoingOn_97 rfl m_X6_123 hfo3 rfl rfl rfl (c_goOn (kL κ) hfl (kD κ) (kc κ) τ74 (bq ad 100 i 0) (bq ad 100 i 1) (bq ad 100 i 2) (bq ad 100 i 3) (bq ad 100 i 4) cap mf ly hb77 f1 (ad 10) pf _ 1 hp77 hG12 ⟨by omega, by omega⟩) rfl (by omega) (by omega) (by omega) (fun _ _ hx => hx.elim) (fun v78 τ77 hp79 => ?_)
        obtain ⟨rfl, hG13, hk3, hd3⟩ := hp79
        show J κ τ77 [(0, .ref (ad 0)), (1, .ref (bq ad 100 i 0)), (2, .ref (bq ad 100 j 0)), (3, vi (n)), (4, vi (mw)), (5, .ref bl), (6, .ref f1), (7, .ref f2), (8, vi (lo)), (9, vi (hi9)), (10, vi (s))] 100 [] _ _
        have hk4 : Keep σ τ77 (fun _ => False) := hk2.tr2 hk3 (fun y z => Or.inr (by rw [show y = f1 from z]; exact nnf.1))
        have hB3 := hk3 _ _ hO1 (fun z => (hO1.nk hfo3 rfl) z)
        have hG23 := hG22.keep hk3 (fun z => hne12 z.symm)
        obtain ⟨i2, u2, hfo2, -⟩ := id hG23
        refine j_aload 7 C dX6_bestByGoingOn_100 rfl rfl ?_
        refine j_iconst C dX6_bestByGoingOn_102 rfl ?_
        have hb88 := hb8.keep hk4 (fun _ _ z => z)
        have hp88 := hk4 _ _ hPr (fun z => z)
        refine j_callV (st' := []) (As := [vi (1)]) C dX6_bestByGoingOn_103 rfl m_X6_355 hfo2 rfl rfl rfl (c_goBack (kL κ) hfl (kD κ) (kc κ) τ77 (bq ad 100 j 0) (bq ad 100 j 1) (bq ad 100 j 2) (bq ad 100 j 3) (bq ad 100 j 4) cap' mf' lz hb88 f2 (ad 10) pf _ hp88 hG23) rfl (by omega) (by omega) (by omega) (fun _ _ hx => hx.elim) (fun v81 τ80 hp82 => ?_)
        obtain ⟨rfl, hG24, hk5, hd5⟩ := hp82
        show J κ τ80 [(0, .ref (ad 0)), (1, .ref (bq ad 100 i 0)), (2, .ref (bq ad 100 j 0)), (3, vi (n)), (4, vi (mw)), (5, .ref bl), (6, .ref f1), (7, .ref f2), (8, vi (lo)), (9, vi (hi9)), (10, vi (s))] 106 [] _ _
        have hk6 : Keep σ τ80 (fun _ => False) := hk4.tr2 hk5 (fun y z => Or.inr (by rw [show y = f2 from z]; exact nnf.2.1))
        have hB4 := hk5 _ _ hB3 (fun z => (hB3.nk hfo2 rfl) z)
        have hG14 := hG13.keep hk5 (fun z => hne12 z)
        rw [hL1e] at hG14
        rw [hL2e] at hG24
        refine j_iinc (y := s + 1) (lv' := [(0, .ref (ad 0)), (1, .ref (bq ad 100 i 0)), (2, .ref (bq ad 100 j 0)), (3, vi (n)), (4, vi (mw)), (5, .ref bl), (6, .ref f1), (7, .ref f2), (8, vi (lo)), (9, vi (hi9)), (10, vi (s + 1))]) 10 [1, 2, 3, 4, 5, 6, 7, 8, 9, 10, 0] C dX6_bestByGoingOn_106 rfl rfl rfl rfl rfl ?_
        refine j_goto (tgt := 74) C dX6_bestByGoingOn_109 rfl ?_
        refine ih (s + 1) (k + 1) τ80 hk6 (by show BlR _ _ (offF _ (lo + (k : Int)) (mixC pf L1 L2 n (lo + (k : Int))) (mixW L1 L2 n (lo + (k : Int))) mw); rw [← hsk]; exact hB4) (hG14.cong (by omega)) (hG24.cong (by omega)) (by omega) (by omega) (by omega)
  exact lp _ lo 0 τ70 hFw69K hBlz (hF1z.cong (by omega)) (hFw69.cong (by omega)) (by omega) (by omega) (Nat.lt_succ_self _)
