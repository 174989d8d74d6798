/-! GrainElevator: the grade of a blend, a good blend -/
theorem dirt_in : ∀ {l : List Ly}, lysOk l → 0 ≤ sumL df l ∧ sumL df l ≤ 100 * tot l
  | [], _ => by simp [sumL, tot]
  | x :: l, h => by
    obtain ⟨⟨a1, a2⟩, -, ⟨b1, b2⟩, -⟩ := h x List.mem_cons_self
    have ih := dirt_in (l := l) (fun y hy => h y (List.mem_cons_of_mem _ hy))
    have m1 : 0 ≤ x.1 * x.2.2.1 := Int.mul_nonneg (by omega) (by omega)
    have m2 : x.1 * x.2.2.1 ≤ x.1 * 100 := Int.mul_le_mul_of_nonneg_left b2 (by omega)
    unfold tot at ih ⊢
    simp only [sumL, df] at ih ⊢
    omega
theorem dirts_in {L : List Ly} (hok : lysOk L) (ht : tot L ≤ 5000) (n : Int) : 0 ≤ sumL df (takeL n L) ∧ sumL df (takeL n L) ≤ 500000 := by
  have h1 := take_le_tot hok n
  have h3 := dirt_in (take_ok L n hok)
  omega
def upD (a n : Int) : Int := (a + n - 1) / n
theorem upD_in {a n : Int} (ha : 0 ≤ a) (hn : 1 ≤ n) : 0 ≤ upD a n ∧ upD a n ≤ a + n - 1 := ⟨Int.ediv_nonneg (by omega) (by omega), Int.ediv_le_self _ (by omega)⟩
/-- the grade of a blend -/
def gradeM (ru : Nat → Int × Int) (se : Int) (L1 L2 : List Ly) (s r : Int) : Int := gradeF ru se (upD (sumL wf (takeL s L1) + sumL wf (takeL r L2)) (s + r)) (upD (sumL df (takeL s L1) + sumL df (takeL r L2)) (s + r))
set_option maxHeartbeats 4000000 in
set_option maxRecDepth 20000 in
theorem c_dividedUp (l : Launch) (hfl : l.stackTraces = false) (D : va_G) (cy : Nat → Nat) (σ : Wd) (a n : Int) (ha : 0 ≤ a ∧ a ≤ 100000000) (hn : 1 ≤ n ∧ n ≤ 100000000) : Ct l yX6_dividedUp cX6_dividedUp 2 (some .int) 0 0 0 D cy [vi (a), vi (n)] σ (fun v σ' => v = some (vi (upD a n)) ∧ σ' = σ) noX := by
  refine ct_start (by decide +kernel) hfl rfl (fun κ e1 e2 e3 C E NH => ?_)
  subst e1 e2 e3
  have C : Cx κ cX6_dividedUp 2 RX6 "dividedUp" 0 := C
  obtain ⟨-, -, -, -, hc, hs⟩ := id E
  show J κ σ [(0, vi (a)), (1, vi (n))] 0 [] 0 0
  refine j_iload_n 1 C dX6_dividedUp_0 rfl rfl rfl ?_
  refine j_iconst C dX6_dividedUp_1 rfl ?_
  refine j_icmp_ge (tgt := 9) C dX6_dividedUp_2 rfl rfl ⟨by omega, by omega⟩ ⟨by omega, by omega⟩ (fun cc1 => ?_) (fun cc1 => ?_)
  · refine j_iload_n 0 C dX6_dividedUp_9 rfl rfl rfl ?_
    refine j_iload_n 1 C dX6_dividedUp_10 rfl rfl rfl ?_
    refine j_iadd C dX6_dividedUp_11 rfl ?_
    refine j_iconst C dX6_dividedUp_12 rfl ?_
    refine j_isub C dX6_dividedUp_13 rfl ?_
    refine j_iload_n 1 C dX6_dividedUp_14 rfl rfl rfl ?_
    refine j_idiv C dX6_dividedUp_15 rfl ⟨by omega, by omega⟩ ⟨by omega, by omega⟩ ?_
    exact j_iret C E dX6_dividedUp_16 (by omega) (by omega) ⟨rfl, rfl⟩
  · exact absurd cc1 (by omega)
set_option maxHeartbeats 8000000 in
set_option maxRecDepth 20000 in
theorem c_gradeOf (l : Launch) (hfl : l.stackTraces = false) (D : va_G) (cy : Nat → Nat) (σ : Wd) (tg ad : Nat → Nat) (bs : List Bn) (ru : Nat → Int × Int) (se : Int) (pf : Nat → Int) (hd : Hd) (ca : Int) (evs : List Evt) (ln : List Int) (hX0 : RX cy σ tg ad bs ru se pf hd ca evs ln) (i : Nat) (hi : i < bs.length) (j : Nat) (hj : j < bs.length) (s r : Int) (hs9 : 0 ≤ s ∧ s ≤ tot (gB bs i).2.2) (hr9 : 0 ≤ r ∧ r ≤ tot (gB bs j).2.2) (hsr : 1 ≤ s + r) : Ct l yX6_gradeOfBlend cX6_gradeOfBlend 10 (some .int) 5 2 14 D cy [.ref (ad 0), .ref (bq ad 100 i 0), .ref (bq ad 100 j 0), vi (s), vi (r)] σ (fun v σ' => v = some (vi (gradeM ru se (fl (gB bs i)) (fl (gB bs j)) s r)) ∧ Keep σ σ' (fun _ => False)) noX := by
  refine ct_start (by decide +kernel) hfl rfl (fun κ e1 e2 e3 C E NH => ?_)
  subst e1 e2 e3
  have C : Cx κ cX6_gradeOfBlend 10 RX6 "gradeOfBlend" 5 := C
  obtain ⟨-, -, -, -, hc, hs⟩ := id E
  show J κ σ [(0, .ref (ad 0)), (1, .ref (bq ad 100 i 0)), (2, .ref (bq ad 100 j 0)), (3, vi (s)), (4, vi (r))] 0 [] 0 0
  have hXX := hX0
  obtain ⟨⟨x1, x2⟩, hB, ⟨bsA, hA, hAe⟩, hEv, hX, hO⟩ := hXX
  obtain ⟨⟨hR, t7, t8, t9⟩, ⟨hPr, t10⟩, ⟨hH, t11, t12⟩, cap0, hSb, t13, t14⟩ := id hX
  have hL1 := hB.1.1
  have hL5 := hEv.1.1
  have hbl := bins_len ad 100 bs.length
  have hel9 := evl_len ad evs.length
  have h6 := hB.2.1
  obtain ⟨⟨hc1, hc2⟩, hc3, hc4⟩ := hO.2.2.2.1
  have hev80 := hO.2.2.1.2
  have hpr := hO.2.2.2.2.1
  have hRo := hR.1
  have hHo := hH.1
  obtain ⟨ml0, g0, hSc, -⟩ := id hSb
  have hSo := hSc.1
  have hTb := totB_in hO.2.1
  obtain ⟨m91, hl91, -⟩ := id hL1
  obtain ⟨m92, hl92, -⟩ := id hL5
  obtain ⟨⟨cap, mf, ly⟩, hg7⟩ : ∃ z, gB bs (i : Int) = z := ⟨_, rfl⟩
  have hb7 := hB.at hi hg7
  have hbk7 := hO.2.1 _ (gB_mem (bs := bs) (i := (i : Int)) (by omega) (by omega))
  rw [hg7] at hbk7
  obtain ⟨hcp7, hly7, htc7⟩ := hbk7
  dsimp only at hcp7 hly7 htc7
  have ht07 := tot_0 hly7
  obtain ⟨old7, ga7, gb7, gc7, gd7, ⟨hh7, -, -⟩, -, hcn7, -, hok7⟩ := id hb7
  dsimp only at hh7 hcn7 hok7
  obtain ⟨⟨cap', mf', lz⟩, hg8⟩ : ∃ z, gB bs (j : Int) = z := ⟨_, rfl⟩
  have hb8 := hB.at hj hg8
  have hbk8 := hO.2.1 _ (gB_mem (bs := bs) (i := (j : Int)) (by omega) (by omega))
  rw [hg8] at hbk8
  obtain ⟨hcp8, hly8, htc8⟩ := hbk8
  dsimp only at hcp8 hly8 htc8
  have ht08 := tot_0 hly8
  obtain ⟨old8, ga8, gb8, gc8, gd8, ⟨hh8, -, -⟩, -, hcn8, -, hok8⟩ := id hb8
  dsimp only at hh8 hcn8 hok8
  obtain ⟨L1, hL1e⟩ : ∃ L, fl (cap, mf, ly) = L := ⟨_, rfl⟩
  obtain ⟨L2, hL2e⟩ : ∃ L, fl (cap', mf', lz) = L := ⟨_, rfl⟩
  have hok1 : lysOk L1 := by rw [← hL1e]; exact fl_ok (b := (cap, mf, ly)) hly7
  have hok2 : lysOk L2 := by rw [← hL2e]; exact fl_ok (b := (cap', mf', lz)) hly8
  have ht1 : tot L1 = tot ly := by rw [← hL1e]; exact sum_fl _ (cap, mf, ly)
  have ht2 : tot L2 = tot lz := by rw [← hL2e]; exact sum_fl _ (cap', mf', lz)
  rw [hg7] at hs9
  rw [hg8] at hr9
  dsimp only at hs9 hr9
  have hbF : fl (gB bs i) = L1 := by rw [hg7]; exact hL1e
  have hbG : fl (gB bs j) = L2 := by rw [hg8]; exact hL2e
  rw [hbF, hbG] at E
  have kp0 : Keep σ σ (fun _ => False) := Keep.rf
  have dm0 : σ.1 = σ.1 := rfl
  refine j_new C dX6_gradeOfBlend_0 rfl na_X6_118 (by omega) (by omega) (k' := 1) (n' := 7) (by first | rfl | omega) (by first | rfl | omega) (fun f1 τ1 nq3 ee2 => ?_)
  have u4 := x1.old' ee2 nq3
  have u5 := hl91.old' ee2 nq3
  have u6 := hl92.old' ee2 nq3
  have u7 := hRo.old' ee2 nq3
  have u8 := hPr.old' ee2 nq3
  have u9 := hHo.old' ee2 nq3
  have u10 := hH.2.old' ee2 nq3
  have u11 := hSo.old' ee2 nq3
  have u12 := hh7.old' ee2 nq3
  have u13 := hh8.old' ee2 nq3
  have u14 : has τ1 f1 (.inr (3, [.null, .null, vi (0), vi (0), vi (0), vi (0), vi (0)])) := has.fresh' ee2
  have kp15 := kp0.new ee2 nq3
  have dm16 := (dom_new ee2).trans (congrArg (· ++ [f1]) dm0)
  refine j_dup C dX6_gradeOfBlend_3 rfl rfl ?_
  refine j_aload_n 1 C dX6_gradeOfBlend_4 rfl rfl rfl ?_
  refine j_aload_n 0 C dX6_gradeOfBlend_5 rfl rfl rfl ?_
  refine j_get C dX6_gradeOfBlend_6 rfl fg_X6_29 u4 rfl ?_
  have hbFf1 := hb7.keep kp15 (fun _ _ z => z)
  have hpFf1 := kp15 _ _ hPr (fun z => z)
  have nnf1 : f1 ∉ σ.1 := fun z => nq3 (by rw [dm0]; first | exact z | simp [z])
  refine j_callI (st' := [.ref f1]) (As := [.ref (bq ad 100 i 0), .ref (ad 10)]) C dX6_gradeOfBlend_9 rfl m_X6_120 rfl rfl (c_flowInit (kL κ) hfl (kD κ) (kc κ) τ1 (bq ad 100 i 0) (bq ad 100 i 1) (bq ad 100 i 2) (bq ad 100 i 3) (bq ad 100 i 4) cap mf ly hbFf1 f1 (ad 10) pf hpFf1 u14) rfl (by omega) (by omega) (by omega) (fun _ _ hx => hx.elim) (fun v18 τ17 hp19 => ?_)
  obtain ⟨rfl, hFf1, hkFf1, hdFf1⟩ := hp19
  show J κ τ17 [(0, .ref (ad 0)), (1, .ref (bq ad 100 i 0)), (2, .ref (bq ad 100 j 0)), (3, vi (s)), (4, vi (r))] 12 [.ref f1] _ _
  have kff1 : Keep σ τ17 (fun _ => False) := kp15.tr2 hkFf1 (fun y z => Or.inr (by rw [show y = f1 from z]; exact nnf1))
  have dnf1 := hdFf1.trans dm16
  have xx20 := kff1 _ _ x1 (fun z => z)
  obtain ⟨i91, u91, hfo1, -⟩ := id hFf1
  refine j_astore (lv' := [(0, .ref (ad 0)), (1, .ref (bq ad 100 i 0)), (2, .ref (bq ad 100 j 0)), (3, vi (s)), (4, vi (r)), (5, .ref f1)]) [1, 2, 3, 4, 5, 0] C dX6_gradeOfBlend_12 rfl rfl rfl ?_
  refine j_new C dX6_gradeOfBlend_14 rfl na_X6_118 (by omega) (by omega) (k' := 2) (n' := 14) (by first | rfl | omega) (by first | rfl | omega) (fun f2 τ21 nq23 ee22 => ?_)
  have u24 := xx20.old' ee22 nq23
  have u25 := hfo1.old' ee22 nq23
  have u26 : has τ21 f2 (.inr (3, [.null, .null, vi (0), vi (0), vi (0), vi (0), vi (0)])) := has.fresh' ee22
  have kp27 := kff1.new ee22 nq23
  have dm28 := (dom_new ee22).trans (congrArg (· ++ [f2]) dnf1)
  have hne12 : f1 ≠ f2 := hfo1.apart nq23
  refine j_dup C dX6_gradeOfBlend_17 rfl rfl ?_
  refine j_aload_n 2 C dX6_gradeOfBlend_18 rfl rfl rfl ?_
  refine j_aload_n 0 C dX6_gradeOfBlend_19 rfl rfl rfl ?_
  refine j_get C dX6_gradeOfBlend_20 rfl fg_X6_29 u24 rfl ?_
  have hFf1b : FlowR τ21 f1 (bq ad 100 i 0) (ad 10) pf (fl (cap, mf, ly)) 0 := hFf1.keep (Keep.rf.new (by assumption) nq23 : Keep τ17 τ21 (fun _ => False)) (fun z => z)
  have hbFf2 := hb8.keep kp27 (fun _ _ z => z)
  have hpFf2 := kp27 _ _ hPr (fun z => z)
  have nnf2 : f2 ∉ σ.1 := fun z => nq23 (by rw [dnf1]; first | exact z | simp [z])
  refine j_callI (st' := [.ref f2]) (As := [.ref (bq ad 100 j 0), .ref (ad 10)]) C dX6_gradeOfBlend_23 rfl m_X6_120 rfl rfl (c_flowInit (kL κ) hfl (kD κ) (kc κ) τ21 (bq ad 100 j 0) (bq ad 100 j 1) (bq ad 100 j 2) (bq ad 100 j 3) (bq ad 100 j 4) cap' mf' lz hbFf2 f2 (ad 10) pf hpFf2 u26) rfl (by omega) (by omega) (by omega) (fun _ _ hx => hx.elim) (fun v30 τ29 hp31 => ?_)
  obtain ⟨rfl, hFf2, hkFf2, hdFf2⟩ := hp31
  show J κ τ29 [(0, .ref (ad 0)), (1, .ref (bq ad 100 i 0)), (2, .ref (bq ad 100 j 0)), (3, vi (s)), (4, vi (r)), (5, .ref f1)] 26 [.ref f2] _ _
  have kff2 : Keep σ τ29 (fun _ => False) := kp27.tr2 hkFf2 (fun y z => Or.inr (by rw [show y = f2 from z]; exact nnf2))
  have dnf2 := hdFf2.trans dm28
  have hF1c := hFf1b.keep hkFf2 (fun z => hne12 z)
  have xx32 := kff2 _ _ x1 (fun z => z)
  obtain ⟨i5, u5, hfo5, -⟩ := id hF1c
  refine j_astore (lv' := [(0, .ref (ad 0)), (1, .ref (bq ad 100 i 0)), (2, .ref (bq ad 100 j 0)), (3, vi (s)), (4, vi (r)), (5, .ref f1), (6, .ref f2)]) [1, 2, 3, 4, 5, 6, 0] C dX6_gradeOfBlend_26 rfl rfl rfl ?_
  refine j_aload 5 C dX6_gradeOfBlend_28 rfl rfl ?_
  refine j_iload_n 3 C dX6_gradeOfBlend_30 rfl rfl rfl ?_
  have hbGhFw33 := hb7.keep kff2 (fun _ _ z => z)
  have hpGhFw33 := kff2 _ _ hPr (fun z => z)
  refine j_callV (st' := []) (As := [vi (s)]) C dX6_gradeOfBlend_31 rfl m_X6_123 hfo5 rfl rfl rfl (c_goOn (kL κ) hfl (kD κ) (kc κ) τ29 (bq ad 100 i 0) (bq ad 100 i 1) (bq ad 100 i 2) (bq ad 100 i 3) (bq ad 100 i 4) cap mf ly hbGhFw33 f1 (ad 10) pf 0 s hpGhFw33 hF1c ⟨by omega, by omega⟩) rfl (by omega) (by omega) (by omega) (fun _ _ hx => hx.elim) (fun v35 τ34 hp36 => ?_)
  obtain ⟨rfl, hFw33, hFw33k, hFw33d⟩ := hp36
  show J κ τ34 [(0, .ref (ad 0)), (1, .ref (bq ad 100 i 0)), (2, .ref (bq ad 100 j 0)), (3, vi (s)), (4, vi (r)), (5, .ref f1), (6, .ref f2)] 34 [] _ _
  have hFw33K : Keep σ τ34 (fun _ => False) := kff2.tr2 hFw33k (fun y z => Or.inr (by rw [show y = f1 from z]; exact nnf1))
  have hFw33D := hFw33d.trans dnf2
  have hF2y := hFf2.keep hFw33k (fun z => hne12 z.symm)
  have xx37 := hFw33K _ _ x1 (fun z => z)
  obtain ⟨i6, u6, hfo6, -⟩ := id hF2y
  refine j_aload 6 C dX6_gradeOfBlend_34 rfl rfl ?_
  refine j_iload 4 C dX6_gradeOfBlend_36 rfl rfl ?_
  have hbGhFw38 := hb8.keep hFw33K (fun _ _ z => z)
  have hpGhFw38 := hFw33K _ _ hPr (fun z => z)
  refine j_callV (st' := []) (As := [vi (r)]) C dX6_gradeOfBlend_38 rfl m_X6_123 hfo6 rfl rfl rfl (c_goOn (kL κ) hfl (kD κ) (kc κ) τ34 (bq ad 100 j 0) (bq ad 100 j 1) (bq ad 100 j 2) (bq ad 100 j 3) (bq ad 100 j 4) cap' mf' lz hbGhFw38 f2 (ad 10) pf 0 r hpGhFw38 hF2y ⟨by omega, by omega⟩) rfl (by omega) (by omega) (by omega) (fun _ _ hx => hx.elim) (fun v40 τ39 hp41 => ?_)
  obtain ⟨rfl, hFw38, hFw38k, hFw38d⟩ := hp41
  show J κ τ39 [(0, .ref (ad 0)), (1, .ref (bq ad 100 i 0)), (2, .ref (bq ad 100 j 0)), (3, vi (s)), (4, vi (r)), (5, .ref f1), (6, .ref f2)] 41 [] _ _
  have hFw38K : Keep σ τ39 (fun _ => False) := hFw33K.tr2 hFw38k (fun y z => Or.inr (by rw [show y = f2 from z]; exact nnf2))
  have hFw38D := hFw38d.trans hFw33D
  have hF1z := hFw33.keep hFw38k (fun z => hne12 z)
  rw [hL1e] at hF1z
  rw [hL2e] at hFw38
  rw [show min (0 + s) (tot ly) = s by omega] at hF1z
  rw [show min (0 + r) (tot lz) = r by omega] at hFw38
  have s1 := sums_in hpr hok1 (by omega) s
  have s2 := sums_in hpr hok2 (by omega) r
  have d1 := dirts_in hok1 (by omega) s
  have d2 := dirts_in hok2 (by omega) r
  unfold gradeM at E
  obtain ⟨w1, hw1⟩ : ∃ z, sumL wf (takeL s L1) = z := ⟨_, rfl⟩
  obtain ⟨w2, hw2⟩ : ∃ z, sumL wf (takeL r L2) = z := ⟨_, rfl⟩
  obtain ⟨e1, he1⟩ : ∃ z, sumL df (takeL s L1) = z := ⟨_, rfl⟩
  obtain ⟨e2, he2⟩ : ∃ z, sumL df (takeL r L2) = z := ⟨_, rfl⟩
  obtain ⟨i7, u7, hfo7, -⟩ := id hF1z
  obtain ⟨i8, u8, hfo8, -⟩ := id hFw38
  rw [hw1] at s1 hfo7 E
  rw [he1] at d1 hfo7 E
  rw [hw2] at s2 hfo8 E
  rw [he2] at d2 hfo8 E
  have xx42 := hFw38K _ _ x1 (fun z => z)
  have hR2 := hR.keep hFw38K ⟨fun z => z, fun z => z, fun z => z⟩
  have hRo2 := hR2.1
  refine j_iload_n 3 C dX6_gradeOfBlend_41 rfl rfl rfl ?_
  refine j_iload 4 C dX6_gradeOfBlend_42 rfl rfl ?_
  refine j_iadd C dX6_gradeOfBlend_44 rfl ?_
  refine j_istore (lv' := [(0, .ref (ad 0)), (1, .ref (bq ad 100 i 0)), (2, .ref (bq ad 100 j 0)), (3, vi (s)), (4, vi (r)), (5, .ref f1), (6, .ref f2), (7, vi (s + r))]) [1, 2, 3, 4, 5, 6, 7, 0] C dX6_gradeOfBlend_45 rfl rfl rfl ?_
  refine j_aload 5 C dX6_gradeOfBlend_47 rfl rfl ?_
  refine j_get C dX6_gradeOfBlend_49 rfl fg_X6_186 hfo7 rfl ?_
  refine j_aload 6 C dX6_gradeOfBlend_52 rfl rfl ?_
  refine j_get C dX6_gradeOfBlend_54 rfl fg_X6_186 hfo8 rfl ?_
  refine j_iadd C dX6_gradeOfBlend_57 rfl ?_
  refine j_iload 7 C dX6_gradeOfBlend_58 rfl rfl ?_
  refine j_callS (st' := []) (As := [vi (w1 + w2), vi (s + r)]) C dX6_gradeOfBlend_60 rfl m_X6_364 rfl rfl (c_dividedUp (kL κ) hfl (kD κ) (kc κ) τ39 (w1 + w2) (s + r) ⟨by omega, by omega⟩ ⟨by omega, by omega⟩) rfl (by omega) (by omega) (by omega) (fun _ _ hx => hx.elim) (fun v44 τ43 hp45 => ?_)
  obtain ⟨rfl, hs9⟩ := hp45
  replace hs9 := hs9.symm
  subst hs9
  show J κ τ39 [(0, .ref (ad 0)), (1, .ref (bq ad 100 i 0)), (2, .ref (bq ad 100 j 0)), (3, vi (s)), (4, vi (r)), (5, .ref f1), (6, .ref f2), (7, vi (s + r))] 63 [vi (upD (w1 + w2) (s + r))] _ _
  have hu1 := upD_in (a := w1 + w2) (n := s + r) (by omega) (by omega)
  obtain ⟨m1, hm1⟩ : ∃ z, upD (w1 + w2) (s + r) = z := ⟨_, rfl⟩
  rw [hm1] at hu1 E ⊢
  refine j_istore (lv' := [(0, .ref (ad 0)), (1, .ref (bq ad 100 i 0)), (2, .ref (bq ad 100 j 0)), (3, vi (s)), (4, vi (r)), (5, .ref f1), (6, .ref f2), (7, vi (s + r)), (8, vi (m1))]) [1, 2, 3, 4, 5, 6, 7, 8, 0] C dX6_gradeOfBlend_63 rfl rfl rfl ?_
  refine j_aload 5 C dX6_gradeOfBlend_65 rfl rfl ?_
  refine j_get C dX6_gradeOfBlend_67 rfl fg_X6_367 hfo7 rfl ?_
  refine j_aload 6 C dX6_gradeOfBlend_70 rfl rfl ?_
  refine j_get C dX6_gradeOfBlend_72 rfl fg_X6_367 hfo8 rfl ?_
  refine j_iadd C dX6_gradeOfBlend_75 rfl ?_
  refine j_iload 7 C dX6_gradeOfBlend_76 rfl rfl ?_
  refine j_callS (st' := []) (As := [vi (e1 + e2), vi (s + r)]) C dX6_gradeOfBlend_78 rfl m_X6_364 rfl rfl (c_dividedUp (kL κ) hfl (kD κ) (kc κ) τ39 (e1 + e2) (s + r) ⟨by omega, by omega⟩ ⟨by omega, by omega⟩) rfl (by omega) (by omega) (by omega) (fun _ _ hx => hx.elim) (fun v47 τ46 hp48 => ?_)
  obtain ⟨rfl, hs9⟩ := hp48
  replace hs9 := hs9.symm
  subst hs9
  show J κ τ39 [(0, .ref (ad 0)), (1, .ref (bq ad 100 i 0)), (2, .ref (bq ad 100 j 0)), (3, vi (s)), (4, vi (r)), (5, .ref f1), (6, .ref f2), (7, vi (s + r)), (8, vi (m1))] 81 [vi (upD (e1 + e2) (s + r))] _ _
  have hu2 := upD_in (a := e1 + e2) (n := s + r) (by omega) (by omega)
  obtain ⟨m2, hm2⟩ : ∃ z, upD (e1 + e2) (s + r) = z := ⟨_, rfl⟩
  rw [hm2] at hu2 E ⊢
  refine j_istore (lv' := [(0, .ref (ad 0)), (1, .ref (bq ad 100 i 0)), (2, .ref (bq ad 100 j 0)), (3, vi (s)), (4, vi (r)), (5, .ref f1), (6, .ref f2), (7, vi (s + r)), (8, vi (m1)), (9, vi (m2))]) [1, 2, 3, 4, 5, 6, 7, 8, 9, 0] C dX6_gradeOfBlend_81 rfl rfl rfl ?_
  refine j_aload_n 0 C dX6_gradeOfBlend_83 rfl rfl rfl ?_
  refine j_get C dX6_gradeOfBlend_84 rfl fg_X6_25 xx42 rfl ?_
  refine j_iload 8 C dX6_gradeOfBlend_87 rfl rfl ?_
  refine j_iload 9 C dX6_gradeOfBlend_89 rfl rfl ?_
  refine j_callV (st' := []) (As := [vi (m1), vi (m2)]) C dX6_gradeOfBlend_91 rfl m_X6_94 hRo2 rfl rfl rfl (c_gradeNow (kL κ) hfl (kD κ) (kc κ) τ39 (ad 7) (ad 8) (ad 9) ru se m1 m2 hR2 ⟨by omega, by omega⟩ ⟨by omega, by omega⟩) rfl (by omega) (by omega) (by omega) (fun _ _ hx => hx.elim) (fun v50 τ49 hp51 => ?_)
  obtain ⟨rfl, hs9⟩ := hp51
  replace hs9 := hs9.symm
  subst hs9
  show J κ τ39 [(0, .ref (ad 0)), (1, .ref (bq ad 100 i 0)), (2, .ref (bq ad 100 j 0)), (3, vi (s)), (4, vi (r)), (5, .ref f1), (6, .ref f2), (7, vi (s + r)), (8, vi (m1)), (9, vi (m2))] 94 [vi (gradeF ru se m1 m2)] _ _
  exact j_iret C E dX6_gradeOfBlend_94 (by omega) (by omega) ⟨rfl, hFw38K⟩
set_option maxHeartbeats 4000000 in
set_option maxRecDepth 20000 in
theorem c_cbG (l : Launch) (hfl : l.stackTraces = false) (D : va_G) (cy : Nat → Nat) (σ : Wd) (tg ad : Nat → Nat) (bs : List Bn) (ru : Nat → Int × Int) (se : Int) (pf : Nat → Int) (hd : Hd) (ca : Int) (evs : List Evt) (ln : List Int) (hX0 : RX cy σ tg ad bs ru se pf hd ca evs ln) (i : Nat) (hi : i < bs.length) (j : Nat) (hj : j < bs.length) (hij : i ≠ j) (n x : Int) (hn9 : (-2147483648 ≤ n ∧ n < 2147483648)) (hx8 : (-2147483648 ≤ x ∧ x < 2147483648)) (hn : 1 ≤ n ∧ n ≤ 500) (hx9 : 80 ≤ x ∧ x ≤ 300) : Ct l yX6_checkBlend cX6_checkBlend 5 none 4 0 0 D cy [.ref (ad 0), vi ((i : Int)), vi ((j : Int)), vi (n), vi (x)] σ (fun v σ' => v = none ∧ σ' = σ) noX := by
  refine ct_start (by decide +kernel) hfl rfl (fun κ e1 e2 e3 C E NH => ?_)
  subst e1 e2 e3
  have C : Cx κ cX6_checkBlend 5 RX6 "checkBlend" 4 := C
  obtain ⟨-, -, -, -, hc, hs⟩ := id E
  show J κ σ [(0, .ref (ad 0)), (1, vi ((i : Int))), (2, vi ((j : Int))), (3, vi (n)), (4, vi (x))] 0 [] 0 0
  have hXX := hX0
  obtain ⟨⟨x1, x2⟩, hB, ⟨bsA, hA, hAe⟩, hEv, hX, hO⟩ := hXX
  obtain ⟨⟨hR, t7, t8, t9⟩, ⟨hPr, t10⟩, ⟨hH, t11, t12⟩, cap0, hSb, t13, t14⟩ := id hX
  have hL1 := hB.1.1
  have hL5 := hEv.1.1
  have hbl := bins_len ad 100 bs.length
  have hel9 := evl_len ad evs.length
  have h6 := hB.2.1
  obtain ⟨⟨hc1, hc2⟩, hc3, hc4⟩ := hO.2.2.2.1
  have hev80 := hO.2.2.1.2
  have hpr := hO.2.2.2.2.1
  have hRo := hR.1
  have hHo := hH.1
  obtain ⟨ml0, g0, hSc, -⟩ := id hSb
  have hSo := hSc.1
  have hTb := totB_in hO.2.1
  obtain ⟨m91, hl91, -⟩ := id hL1
  obtain ⟨m92, hl92, -⟩ := id hL5
  obtain ⟨⟨cap, mf, ly⟩, hg7⟩ : ∃ z, gB bs (i : Int) = z := ⟨_, rfl⟩
  have hb7 := hB.at hi hg7
  have hbk7 := hO.2.1 _ (gB_mem (bs := bs) (i := (i : Int)) (by omega) (by omega))
  rw [hg7] at hbk7
  obtain ⟨hcp7, hly7, htc7⟩ := hbk7
  dsimp only at hcp7 hly7 htc7
  have ht07 := tot_0 hly7
  obtain ⟨old7, ga7, gb7, gc7, gd7, ⟨hh7, -, -⟩, -, hcn7, -, hok7⟩ := id hb7
  dsimp only at hh7 hcn7 hok7
  obtain ⟨⟨cap', mf', lz⟩, hg8⟩ : ∃ z, gB bs (j : Int) = z := ⟨_, rfl⟩
  have hb8 := hB.at hj hg8
  have hbk8 := hO.2.1 _ (gB_mem (bs := bs) (i := (j : Int)) (by omega) (by omega))
  rw [hg8] at hbk8
  obtain ⟨hcp8, hly8, htc8⟩ := hbk8
  dsimp only at hcp8 hly8 htc8
  have ht08 := tot_0 hly8
  obtain ⟨old8, ga8, gb8, gc8, gd8, ⟨hh8, -, -⟩, -, hcn8, -, hok8⟩ := id hb8
  dsimp only at hh8 hcn8 hok8
  refine j_aload_n 0 C dX6_checkBlend_0 rfl rfl rfl ?_
  refine j_get C dX6_checkBlend_1 rfl fg_X6_12 x1 rfl ?_
  refine j_iload_n 1 C dX6_checkBlend_4 rfl rfl rfl ?_
  refine j_callS (st' := []) (As := [.ref (ad 1), vi ((i : Int))]) C dX6_checkBlend_5 rfl m_X6_75 rfl rfl (c_biG (kL κ) hfl (kD κ) (kc κ) σ (ad 1) (ad 2) _ hL1 i _ (bins_at hi) _ hh7) rfl (by omega) (by omega) (by omega) (fun _ _ hx => hx.elim) (fun v2 τ1 hp3 => ?_)
  obtain ⟨rfl, hs9⟩ := hp3
  replace hs9 := hs9.symm
  subst hs9
  show J κ σ [(0, .ref (ad 0)), (1, vi ((i : Int))), (2, vi ((j : Int))), (3, vi (n)), (4, vi (x))] 8 [.ref (bq ad 100 i 0)] _ _
  refine j_pop C dX6_checkBlend_8 rfl rfl ?_
  refine j_aload_n 0 C dX6_checkBlend_9 rfl rfl rfl ?_
  refine j_get C dX6_checkBlend_10 rfl fg_X6_12 x1 rfl ?_
  refine j_iload_n 2 C dX6_checkBlend_13 rfl rfl rfl ?_
  refine j_callS (st' := []) (As := [.ref (ad 1), vi ((j : Int))]) C dX6_checkBlend_14 rfl m_X6_75 rfl rfl (c_biG (kL κ) hfl (kD κ) (kc κ) σ (ad 1) (ad 2) _ hL1 j _ (bins_at hj) _ hh8) rfl (by omega) (by omega) (by omega) (fun _ _ hx => hx.elim) (fun v5 τ4 hp6 => ?_)
  obtain ⟨rfl, hs9⟩ := hp6
  replace hs9 := hs9.symm
  subst hs9
  show J κ σ [(0, .ref (ad 0)), (1, vi ((i : Int))), (2, vi ((j : Int))), (3, vi (n)), (4, vi (x))] 17 [.ref (bq ad 100 j 0)] _ _
  refine j_pop C dX6_checkBlend_17 rfl rfl ?_
  refine j_iload_n 1 C dX6_checkBlend_18 rfl rfl rfl ?_
  refine j_iload_n 2 C dX6_checkBlend_19 rfl rfl rfl ?_
  refine j_callS (st' := []) (As := [vi ((i : Int)), vi ((j : Int))]) C dX6_checkBlend_20 rfl m_X6_134 rfl rfl (c_cdG (kL κ) hfl (kD κ) (kc κ) σ (i : Int) (j : Int) ⟨by omega, by omega⟩ ⟨by omega, by omega⟩ (by omega)) rfl (by omega) (by omega) (by omega) (fun _ _ hx => hx.elim) (fun v8 τ7 hp9 => ?_)
  obtain ⟨rfl, hs9⟩ := hp9
  replace hs9 := hs9.symm
  subst hs9
  show J κ σ [(0, .ref (ad 0)), (1, vi ((i : Int))), (2, vi ((j : Int))), (3, vi (n)), (4, vi (x))] 23 [] _ _
  refine j_iload_n 3 C dX6_checkBlend_23 rfl rfl rfl ?_
  refine j_iconst C dX6_checkBlend_24 rfl ?_
  refine j_sipush C dX6_checkBlend_25 rfl (by decide) ?_
  refine j_callS (st' := []) (As := [vi (n), vi (1), vi (500)]) C dX6_checkBlend_28 rfl m_X6_51 rfl rfl (c_crG (kL κ) hfl (kD κ) (kc κ) σ n 1 500 hn9 ⟨by omega, by omega⟩ hn) rfl (by omega) (by omega) (by omega) (fun _ _ hx => hx.elim) (fun v11 τ10 hp12 => ?_)
  obtain ⟨rfl, hs9⟩ := hp12
  replace hs9 := hs9.symm
  subst hs9
  show J κ σ [(0, .ref (ad 0)), (1, vi ((i : Int))), (2, vi ((j : Int))), (3, vi (n)), (4, vi (x))] 31 [] _ _
  refine j_iload 4 C dX6_checkBlend_31 rfl rfl ?_
  refine j_callS (st' := []) (As := [vi (x)]) C dX6_checkBlend_33 rfl m_X6_144 rfl rfl (c_cmG (kL κ) hfl (kD κ) (kc κ) σ x hx8 hx9) rfl (by omega) (by omega) (by omega) (fun _ _ hx => hx.elim) (fun v14 τ13 hp15 => ?_)
  obtain ⟨rfl, hs9⟩ := hp15
  replace hs9 := hs9.symm
  subst hs9
  show J κ σ [(0, .ref (ad 0)), (1, vi ((i : Int))), (2, vi ((j : Int))), (3, vi (n)), (4, vi (x))] 36 [] _ _
  exact j_vret C E dX6_checkBlend_36 (by omega) (by omega) ⟨rfl, rfl⟩
set_option maxHeartbeats 4000000 in
set_option maxRecDepth 20000 in
theorem c_cbB0 (l : Launch) (hfl : l.stackTraces = false) (D : va_G) (cy : Nat → Nat) (σ : Wd) (tg ad : Nat → Nat) (bs : List Bn) (ru : Nat → Int × Int) (se : Int) (pf : Nat → Int) (hd : Hd) (ca : Int) (evs : List Evt) (ln : List Int) (hX0 : RX cy σ tg ad bs ru se pf hd ca evs ln) (a b : Int) (ha9 : (-2147483648 ≤ a ∧ a < 2147483648)) (hb9 : (-2147483648 ≤ b ∧ b < 2147483648)) (n x : Int) (hn9 : (-2147483648 ≤ n ∧ n < 2147483648)) (hx8 : (-2147483648 ≤ x ∧ x < 2147483648)) (h : ¬ ((0 ≤ a ∧ a < (bs.length : Int)) ∧ (0 ≤ b ∧ b < (bs.length : Int)))) : Ct l yX6_checkBlend cX6_checkBlend 5 none 4 1 6 D cy [.ref (ad 0), vi (a), vi (b), vi (n), vi (x)] σ (fun v σ' => False) (fun E9 σ' => E9 = "java/lang/IndexOutOfBoundsException" ∧ σ' = σ) := by
  refine ct_start (by decide +kernel) hfl rfl (fun κ e1 e2 e3 C E NH => ?_)
  subst e1 e2 e3
  have C : Cx κ cX6_checkBlend 5 RX6 "checkBlend" 4 := C
  obtain ⟨-, -, -, -, hc, hs⟩ := id E
  show J κ σ [(0, .ref (ad 0)), (1, vi (a)), (2, vi (b)), (3, vi (n)), (4, vi (x))] 0 [] 0 0
  have hXX := hX0
  obtain ⟨⟨x1, x2⟩, hB, ⟨bsA, hA, hAe⟩, hEv, hX, hO⟩ := hXX
  obtain ⟨⟨hR, t7, t8, t9⟩, ⟨hPr, t10⟩, ⟨hH, t11, t12⟩, cap0, hSb, t13, t14⟩ := id hX
  have hL1 := hB.1.1
  have hL5 := hEv.1.1
  have hbl := bins_len ad 100 bs.length
  have hel9 := evl_len ad evs.length
  have h6 := hB.2.1
  obtain ⟨⟨hc1, hc2⟩, hc3, hc4⟩ := hO.2.2.2.1
  have hev80 := hO.2.2.1.2
  have hpr := hO.2.2.2.2.1
  have hRo := hR.1
  have hHo := hH.1
  obtain ⟨ml0, g0, hSc, -⟩ := id hSb
  have hSo := hSc.1
  have hTb := totB_in hO.2.1
  obtain ⟨m91, hl91, -⟩ := id hL1
  obtain ⟨m92, hl92, -⟩ := id hL5
  refine j_aload_n 0 C dX6_checkBlend_0 rfl rfl rfl ?_
  refine j_get C dX6_checkBlend_1 rfl fg_X6_12 x1 rfl ?_
  refine j_iload_n 1 C dX6_checkBlend_4 rfl rfl rfl ?_
  by_cases hsp : 0 ≤ a ∧ a < (bs.length : Int)
  · obtain ⟨i, hi9⟩ : ∃ i : Nat, a = (i : Int) := ⟨a.toNat, by omega⟩
    subst hi9
    have hi : i < bs.length := by omega
    obtain ⟨⟨cap, mf, ly⟩, hg7⟩ : ∃ z, gB bs (i : Int) = z := ⟨_, rfl⟩
    have hb7 := hB.at hi hg7
    have hbk7 := hO.2.1 _ (gB_mem (bs := bs) (i := (i : Int)) (by omega) (by omega))
    rw [hg7] at hbk7
    obtain ⟨hcp7, hly7, htc7⟩ := hbk7
    dsimp only at hcp7 hly7 htc7
    have ht07 := tot_0 hly7
    obtain ⟨old7, ga7, gb7, gc7, gd7, ⟨hh7, -, -⟩, -, hcn7, -, hok7⟩ := id hb7
    dsimp only at hh7 hcn7 hok7
    refine j_callS (st' := []) (As := [.ref (ad 1), vi ((i : Int))]) C dX6_checkBlend_5 rfl m_X6_75 rfl rfl (c_biG (kL κ) hfl (kD κ) (kc κ) σ (ad 1) (ad 2) _ hL1 i _ (bins_at hi) _ hh7) rfl (by omega) (by omega) (by omega) (fun _ _ hx => hx.elim) (fun v2 τ1 hp3 => ?_)
    obtain ⟨rfl, hs9⟩ := hp3
    replace hs9 := hs9.symm
    subst hs9
    show J κ σ [(0, .ref (ad 0)), (1, vi ((i : Int))), (2, vi (b)), (3, vi (n)), (4, vi (x))] 8 [.ref (bq ad 100 i 0)] _ _
    refine j_pop C dX6_checkBlend_8 rfl rfl ?_
    refine j_aload_n 0 C dX6_checkBlend_9 rfl rfl rfl ?_
    refine j_get C dX6_checkBlend_10 rfl fg_X6_12 x1 rfl ?_
    refine j_iload_n 2 C dX6_checkBlend_13 rfl rfl rfl ?_
    have hbad : b < 0 ∨ (bs.length : Int) ≤ b := by omega
    refine j_callS (st' := []) (As := [.ref (ad 1), vi (b)]) C dX6_checkBlend_14 rfl m_X6_75 rfl rfl (c_biB (kL κ) hfl (kD κ) (kc κ) σ (ad 1) (ad 2) _ hL1 b hb9 (by rw [hbl]; exact hbad)) rfl (by omega) (by omega) (by omega) (fun E9 σ9 hx => jx_out C E NH (by omega) (by omega) hx) (fun v5 τ4 hp6 => ?_)
    exact hp6.elim
  · refine j_callS (st' := []) (As := [.ref (ad 1), vi (a)]) C dX6_checkBlend_5 rfl m_X6_75 rfl rfl (c_biB (kL κ) hfl (kD κ) (kc κ) σ (ad 1) (ad 2) _ hL1 a ha9 (by rw [hbl]; omega)) rfl (by omega) (by omega) (by omega) (fun E9 σ9 hx => jx_out C E NH (by omega) (by omega) hx) (fun v8 τ7 hp9 => ?_)
    exact hp9.elim
set_option maxHeartbeats 4000000 in
set_option maxRecDepth 20000 in
theorem c_cbB1 (l : Launch) (hfl : l.stackTraces = false) (D : va_G) (cy : Nat → Nat) (σ : Wd) (tg ad : Nat → Nat) (bs : List Bn) (ru : Nat → Int × Int) (se : Int) (pf : Nat → Int) (hd : Hd) (ca : Int) (evs : List Evt) (ln : List Int) (hX0 : RX cy σ tg ad bs ru se pf hd ca evs ln) (i : Nat) (hi : i < bs.length) (j : Nat) (hj : j < bs.length) (n x : Int) (hn9 : (-2147483648 ≤ n ∧ n < 2147483648)) (hx8 : (-2147483648 ≤ x ∧ x < 2147483648)) (h : ¬ (i ≠ j ∧ (1 ≤ n ∧ n ≤ 500) ∧ (80 ≤ x ∧ x ≤ 300))) : Ct l yX6_checkBlend cX6_checkBlend 5 none 4 1 6 D cy [.ref (ad 0), vi ((i : Int)), vi ((j : Int)), vi (n), vi (x)] σ (fun v σ' => False) (fun E9 σ' => E9 = "java/lang/IllegalArgumentException" ∧ σ' = σ) := by
  refine ct_start (by decide +kernel) hfl rfl (fun κ e1 e2 e3 C E NH => ?_)
  subst e1 e2 e3
  have C : Cx κ cX6_checkBlend 5 RX6 "checkBlend" 4 := C
  obtain ⟨-, -, -, -, hc, hs⟩ := id E
  show J κ σ [(0, .ref (ad 0)), (1, vi ((i : Int))), (2, vi ((j : Int))), (3, vi (n)), (4, vi (x))] 0 [] 0 0
  have hXX := hX0
  obtain ⟨⟨x1, x2⟩, hB, ⟨bsA, hA, hAe⟩, hEv, hX, hO⟩ := hXX
  obtain ⟨⟨hR, t7, t8, t9⟩, ⟨hPr, t10⟩, ⟨hH, t11, t12⟩, cap0, hSb, t13, t14⟩ := id hX
  have hL1 := hB.1.1
  have hL5 := hEv.1.1
  have hbl := bins_len ad 100 bs.length
  have hel9 := evl_len ad evs.length
  have h6 := hB.2.1
  obtain ⟨⟨hc1, hc2⟩, hc3, hc4⟩ := hO.2.2.2.1
  have hev80 := hO.2.2.1.2
  have hpr := hO.2.2.2.2.1
  have hRo := hR.1
  have hHo := hH.1
  obtain ⟨ml0, g0, hSc, -⟩ := id hSb
  have hSo := hSc.1
  have hTb := totB_in hO.2.1
  obtain ⟨m91, hl91, -⟩ := id hL1
  obtain ⟨m92, hl92, -⟩ := id hL5
  obtain ⟨⟨cap, mf, ly⟩, hg7⟩ : ∃ z, gB bs (i : Int) = z := ⟨_, rfl⟩
  have hb7 := hB.at hi hg7
  have hbk7 := hO.2.1 _ (gB_mem (bs := bs) (i := (i : Int)) (by omega) (by omega))
  rw [hg7] at hbk7
  obtain ⟨hcp7, hly7, htc7⟩ := hbk7
  dsimp only at hcp7 hly7 htc7
  have ht07 := tot_0 hly7
  obtain ⟨old7, ga7, gb7, gc7, gd7, ⟨hh7, -, -⟩, -, hcn7, -, hok7⟩ := id hb7
  dsimp only at hh7 hcn7 hok7
  obtain ⟨⟨cap', mf', lz⟩, hg8⟩ : ∃ z, gB bs (j : Int) = z := ⟨_, rfl⟩
  have hb8 := hB.at hj hg8
  have hbk8 := hO.2.1 _ (gB_mem (bs := bs) (i := (j : Int)) (by omega) (by omega))
  rw [hg8] at hbk8
  obtain ⟨hcp8, hly8, htc8⟩ := hbk8
  dsimp only at hcp8 hly8 htc8
  have ht08 := tot_0 hly8
  obtain ⟨old8, ga8, gb8, gc8, gd8, ⟨hh8, -, -⟩, -, hcn8, -, hok8⟩ := id hb8
  dsimp only at hh8 hcn8 hok8
  refine j_aload_n 0 C dX6_checkBlend_0 rfl rfl rfl ?_
  refine j_get C dX6_checkBlend_1 rfl fg_X6_12 x1 rfl ?_
  refine j_iload_n 1 C dX6_checkBlend_4 rfl rfl rfl ?_
  refine j_callS (st' := []) (As := [.ref (ad 1), vi ((i : Int))]) C dX6_checkBlend_5 rfl m_X6_75 rfl rfl (c_biG (kL κ) hfl (kD κ) (kc κ) σ (ad 1) (ad 2) _ hL1 i _ (bins_at hi) _ hh7) rfl (by omega) (by omega) (by omega) (fun _ _ hx => hx.elim) (fun v2 τ1 hp3 => ?_)
  obtain ⟨rfl, hs9⟩ := hp3
  replace hs9 := hs9.symm
  subst hs9
  show J κ σ [(0, .ref (ad 0)), (1, vi ((i : Int))), (2, vi ((j : Int))), (3, vi (n)), (4, vi (x))] 8 [.ref (bq ad 100 i 0)] _ _
  refine j_pop C dX6_checkBlend_8 rfl rfl ?_
  refine j_aload_n 0 C dX6_checkBlend_9 rfl rfl rfl ?_
  refine j_get C dX6_checkBlend_10 rfl fg_X6_12 x1 rfl ?_
  refine j_iload_n 2 C dX6_checkBlend_13 rfl rfl rfl ?_
  refine j_callS (st' := []) (As := [.ref (ad 1), vi ((j : Int))]) C dX6_checkBlend_14 rfl m_X6_75 rfl rfl (c_biG (kL κ) hfl (kD κ) (kc κ) σ (ad 1) (ad 2) _ hL1 j _ (bins_at hj) _ hh8) rfl (by omega) (by omega) (by omega) (fun _ _ hx => hx.elim) (fun v5 τ4 hp6 => ?_)
  obtain ⟨rfl, hs9⟩ := hp6
  replace hs9 := hs9.symm
  subst hs9
  show J κ σ [(0, .ref (ad 0)), (1, vi ((i : Int))), (2, vi ((j : Int))), (3, vi (n)), (4, vi (x))] 17 [.ref (bq ad 100 j 0)] _ _
  refine j_pop C dX6_checkBlend_17 rfl rfl ?_
  refine j_iload_n 1 C dX6_checkBlend_18 rfl rfl rfl ?_
  refine j_iload_n 2 C dX6_checkBlend_19 rfl rfl rfl ?_
  by_cases hsp : i = j
  · refine j_callS (st' := []) (As := [vi ((i : Int)), vi ((j : Int))]) C dX6_checkBlend_20 rfl m_X6_134 rfl rfl (c_cdB (kL κ) hfl (kD κ) (kc κ) σ (i : Int) (j : Int) ⟨by omega, by omega⟩ ⟨by omega, by omega⟩ (by omega)) rfl (by omega) (by omega) (by omega) (fun E9 σ9 hx => jx_out C E NH (by omega) (by omega) hx) (fun v8 τ7 hp9 => ?_)
    exact hp9.elim
  · refine j_callS (st' := []) (As := [vi ((i : Int)), vi ((j : Int))]) C dX6_checkBlend_20 rfl m_X6_134 rfl rfl (c_cdG (kL κ) hfl (kD κ) (kc κ) σ (i : Int) (j : Int) ⟨by omega, by omega⟩ ⟨by omega, by omega⟩ (by omega)) rfl (by omega) (by omega) (by omega) (fun _ _ hx => hx.elim) (fun v11 τ10 hp12 => ?_)
    obtain ⟨rfl, hs9⟩ := hp12
    replace hs9 := hs9.symm
    subst hs9
    show J κ σ [(0, .ref (ad 0)), (1, vi ((i : Int))), (2, vi ((j : Int))), (3, vi (n)), (4, vi (x))] 23 [] _ _
    refine j_iload_n 3 C dX6_checkBlend_23 rfl rfl rfl ?_
    refine j_iconst C dX6_checkBlend_24 rfl ?_
    refine j_sipush C dX6_checkBlend_25 rfl (by decide) ?_
    by_cases hsn : 1 ≤ n ∧ n ≤ 500
    · refine j_callS (st' := []) (As := [vi (n), vi (1), vi (500)]) C dX6_checkBlend_28 rfl m_X6_51 rfl rfl (c_crG (kL κ) hfl (kD κ) (kc κ) σ n 1 500 hn9 ⟨by omega, by omega⟩ hsn) rfl (by omega) (by omega) (by omega) (fun _ _ hx => hx.elim) (fun v14 τ13 hp15 => ?_)
      obtain ⟨rfl, hs9⟩ := hp15
      replace hs9 := hs9.symm
      subst hs9
      show J κ σ [(0, .ref (ad 0)), (1, vi ((i : Int))), (2, vi ((j : Int))), (3, vi (n)), (4, vi (x))] 31 [] _ _
      refine j_iload 4 C dX6_checkBlend_31 rfl rfl ?_
      refine j_callS (st' := []) (As := [vi (x)]) C dX6_checkBlend_33 rfl m_X6_144 rfl rfl (c_cmB (kL κ) hfl (kD κ) (kc κ) σ x hx8 (by omega)) rfl (by omega) (by omega) (by omega) (fun E9 σ9 hx => jx_out C E NH (by omega) (by omega) hx) (fun v17 τ16 hp18 => ?_)
      exact hp18.elim
    · refine j_callS (st' := []) (As := [vi (n), vi (1), vi (500)]) C dX6_checkBlend_28 rfl m_X6_51 rfl rfl (c_crB (kL κ) hfl (kD κ) (kc κ) σ n 1 500 hn9 ⟨by omega, by omega⟩ (by omega)) rfl (by omega) (by omega) (by omega) (fun E9 σ9 hx => jx_out C E NH (by omega) (by omega) hx) (fun v20 τ19 hp21 => ?_)
      exact hp21.elim
set_option maxHeartbeats 4000000 in
set_option maxRecDepth 20000 in
theorem c_cfG (l : Launch) (hfl : l.stackTraces = false) (D : va_G) (cy : Nat → Nat) (σ : Wd) (bl : Nat) (s c : Int) (hBl : has σ bl (.inr (1, [vi 1, vi s, vi c]))) : Ct l yX6_checkFound cX6_checkFound 1 none 0 0 0 D cy [.ref bl] σ (fun v σ' => v = none ∧ σ' = σ) noX := by
  refine ct_start (by decide +kernel) hfl rfl (fun κ e1 e2 e3 C E NH => ?_)
  subst e1 e2 e3
  have C : Cx κ cX6_checkFound 1 RX6 "checkFound" 0 := C
  obtain ⟨-, -, -, -, hc, hs⟩ := id E
  show J κ σ [(0, .ref bl)] 0 [] 0 0
  refine j_aload_n 0 C dX6_checkFound_0 rfl rfl rfl ?_
  refine j_get C dX6_checkFound_1 rfl fg_X6_287 hBl rfl ?_
  refine j_if_ne (tgt := 18) C dX6_checkFound_4 rfl rfl ⟨by omega, by omega⟩ (fun cc1 => ?_) (fun cc1 => ?_)
  · exact j_vret C E dX6_checkFound_18 (by omega) (by omega) ⟨rfl, rfl⟩
  · exact absurd cc1 (by decide)
set_option maxHeartbeats 4000000 in
set_option maxRecDepth 20000 in
theorem c_goodBlend (l : Launch) (hfl : l.stackTraces = false) (D : va_G) (cy : Nat → Nat) (σ : Wd) (tg ad : Nat → Nat) (bs : List Bn) (ru : Nat → Int × Int) (se : Int) (pf : Nat → Int) (hd : Hd) (ca : Int) (evs : List Evt) (ln : List Int) (hX0 : RX cy σ tg ad bs ru se pf hd ca evs ln) (i : Nat) (hi : i < bs.length) (j : Nat) (hj : j < bs.length) (hij : i ≠ j) (n x : Int) (hn9 : (-2147483648 ≤ n ∧ n < 2147483648)) (hx8 : (-2147483648 ≤ x ∧ x < 2147483648)) (hn : 1 ≤ n ∧ n ≤ 500) (hx9 : 80 ≤ x ∧ x ≤ 300) (hfound : (bestF pf (fl (gB bs i)) (fl (gB bs j)) n (n * x)).1 = true) : Ct l yX6_goodBlend cX6_goodBlend 6 (some (.object "GrainElevator$Blend")) 6 3 17 D cy [.ref (ad 0), vi ((i : Int)), vi ((j : Int)), vi (n), vi (x)] σ (fun v σ' => ∃ bl : Nat, v = some (.ref bl) ∧ BlR σ' bl (bestF pf (fl (gB bs i)) (fl (gB bs j)) n (n * x)) ∧ Keep σ σ' (fun _ => False)) noX := by
  refine ct_start (by decide +kernel) hfl rfl (fun κ e1 e2 e3 C E NH => ?_)
  subst e1 e2 e3
  have C : Cx κ cX6_goodBlend 6 RX6 "goodBlend" 6 := C
  obtain ⟨-, -, -, -, hc, hs⟩ := id E
  show J κ σ [(0, .ref (ad 0)), (1, vi ((i : Int))), (2, vi ((j : Int))), (3, vi (n)), (4, vi (x))] 0 [] 0 0
  have hXX := hX0
  obtain ⟨⟨x1, x2⟩, hB, ⟨bsA, hA, hAe⟩, hEv, hX, hO⟩ := hXX
  obtain ⟨⟨hR, t7, t8, t9⟩, ⟨hPr, t10⟩, ⟨hH, t11, t12⟩, cap0, hSb, t13, t14⟩ := id hX
  have hL1 := hB.1.1
  have hL5 := hEv.1.1
  have hbl := bins_len ad 100 bs.length
  have hel9 := evl_len ad evs.length
  have h6 := hB.2.1
  obtain ⟨⟨hc1, hc2⟩, hc3, hc4⟩ := hO.2.2.2.1
  have hev80 := hO.2.2.1.2
  have hpr := hO.2.2.2.2.1
  have hRo := hR.1
  have hHo := hH.1
  obtain ⟨ml0, g0, hSc, -⟩ := id hSb
  have hSo := hSc.1
  have hTb := totB_in hO.2.1
  obtain ⟨m91, hl91, -⟩ := id hL1
  obtain ⟨m92, hl92, -⟩ := id hL5
  obtain ⟨⟨cap, mf, ly⟩, hg7⟩ : ∃ z, gB bs (i : Int) = z := ⟨_, rfl⟩
  have hb7 := hB.at hi hg7
  have hbk7 := hO.2.1 _ (gB_mem (bs := bs) (i := (i : Int)) (by omega) (by omega))
  rw [hg7] at hbk7
  obtain ⟨hcp7, hly7, htc7⟩ := hbk7
  dsimp only at hcp7 hly7 htc7
  have ht07 := tot_0 hly7
  obtain ⟨old7, ga7, gb7, gc7, gd7, ⟨hh7, -, -⟩, -, hcn7, -, hok7⟩ := id hb7
  dsimp only at hh7 hcn7 hok7
  obtain ⟨⟨cap', mf', lz⟩, hg8⟩ : ∃ z, gB bs (j : Int) = z := ⟨_, rfl⟩
  have hb8 := hB.at hj hg8
  have hbk8 := hO.2.1 _ (gB_mem (bs := bs) (i := (j : Int)) (by omega) (by omega))
  rw [hg8] at hbk8
  obtain ⟨hcp8, hly8, htc8⟩ := hbk8
  dsimp only at hcp8 hly8 htc8
  have ht08 := tot_0 hly8
  obtain ⟨old8, ga8, gb8, gc8, gd8, ⟨hh8, -, -⟩, -, hcn8, -, hok8⟩ := id hb8
  dsimp only at hh8 hcn8 hok8
  have mm1 : 0 ≤ n * x := Int.mul_nonneg (by omega) (by omega)
  have mm2 : n * x ≤ 500 * x := Int.mul_le_mul_of_nonneg_right hn.2 (by omega)
  refine j_aload_n 0 C dX6_goodBlend_0 rfl rfl rfl ?_
  refine j_iload_n 1 C dX6_goodBlend_1 rfl rfl rfl ?_
  refine j_iload_n 2 C dX6_goodBlend_2 rfl rfl rfl ?_
  refine j_iload_n 3 C dX6_goodBlend_3 rfl rfl rfl ?_
  refine j_iload 4 C dX6_goodBlend_4 rfl rfl ?_
  refine j_callV (st' := []) (As := [vi ((i : Int)), vi ((j : Int)), vi (n), vi (x)]) C dX6_goodBlend_6 rfl m_X6_205 x1 rfl rfl rfl (c_cbG (kL κ) hfl (kD κ) (kc κ) σ tg ad bs ru se pf hd ca evs ln hX0 i hi j hj hij n x hn9 hx8 hn hx9) rfl (by omega) (by omega) (by omega) (fun _ _ hx => hx.elim) (fun v2 τ1 hp3 => ?_)
  obtain ⟨rfl, hs9⟩ := hp3
  replace hs9 := hs9.symm
  subst hs9
  show J κ σ [(0, .ref (ad 0)), (1, vi ((i : Int))), (2, vi ((j : Int))), (3, vi (n)), (4, vi (x))] 9 [] _ _
  refine j_aload_n 0 C dX6_goodBlend_9 rfl rfl rfl ?_
  refine j_aload_n 0 C dX6_goodBlend_10 rfl rfl rfl ?_
  refine j_get C dX6_goodBlend_11 rfl fg_X6_12 x1 rfl ?_
  refine j_iload_n 1 C dX6_goodBlend_14 rfl rfl rfl ?_
  refine j_callS (st' := [.ref (ad 0)]) (As := [.ref (ad 1), vi ((i : Int))]) C dX6_goodBlend_15 rfl m_X6_75 rfl rfl (c_biG (kL κ) hfl (kD κ) (kc κ) σ (ad 1) (ad 2) _ hL1 i _ (bins_at hi) _ hh7) rfl (by omega) (by omega) (by omega) (fun _ _ hx => hx.elim) (fun v5 τ4 hp6 => ?_)
  obtain ⟨rfl, hs9⟩ := hp6
  replace hs9 := hs9.symm
  subst hs9
  show J κ σ [(0, .ref (ad 0)), (1, vi ((i : Int))), (2, vi ((j : Int))), (3, vi (n)), (4, vi (x))] 18 [.ref (bq ad 100 i 0), .ref (ad 0)] _ _
  refine j_aload_n 0 C dX6_goodBlend_18 rfl rfl rfl ?_
  refine j_get C dX6_goodBlend_19 rfl fg_X6_12 x1 rfl ?_
  refine j_iload_n 2 C dX6_goodBlend_22 rfl rfl rfl ?_
  refine j_callS (st' := [.ref (bq ad 100 i 0), .ref (ad 0)]) (As := [.ref (ad 1), vi ((j : Int))]) C dX6_goodBlend_23 rfl m_X6_75 rfl rfl (c_biG (kL κ) hfl (kD κ) (kc κ) σ (ad 1) (ad 2) _ hL1 j _ (bins_at hj) _ hh8) rfl (by omega) (by omega) (by omega) (fun _ _ hx => hx.elim) (fun v8 τ7 hp9 => ?_)
  obtain ⟨rfl, hs9⟩ := hp9
  replace hs9 := hs9.symm
  subst hs9
  show J κ σ [(0, .ref (ad 0)), (1, vi ((i : Int))), (2, vi ((j : Int))), (3, vi (n)), (4, vi (x))] 26 [.ref (bq ad 100 j 0), .ref (bq ad 100 i 0), .ref (ad 0)] _ _
  refine j_iload_n 3 C dX6_goodBlend_26 rfl rfl rfl ?_
  refine j_iload_n 3 C dX6_goodBlend_27 rfl rfl rfl ?_
  refine j_iload 4 C dX6_goodBlend_28 rfl rfl ?_
  refine j_imul C dX6_goodBlend_30 rfl ?_
  refine j_callV (st' := []) (As := [.ref (bq ad 100 i 0), .ref (bq ad 100 j 0), vi (n), vi (n * x)]) C dX6_goodBlend_31 rfl m_X6_338 x1 rfl rfl rfl (c_bestGo (kL κ) hfl (kD κ) (kc κ) σ tg ad bs ru se pf hd ca evs ln hX0 i hi j hj n (n * x) ⟨by omega, by omega⟩ ⟨by omega, by omega⟩) rfl (by omega) (by omega) (by omega) (fun _ _ hx => hx.elim) (fun v11 τ10 hp12 => ?_)
  obtain ⟨bl, rfl, hBl, hk1⟩ := hp12
  show J κ τ10 [(0, .ref (ad 0)), (1, vi ((i : Int))), (2, vi ((j : Int))), (3, vi (n)), (4, vi (x))] 34 [.ref bl] 3 17
  have hBl2 := hBl
  unfold BlR at hBl2
  rw [hfound] at hBl2
  refine j_astore (lv' := [(0, .ref (ad 0)), (1, vi ((i : Int))), (2, vi ((j : Int))), (3, vi (n)), (4, vi (x)), (5, .ref bl)]) [1, 2, 3, 4, 5, 0] C dX6_goodBlend_34 rfl rfl rfl ?_
  refine j_aload 5 C dX6_goodBlend_36 rfl rfl ?_
  refine j_callS (st' := []) (As := [.ref bl]) C dX6_goodBlend_38 rfl m_X6_213 rfl rfl (c_cfG (kL κ) hfl (kD κ) (kc κ) τ10 bl _ _ hBl2) rfl (by omega) (by omega) (by omega) (fun _ _ hx => hx.elim) (fun v14 τ13 hp15 => ?_)
  obtain ⟨rfl, hs9⟩ := hp15
  replace hs9 := hs9.symm
  subst hs9
  show J κ τ10 [(0, .ref (ad 0)), (1, vi ((i : Int))), (2, vi ((j : Int))), (3, vi (n)), (4, vi (x)), (5, .ref bl)] 41 [] _ _
  refine j_aload 5 C dX6_goodBlend_41 rfl rfl ?_
  exact j_aret C E dX6_goodBlend_43 (Or.inl ⟨_, rfl⟩) (by omega) (by omega) ⟨bl, rfl, hBl, hk1⟩
