/-! GrainElevator: what is asked before a call -/
set_option maxHeartbeats 4000000 in
set_option maxRecDepth 20000 in
theorem c_crG (l : Launch) (hfl : l.stackTraces = false) (D : va_G) (cy : Nat → Nat) (σ : Wd) (z a b : Int) (hz : (-2147483648 ≤ z ∧ z < 2147483648)) (hab : (-2147483648 ≤ a ∧ a < 2147483648) ∧ (-2147483648 ≤ b ∧ b < 2147483648)) (h : a ≤ z ∧ z ≤ b) : Ct l yX6_checkRange cX6_checkRange 3 none 0 0 0 D cy [vi (z), vi (a), vi (b)] σ (fun v σ' => v = none ∧ σ' = σ) noX := by
  refine ct_start (by decide +kernel) hfl rfl (fun κ e1 e2 e3 C E NH => ?_)
  subst e1 e2 e3
  have C : Cx κ cX6_checkRange 3 RX6 "checkRange" 0 := C
  obtain ⟨-, -, -, -, hc, hs⟩ := id E
  show J κ σ [(0, vi (z)), (1, vi (a)), (2, vi (b))] 0 [] 0 0
  refine j_iload_n 0 C dX6_checkRange_0 rfl rfl rfl ?_
  refine j_iload_n 1 C dX6_checkRange_1 rfl rfl rfl ?_
  refine j_icmp_lt (tgt := 10) C dX6_checkRange_2 rfl rfl ⟨by omega, by omega⟩ ⟨by omega, by omega⟩ (fun cc1 => ?_) (fun cc1 => ?_)
  · exact absurd cc1 (by omega)
  · refine j_iload_n 0 C dX6_checkRange_5 rfl rfl rfl ?_
    refine j_iload_n 2 C dX6_checkRange_6 rfl rfl rfl ?_
    refine j_icmp_le (tgt := 21) C dX6_checkRange_7 rfl rfl ⟨by omega, by omega⟩ ⟨by omega, by omega⟩ (fun cc2 => ?_) (fun cc2 => ?_)
    · exact j_vret C E dX6_checkRange_21 (by omega) (by omega) ⟨rfl, rfl⟩
    · exact absurd cc2 (by omega)
set_option maxHeartbeats 4000000 in
set_option maxRecDepth 20000 in
theorem c_crB (l : Launch) (hfl : l.stackTraces = false) (D : va_G) (cy : Nat → Nat) (σ : Wd) (z a b : Int) (hz : (-2147483648 ≤ z ∧ z < 2147483648)) (hab : (-2147483648 ≤ a ∧ a < 2147483648) ∧ (-2147483648 ≤ b ∧ b < 2147483648)) (h : z < a ∨ b < z) : Ct l yX6_checkRange cX6_checkRange 3 none 0 1 6 D cy [vi (z), vi (a), vi (b)] σ (fun v σ' => False) (fun E9 σ' => E9 = "java/lang/IllegalArgumentException" ∧ σ' = σ) := by
  refine ct_start (by decide +kernel) hfl rfl (fun κ e1 e2 e3 C E NH => ?_)
  subst e1 e2 e3
  have C : Cx κ cX6_checkRange 3 RX6 "checkRange" 0 := C
  obtain ⟨-, -, -, -, hc, hs⟩ := id E
  show J κ σ [(0, vi (z)), (1, vi (a)), (2, vi (b))] 0 [] 0 0
  refine j_iload_n 0 C dX6_checkRange_0 rfl rfl rfl ?_
  refine j_iload_n 1 C dX6_checkRange_1 rfl rfl rfl ?_
  refine j_icmp_lt (tgt := 10) C dX6_checkRange_2 rfl rfl ⟨by omega, by omega⟩ ⟨by omega, by omega⟩ (fun cc1 => ?_) (fun cc1 => ?_)
  · exact j_throwW C E NH tx_X6_274_278 (is := 276) (text := "an argument is out of range") (by decide) dX6_checkRange_10 dX6_checkRange_13 dX6_checkRange_14 dX6_checkRange_17 dX6_checkRange_20 rfl (by omega) (by omega) ⟨rfl, rfl⟩
  · refine j_iload_n 0 C dX6_checkRange_5 rfl rfl rfl ?_
    refine j_iload_n 2 C dX6_checkRange_6 rfl rfl rfl ?_
    refine j_icmp_le (tgt := 21) C dX6_checkRange_7 rfl rfl ⟨by omega, by omega⟩ ⟨by omega, by omega⟩ (fun cc2 => ?_) (fun cc2 => ?_)
    · exact absurd cc2 (by omega)
    · exact j_throwW C E NH tx_X6_274_278 (is := 276) (text := "an argument is out of range") (by decide) dX6_checkRange_10 dX6_checkRange_13 dX6_checkRange_14 dX6_checkRange_17 dX6_checkRange_20 rfl (by omega) (by omega) ⟨rfl, rfl⟩
set_option maxHeartbeats 4000000 in
set_option maxRecDepth 20000 in
theorem c_cmG (l : Launch) (hfl : l.stackTraces = false) (D : va_G) (cy : Nat → Nat) (σ : Wd) (z : Int) (hz : (-2147483648 ≤ z ∧ z < 2147483648)) (h : 80 ≤ z ∧ z ≤ 300) : Ct l yX6_checkMoisture cX6_checkMoisture 1 none 1 0 0 D cy [vi (z)] σ (fun v σ' => v = none ∧ σ' = σ) noX := by
  refine ct_start (by decide +kernel) hfl rfl (fun κ e1 e2 e3 C E NH => ?_)
  subst e1 e2 e3
  have C : Cx κ cX6_checkMoisture 1 RX6 "checkMoisture" 1 := C
  obtain ⟨-, -, -, -, hc, hs⟩ := id E
  show J κ σ [(0, vi (z))] 0 [] 0 0
  refine j_iload_n 0 C dX6_checkMoisture_0 rfl rfl rfl ?_
  refine j_bipush C dX6_checkMoisture_1 rfl (by decide) ?_
  refine j_sipush C dX6_checkMoisture_3 rfl (by decide) ?_
  refine j_callS (st' := []) (As := [vi (z), vi (80), vi (300)]) C dX6_checkMoisture_6 rfl m_X6_51 rfl rfl (c_crG (kL κ) hfl (kD κ) (kc κ) σ z 80 300 hz ⟨by omega, by omega⟩ h) rfl (by omega) (by omega) (by omega) (fun _ _ hx => hx.elim) (fun v2 τ1 hp3 => ?_)
  obtain ⟨rfl, hs9⟩ := hp3
  replace hs9 := hs9.symm
  subst hs9
  show J κ σ [(0, vi (z))] 9 [] _ _
  exact j_vret C E dX6_checkMoisture_9 (by omega) (by omega) ⟨rfl, rfl⟩
set_option maxHeartbeats 4000000 in
set_option maxRecDepth 20000 in
theorem c_cmB (l : Launch) (hfl : l.stackTraces = false) (D : va_G) (cy : Nat → Nat) (σ : Wd) (z : Int) (hz : (-2147483648 ≤ z ∧ z < 2147483648)) (h : z < 80 ∨ 300 < z) : Ct l yX6_checkMoisture cX6_checkMoisture 1 none 1 1 6 D cy [vi (z)] σ (fun v σ' => False) (fun E9 σ' => E9 = "java/lang/IllegalArgumentException" ∧ σ' = σ) := by
  refine ct_start (by decide +kernel) hfl rfl (fun κ e1 e2 e3 C E NH => ?_)
  subst e1 e2 e3
  have C : Cx κ cX6_checkMoisture 1 RX6 "checkMoisture" 1 := C
  obtain ⟨-, -, -, -, hc, hs⟩ := id E
  show J κ σ [(0, vi (z))] 0 [] 0 0
  refine j_iload_n 0 C dX6_checkMoisture_0 rfl rfl rfl ?_
  refine j_bipush C dX6_checkMoisture_1 rfl (by decide) ?_
  refine j_sipush C dX6_checkMoisture_3 rfl (by decide) ?_
  refine j_callS (st' := []) (As := [vi (z), vi (80), vi (300)]) C dX6_checkMoisture_6 rfl m_X6_51 rfl rfl (c_crB (kL κ) hfl (kD κ) (kc κ) σ z 80 300 hz ⟨by omega, by omega⟩ h) rfl (by omega) (by omega) (by omega) (fun E9 σ9 hx => jx_out C E NH (by omega) (by omega) hx) (fun v2 τ1 hp3 => ?_)
  exact hp3.elim
set_option maxHeartbeats 4000000 in
set_option maxRecDepth 20000 in
theorem c_cgG (l : Launch) (hfl : l.stackTraces = false) (D : va_G) (cy : Nat → Nat) (σ : Wd) (z y : Int) (hz : (-2147483648 ≤ z ∧ z < 2147483648)) (hy : (-2147483648 ≤ y ∧ y < 2147483648)) (h : (80 ≤ z ∧ z ≤ 300) ∧ (0 ≤ y ∧ y ≤ 100)) : Ct l yX6_checkGrain cX6_checkGrain 2 none 2 0 0 D cy [vi (z), vi (y)] σ (fun v σ' => v = none ∧ σ' = σ) noX := by
  refine ct_start (by decide +kernel) hfl rfl (fun κ e1 e2 e3 C E NH => ?_)
  subst e1 e2 e3
  have C : Cx κ cX6_checkGrain 2 RX6 "checkGrain" 2 := C
  obtain ⟨-, -, -, -, hc, hs⟩ := id E
  show J κ σ [(0, vi (z)), (1, vi (y))] 0 [] 0 0
  refine j_iload_n 0 C dX6_checkGrain_0 rfl rfl rfl ?_
  refine j_callS (st' := []) (As := [vi (z)]) C dX6_checkGrain_1 rfl m_X6_144 rfl rfl (c_cmG (kL κ) hfl (kD κ) (kc κ) σ z hz h.1) rfl (by omega) (by omega) (by omega) (fun _ _ hx => hx.elim) (fun v2 τ1 hp3 => ?_)
  obtain ⟨rfl, hs9⟩ := hp3
  replace hs9 := hs9.symm
  subst hs9
  show J κ σ [(0, vi (z)), (1, vi (y))] 4 [] _ _
  refine j_iload_n 1 C dX6_checkGrain_4 rfl rfl rfl ?_
  refine j_iconst C dX6_checkGrain_5 rfl ?_
  refine j_bipush C dX6_checkGrain_6 rfl (by decide) ?_
  refine j_callS (st' := []) (As := [vi (y), vi (0), vi (100)]) C dX6_checkGrain_8 rfl m_X6_51 rfl rfl (c_crG (kL κ) hfl (kD κ) (kc κ) σ y 0 100 hy ⟨by omega, by omega⟩ h.2) rfl (by omega) (by omega) (by omega) (fun _ _ hx => hx.elim) (fun v5 τ4 hp6 => ?_)
  obtain ⟨rfl, hs9⟩ := hp6
  replace hs9 := hs9.symm
  subst hs9
  show J κ σ [(0, vi (z)), (1, vi (y))] 11 [] _ _
  exact j_vret C E dX6_checkGrain_11 (by omega) (by omega) ⟨rfl, rfl⟩
set_option maxHeartbeats 4000000 in
set_option maxRecDepth 20000 in
theorem c_cgB (l : Launch) (hfl : l.stackTraces = false) (D : va_G) (cy : Nat → Nat) (σ : Wd) (z y : Int) (hz : (-2147483648 ≤ z ∧ z < 2147483648)) (hy : (-2147483648 ≤ y ∧ y < 2147483648)) (h : ¬ ((80 ≤ z ∧ z ≤ 300) ∧ (0 ≤ y ∧ y ≤ 100))) : Ct l yX6_checkGrain cX6_checkGrain 2 none 2 1 6 D cy [vi (z), vi (y)] σ (fun v σ' => False) (fun E9 σ' => E9 = "java/lang/IllegalArgumentException" ∧ σ' = σ) := by
  refine ct_start (by decide +kernel) hfl rfl (fun κ e1 e2 e3 C E NH => ?_)
  subst e1 e2 e3
  have C : Cx κ cX6_checkGrain 2 RX6 "checkGrain" 2 := C
  obtain ⟨-, -, -, -, hc, hs⟩ := id E
  show J κ σ [(0, vi (z)), (1, vi (y))] 0 [] 0 0
  refine j_iload_n 0 C dX6_checkGrain_0 rfl rfl rfl ?_
  by_cases hm : 80 ≤ z ∧ z ≤ 300
  · refine j_callS (st' := []) (As := [vi (z)]) C dX6_checkGrain_1 rfl m_X6_144 rfl rfl (c_cmG (kL κ) hfl (kD κ) (kc κ) σ z hz hm) rfl (by omega) (by omega) (by omega) (fun _ _ hx => hx.elim) (fun v2 τ1 hp3 => ?_)
    obtain ⟨rfl, hs9⟩ := hp3
    replace hs9 := hs9.symm
    subst hs9
    show J κ σ [(0, vi (z)), (1, vi (y))] 4 [] _ _
    refine j_iload_n 1 C dX6_checkGrain_4 rfl rfl rfl ?_
    refine j_iconst C dX6_checkGrain_5 rfl ?_
    refine j_bipush C dX6_checkGrain_6 rfl (by decide) ?_
    refine j_callS (st' := []) (As := [vi (y), vi (0), vi (100)]) C dX6_checkGrain_8 rfl m_X6_51 rfl rfl (c_crB (kL κ) hfl (kD κ) (kc κ) σ y 0 100 hy ⟨by omega, by omega⟩ (by omega)) rfl (by omega) (by omega) (by omega) (fun E9 σ9 hx => jx_out C E NH (by omega) (by omega) hx) (fun v5 τ4 hp6 => ?_)
    exact hp6.elim
  · refine j_callS (st' := []) (As := [vi (z)]) C dX6_checkGrain_1 rfl m_X6_144 rfl rfl (c_cmB (kL κ) hfl (kD κ) (kc κ) σ z hz (by omega)) rfl (by omega) (by omega) (by omega) (fun E9 σ9 hx => jx_out C E NH (by omega) (by omega) hx) (fun v8 τ7 hp9 => ?_)
    exact hp9.elim
set_option maxHeartbeats 4000000 in
set_option maxRecDepth 20000 in
theorem c_cdG (l : Launch) (hfl : l.stackTraces = false) (D : va_G) (cy : Nat → Nat) (σ : Wd) (z y : Int) (hz : (-2147483648 ≤ z ∧ z < 2147483648)) (hy : (-2147483648 ≤ y ∧ y < 2147483648)) (h : ¬ z = y) : Ct l yX6_checkDifferent cX6_checkDifferent 2 none 0 0 0 D cy [vi (z), vi (y)] σ (fun v σ' => v = none ∧ σ' = σ) noX := by
  refine ct_start (by decide +kernel) hfl rfl (fun κ e1 e2 e3 C E NH => ?_)
  subst e1 e2 e3
  have C : Cx κ cX6_checkDifferent 2 RX6 "checkDifferent" 0 := C
  obtain ⟨-, -, -, -, hc, hs⟩ := id E
  show J κ σ [(0, vi (z)), (1, vi (y))] 0 [] 0 0
  refine j_iload_n 0 C dX6_checkDifferent_0 rfl rfl rfl ?_
  refine j_iload_n 1 C dX6_checkDifferent_1 rfl rfl rfl ?_
  refine j_icmp_ne (tgt := 16) C dX6_checkDifferent_2 rfl rfl ⟨by omega, by omega⟩ ⟨by omega, by omega⟩ (fun cc1 => ?_) (fun cc1 => ?_)
  · exact j_vret C E dX6_checkDifferent_16 (by omega) (by omega) ⟨rfl, rfl⟩
  · exact absurd cc1 h
set_option maxHeartbeats 4000000 in
set_option maxRecDepth 20000 in
theorem c_cdB (l : Launch) (hfl : l.stackTraces = false) (D : va_G) (cy : Nat → Nat) (σ : Wd) (z y : Int) (hz : (-2147483648 ≤ z ∧ z < 2147483648)) (hy : (-2147483648 ≤ y ∧ y < 2147483648)) (h : z = y) : Ct l yX6_checkDifferent cX6_checkDifferent 2 none 0 1 6 D cy [vi (z), vi (y)] σ (fun v σ' => False) (fun E9 σ' => E9 = "java/lang/IllegalArgumentException" ∧ σ' = σ) := by
  refine ct_start (by decide +kernel) hfl rfl (fun κ e1 e2 e3 C E NH => ?_)
  subst e1 e2 e3
  have C : Cx κ cX6_checkDifferent 2 RX6 "checkDifferent" 0 := C
  obtain ⟨-, -, -, -, hc, hs⟩ := id E
  show J κ σ [(0, vi (z)), (1, vi (y))] 0 [] 0 0
  refine j_iload_n 0 C dX6_checkDifferent_0 rfl rfl rfl ?_
  refine j_iload_n 1 C dX6_checkDifferent_1 rfl rfl rfl ?_
  refine j_icmp_ne (tgt := 16) C dX6_checkDifferent_2 rfl rfl ⟨by omega, by omega⟩ ⟨by omega, by omega⟩ (fun cc1 => ?_) (fun cc1 => ?_)
  · exact absurd h cc1
  · exact j_throwW C E NH tx_X6_274_278 (is := 279) (text := "both bins are the same") (by decide) dX6_checkDifferent_5 dX6_checkDifferent_8 dX6_checkDifferent_9 dX6_checkDifferent_12 dX6_checkDifferent_15 rfl (by omega) (by omega) ⟨rfl, rfl⟩
set_option maxHeartbeats 4000000 in
set_option maxRecDepth 20000 in
theorem c_csG (l : Launch) (hfl : l.stackTraces = false) (D : va_G) (cy : Nat → Nat) (σ : Wd) (h9 q1 q2 q3 q4 : Nat) (cap old cnt tt mm : Int) (hh : has σ h9 (.inr (0, [vi cap, vi mm, .ref q1, .ref q2, .ref q3, .ref q4, vi old, vi cnt, vi tt]))) (n : Int) (hr : (-2147483648 ≤ tt ∧ tt < 2147483648) ∧ (-2147483648 ≤ cap ∧ cap < 2147483648) ∧ (-2147483648 ≤ cap - tt ∧ cap - tt < 2147483648)) (hn : (-2147483648 ≤ n ∧ n < 2147483648)) (h : n ≤ tt) : Ct l yX6_checkStock cX6_checkStock 2 none 0 0 0 D cy [.ref h9, vi (n)] σ (fun v σ' => v = none ∧ σ' = σ) noX := by
  refine ct_start (by decide +kernel) hfl rfl (fun κ e1 e2 e3 C E NH => ?_)
  subst e1 e2 e3
  have C : Cx κ cX6_checkStock 2 RX6 "checkStock" 0 := C
  obtain ⟨-, -, -, -, hc, hs⟩ := id E
  show J κ σ [(0, .ref h9), (1, vi (n))] 0 [] 0 0
  refine j_aload_n 0 C dX6_checkStock_0 rfl rfl rfl ?_
  refine j_get C dX6_checkStock_1 rfl fg_X6_153 hh rfl ?_
  refine j_iload_n 1 C dX6_checkStock_4 rfl rfl rfl ?_
  refine j_icmp_ge (tgt := 19) C dX6_checkStock_5 rfl rfl ⟨by omega, by omega⟩ ⟨by omega, by omega⟩ (fun cc1 => ?_) (fun cc1 => ?_)
  · exact j_vret C E dX6_checkStock_19 (by omega) (by omega) ⟨rfl, rfl⟩
  · exact absurd cc1 (by omega)
set_option maxHeartbeats 4000000 in
set_option maxRecDepth 20000 in
theorem c_csB (l : Launch) (hfl : l.stackTraces = false) (D : va_G) (cy : Nat → Nat) (σ : Wd) (h9 q1 q2 q3 q4 : Nat) (cap old cnt tt mm : Int) (hh : has σ h9 (.inr (0, [vi cap, vi mm, .ref q1, .ref q2, .ref q3, .ref q4, vi old, vi cnt, vi tt]))) (n : Int) (hr : (-2147483648 ≤ tt ∧ tt < 2147483648) ∧ (-2147483648 ≤ cap ∧ cap < 2147483648) ∧ (-2147483648 ≤ cap - tt ∧ cap - tt < 2147483648)) (hn : (-2147483648 ≤ n ∧ n < 2147483648)) (h : tt < n) : Ct l yX6_checkStock cX6_checkStock 2 none 0 1 6 D cy [.ref h9, vi (n)] σ (fun v σ' => False) (fun E9 σ' => E9 = "java/lang/IllegalStateException" ∧ σ' = σ) := by
  refine ct_start (by decide +kernel) hfl rfl (fun κ e1 e2 e3 C E NH => ?_)
  subst e1 e2 e3
  have C : Cx κ cX6_checkStock 2 RX6 "checkStock" 0 := C
  obtain ⟨-, -, -, -, hc, hs⟩ := id E
  show J κ σ [(0, .ref h9), (1, vi (n))] 0 [] 0 0
  refine j_aload_n 0 C dX6_checkStock_0 rfl rfl rfl ?_
  refine j_get C dX6_checkStock_1 rfl fg_X6_153 hh rfl ?_
  refine j_iload_n 1 C dX6_checkStock_4 rfl rfl rfl ?_
  refine j_icmp_ge (tgt := 19) C dX6_checkStock_5 rfl rfl ⟨by omega, by omega⟩ ⟨by omega, by omega⟩ (fun cc1 => ?_) (fun cc1 => ?_)
  · exact absurd cc1 (by omega)
  · exact j_throwW C E NH tx_X6_59_63 (is := 281) (text := "there is not so much in the bin") (by decide) dX6_checkStock_8 dX6_checkStock_11 dX6_checkStock_12 dX6_checkStock_15 dX6_checkStock_18 rfl (by omega) (by omega) ⟨rfl, rfl⟩
set_option maxHeartbeats 4000000 in
set_option maxRecDepth 20000 in
theorem c_croG (l : Launch) (hfl : l.stackTraces = false) (D : va_G) (cy : Nat → Nat) (σ : Wd) (h9 q1 q2 q3 q4 : Nat) (cap old cnt tt mm : Int) (hh : has σ h9 (.inr (0, [vi cap, vi mm, .ref q1, .ref q2, .ref q3, .ref q4, vi old, vi cnt, vi tt]))) (n : Int) (hr : (-2147483648 ≤ tt ∧ tt < 2147483648) ∧ (-2147483648 ≤ cap ∧ cap < 2147483648) ∧ (-2147483648 ≤ cap - tt ∧ cap - tt < 2147483648)) (hn : (-2147483648 ≤ n ∧ n < 2147483648)) (h : n ≤ cap - tt) : Ct l yX6_checkRoom cX6_checkRoom 2 none 0 0 0 D cy [.ref h9, vi (n)] σ (fun v σ' => v = none ∧ σ' = σ) noX := by
  refine ct_start (by decide +kernel) hfl rfl (fun κ e1 e2 e3 C E NH => ?_)
  subst e1 e2 e3
  have C : Cx κ cX6_checkRoom 2 RX6 "checkRoom" 0 := C
  obtain ⟨-, -, -, -, hc, hs⟩ := id E
  show J κ σ [(0, .ref h9), (1, vi (n))] 0 [] 0 0
  refine j_aload_n 0 C dX6_checkRoom_0 rfl rfl rfl ?_
  refine j_get C dX6_checkRoom_1 rfl fg_X6_79 hh rfl ?_
  refine j_aload_n 0 C dX6_checkRoom_4 rfl rfl rfl ?_
  refine j_get C dX6_checkRoom_5 rfl fg_X6_153 hh rfl ?_
  refine j_isub C dX6_checkRoom_8 rfl ?_
  refine j_iload_n 1 C dX6_checkRoom_9 rfl rfl rfl ?_
  refine j_icmp_ge (tgt := 24) C dX6_checkRoom_10 rfl rfl ⟨by omega, by omega⟩ ⟨by omega, by omega⟩ (fun cc1 => ?_) (fun cc1 => ?_)
  · exact j_vret C E dX6_checkRoom_24 (by omega) (by omega) ⟨rfl, rfl⟩
  · exact absurd cc1 (by omega)
set_option maxHeartbeats 4000000 in
set_option maxRecDepth 20000 in
theorem c_croB (l : Launch) (hfl : l.stackTraces = false) (D : va_G) (cy : Nat → Nat) (σ : Wd) (h9 q1 q2 q3 q4 : Nat) (cap old cnt tt mm : Int) (hh : has σ h9 (.inr (0, [vi cap, vi mm, .ref q1, .ref q2, .ref q3, .ref q4, vi old, vi cnt, vi tt]))) (n : Int) (hr : (-2147483648 ≤ tt ∧ tt < 2147483648) ∧ (-2147483648 ≤ cap ∧ cap < 2147483648) ∧ (-2147483648 ≤ cap - tt ∧ cap - tt < 2147483648)) (hn : (-2147483648 ≤ n ∧ n < 2147483648)) (h : cap - tt < n) : Ct l yX6_checkRoom cX6_checkRoom 2 none 0 1 6 D cy [.ref h9, vi (n)] σ (fun v σ' => False) (fun E9 σ' => E9 = "java/lang/IllegalStateException" ∧ σ' = σ) := by
  refine ct_start (by decide +kernel) hfl rfl (fun κ e1 e2 e3 C E NH => ?_)
  subst e1 e2 e3
  have C : Cx κ cX6_checkRoom 2 RX6 "checkRoom" 0 := C
  obtain ⟨-, -, -, -, hc, hs⟩ := id E
  show J κ σ [(0, .ref h9), (1, vi (n))] 0 [] 0 0
  refine j_aload_n 0 C dX6_checkRoom_0 rfl rfl rfl ?_
  refine j_get C dX6_checkRoom_1 rfl fg_X6_79 hh rfl ?_
  refine j_aload_n 0 C dX6_checkRoom_4 rfl rfl rfl ?_
  refine j_get C dX6_checkRoom_5 rfl fg_X6_153 hh rfl ?_
  refine j_isub C dX6_checkRoom_8 rfl ?_
  refine j_iload_n 1 C dX6_checkRoom_9 rfl rfl rfl ?_
  refine j_icmp_ge (tgt := 24) C dX6_checkRoom_10 rfl rfl ⟨by omega, by omega⟩ ⟨by omega, by omega⟩ (fun cc1 => ?_) (fun cc1 => ?_)
  · exact absurd cc1 (by omega)
  · exact j_throwW C E NH tx_X6_59_63 (is := 283) (text := "the bin has not enough room") (by decide) dX6_checkRoom_13 dX6_checkRoom_16 dX6_checkRoom_17 dX6_checkRoom_20 dX6_checkRoom_23 rfl (by omega) (by omega) ⟨rfl, rfl⟩
set_option maxHeartbeats 4000000 in
set_option maxRecDepth 20000 in
theorem c_ceG (l : Launch) (hfl : l.stackTraces = false) (D : va_G) (cy : Nat → Nat) (σ : Wd) (x a1 a3 a5 a7 a10 a11 a13 : Nat) (ca : Int) (hx9 : has σ x (.inr (6, [.ref a1, .ref a3, .ref a5, .ref a7, .ref a10, .ref a11, .ref a13, vl ca]))) (d : Nat) (xs : List Nat) (hL : LstR cy σ a5 d xs) (h : xs.length < 80) : Ct l yX6_checkEventLeft cX6_checkEventLeft 1 none 1 0 0 D cy [.ref x] σ (fun v σ' => v = none ∧ σ' = σ) noX := by
  refine ct_start (by decide +kernel) hfl rfl (fun κ e1 e2 e3 C E NH => ?_)
  subst e1 e2 e3
  have C : Cx κ cX6_checkEventLeft 1 RX6 "checkEventLeft" 1 := C
  obtain ⟨-, -, -, -, hc, hs⟩ := id E
  show J κ σ [(0, .ref x)] 0 [] 0 0
  obtain ⟨m9a5, hl9a5, -⟩ := id hL
  refine j_aload_n 0 C dX6_checkEventLeft_0 rfl rfl rfl ?_
  refine j_get C dX6_checkEventLeft_1 rfl fg_X6_19 hx9 rfl ?_
  refine j_callV (st' := []) (As := []) C dX6_checkEventLeft_4 rfl m_X6_55 hl9a5 rfl rfl rfl (c_size (kL κ) hfl (kD κ) (kc κ) σ a5 d xs hL) rfl (by omega) (by omega) (by omega) (fun _ _ hx => hx.elim) (fun v2 τ1 hp3 => ?_)
  obtain ⟨rfl, hs9⟩ := hp3
  replace hs9 := hs9.symm
  subst hs9
  show J κ σ [(0, .ref x)] 7 [vi ((xs.length : Int))] _ _
  refine j_bipush C dX6_checkEventLeft_7 rfl (by decide) ?_
  refine j_icmp_lt (tgt := 23) C dX6_checkEventLeft_9 rfl rfl ⟨by omega, by omega⟩ ⟨by omega, by omega⟩ (fun cc4 => ?_) (fun cc4 => ?_)
  · exact j_vret C E dX6_checkEventLeft_23 (by omega) (by omega) ⟨rfl, rfl⟩
  · exact absurd cc4 (by omega)
set_option maxHeartbeats 4000000 in
set_option maxRecDepth 20000 in
theorem c_ceB (l : Launch) (hfl : l.stackTraces = false) (D : va_G) (cy : Nat → Nat) (σ : Wd) (x a1 a3 a5 a7 a10 a11 a13 : Nat) (ca : Int) (hx9 : has σ x (.inr (6, [.ref a1, .ref a3, .ref a5, .ref a7, .ref a10, .ref a11, .ref a13, vl ca]))) (d : Nat) (xs : List Nat) (hL : LstR cy σ a5 d xs) (h : 80 ≤ xs.length ∧ xs.length < 1000) : Ct l yX6_checkEventLeft cX6_checkEventLeft 1 none 1 1 6 D cy [.ref x] σ (fun v σ' => False) (fun E9 σ' => E9 = "java/lang/IllegalStateException" ∧ σ' = σ) := by
  refine ct_start (by decide +kernel) hfl rfl (fun κ e1 e2 e3 C E NH => ?_)
  subst e1 e2 e3
  have C : Cx κ cX6_checkEventLeft 1 RX6 "checkEventLeft" 1 := C
  obtain ⟨-, -, -, -, hc, hs⟩ := id E
  show J κ σ [(0, .ref x)] 0 [] 0 0
  obtain ⟨m9a5, hl9a5, -⟩ := id hL
  refine j_aload_n 0 C dX6_checkEventLeft_0 rfl rfl rfl ?_
  refine j_get C dX6_checkEventLeft_1 rfl fg_X6_19 hx9 rfl ?_
  refine j_callV (st' := []) (As := []) C dX6_checkEventLeft_4 rfl m_X6_55 hl9a5 rfl rfl rfl (c_size (kL κ) hfl (kD κ) (kc κ) σ a5 d xs hL) rfl (by omega) (by omega) (by omega) (fun _ _ hx => hx.elim) (fun v2 τ1 hp3 => ?_)
  obtain ⟨rfl, hs9⟩ := hp3
  replace hs9 := hs9.symm
  subst hs9
  show J κ σ [(0, .ref x)] 7 [vi ((xs.length : Int))] _ _
  refine j_bipush C dX6_checkEventLeft_7 rfl (by decide) ?_
  refine j_icmp_lt (tgt := 23) C dX6_checkEventLeft_9 rfl rfl ⟨by omega, by omega⟩ ⟨by omega, by omega⟩ (fun cc4 => ?_) (fun cc4 => ?_)
  · exact absurd cc4 (by omega)
  · exact j_throwW C E NH tx_X6_59_63 (is := 285) (text := "there have been 80 events") (by decide) dX6_checkEventLeft_12 dX6_checkEventLeft_15 dX6_checkEventLeft_16 dX6_checkEventLeft_19 dX6_checkEventLeft_22 rfl (by omega) (by omega) ⟨rfl, rfl⟩
theorem LstR.le {cy : Nat → Nat} {σ : Wd} {a d : Nat} {xs : List Nat} (h : LstR cy σ a d xs) : xs.length ≤ 150 := by
  obtain ⟨m, h1, h2 | ⟨cap, f, h3, h4, h5⟩⟩ := h
  · rw [h2.2]; decide
  · omega
set_option maxHeartbeats 4000000 in
set_option maxRecDepth 20000 in
theorem c_biG (l : Launch) (hfl : l.stackTraces = false) (D : va_G) (cy : Nat → Nat) (σ : Wd) (la d : Nat) (xs : List Nat) (hL : LstR cy σ la d xs) (i b : Nat) (hb : xs[i]? = some b) (fs : List Value) (hbo : has σ b (.inr (0, fs))) : Ct l yX6_binIn cX6_binIn 2 (some (.object "GrainElevator$Bin")) 3 0 0 D cy [.ref la, vi ((i : Int))] σ (fun v σ' => v = some (.ref b) ∧ σ' = σ) noX := by
  refine ct_start (by decide +kernel) hfl rfl (fun κ e1 e2 e3 C E NH => ?_)
  subst e1 e2 e3
  have C : Cx κ cX6_binIn 2 RX6 "binIn" 3 := C
  obtain ⟨-, -, -, -, hc, hs⟩ := id E
  show J κ σ [(0, .ref la), (1, vi ((i : Int)))] 0 [] 0 0
  have hxl : xs.length ≤ 150 := LstR.le hL
  obtain ⟨m9la, hl9la, -⟩ := id hL
  have hi : i < xs.length := (List.getElem?_eq_some_iff.mp hb).1
  have hxb : xs[i]'hi = b := (List.getElem?_eq_some_iff.mp hb).2
  refine j_iload_n 1 C dX6_binIn_0 rfl rfl rfl ?_
  refine j_if_lt (tgt := 12) C dX6_binIn_1 rfl rfl ⟨by omega, by omega⟩ (fun cc1 => ?_) (fun cc1 => ?_)
  · exact absurd cc1 (by omega)
  · refine j_iload_n 1 C dX6_binIn_4 rfl rfl rfl ?_
    refine j_aload_n 0 C dX6_binIn_5 rfl rfl rfl ?_
    refine j_callV (st' := [vi ((i : Int))]) (As := []) C dX6_binIn_6 rfl m_X6_55 hl9la rfl rfl rfl (c_size (kL κ) hfl (kD κ) (kc κ) σ la d xs hL) rfl (by omega) (by omega) (by omega) (fun _ _ hx => hx.elim) (fun v3 τ2 hp4 => ?_)
    obtain ⟨rfl, hs9⟩ := hp4
    replace hs9 := hs9.symm
    subst hs9
    show J κ σ [(0, .ref la), (1, vi ((i : Int)))] 9 [vi ((xs.length : Int)), vi ((i : Int))] _ _
    refine j_icmp_lt (tgt := 23) C dX6_binIn_9 rfl rfl ⟨by omega, by omega⟩ ⟨by omega, by omega⟩ (fun cc5 => ?_) (fun cc5 => ?_)
    · refine j_aload_n 0 C dX6_binIn_23 rfl rfl rfl ?_
      refine j_iload_n 1 C dX6_binIn_24 rfl rfl rfl ?_
      refine j_callV (st' := []) (As := [vi ((i : Int))]) C dX6_binIn_25 rfl m_X6_194 hl9la rfl rfl rfl (c_listGet (kL κ) hfl (kD κ) (kc κ) σ la d xs hL i hi) rfl (by omega) (by omega) (by omega) (fun _ _ hx => hx.elim) (fun v7 τ6 hp8 => ?_)
      obtain ⟨rfl, hs9⟩ := hp8
      replace hs9 := hs9.symm
      subst hs9
      show J κ σ [(0, .ref la), (1, vi ((i : Int)))] 28 [.ref (xs[i]'hi)] _ _
      rw [hxb]
      refine j_chk C dX6_binIn_28 rfl hbo rfl cl_X6_66 ?_
      exact j_aret C E dX6_binIn_31 (Or.inl ⟨_, rfl⟩) (by omega) (by omega) ⟨rfl, rfl⟩
    · exact absurd cc5 (by omega)
set_option maxHeartbeats 4000000 in
set_option maxRecDepth 20000 in
theorem c_biB (l : Launch) (hfl : l.stackTraces = false) (D : va_G) (cy : Nat → Nat) (σ : Wd) (la d : Nat) (xs : List Nat) (hL : LstR cy σ la d xs) (i : Int) (hi : (-2147483648 ≤ i ∧ i < 2147483648)) (h : i < 0 ∨ (xs.length : Int) ≤ i) : Ct l yX6_binIn cX6_binIn 2 (some (.object "GrainElevator$Bin")) 3 1 6 D cy [.ref la, vi (i)] σ (fun v σ' => False) (fun E9 σ' => E9 = "java/lang/IndexOutOfBoundsException" ∧ σ' = σ) := by
  refine ct_start (by decide +kernel) hfl rfl (fun κ e1 e2 e3 C E NH => ?_)
  subst e1 e2 e3
  have C : Cx κ cX6_binIn 2 RX6 "binIn" 3 := C
  obtain ⟨-, -, -, -, hc, hs⟩ := id E
  show J κ σ [(0, .ref la), (1, vi (i))] 0 [] 0 0
  have hxl : xs.length ≤ 150 := LstR.le hL
  obtain ⟨m9la, hl9la, -⟩ := id hL
  refine j_iload_n 1 C dX6_binIn_0 rfl rfl rfl ?_
  refine j_if_lt (tgt := 12) C dX6_binIn_1 rfl rfl ⟨by omega, by omega⟩ (fun cc1 => ?_) (fun cc1 => ?_)
  · exact j_throwW C E NH tx_X6_237_241 (is := 296) (text := "there is no such bin") (by decide) dX6_binIn_12 dX6_binIn_15 dX6_binIn_16 dX6_binIn_19 dX6_binIn_22 rfl (by omega) (by omega) ⟨rfl, rfl⟩
  · refine j_iload_n 1 C dX6_binIn_4 rfl rfl rfl ?_
    refine j_aload_n 0 C dX6_binIn_5 rfl rfl rfl ?_
    refine j_callV (st' := [vi (i)]) (As := []) C dX6_binIn_6 rfl m_X6_55 hl9la rfl rfl rfl (c_size (kL κ) hfl (kD κ) (kc κ) σ la d xs hL) rfl (by omega) (by omega) (by omega) (fun _ _ hx => hx.elim) (fun v3 τ2 hp4 => ?_)
    obtain ⟨rfl, hs9⟩ := hp4
    replace hs9 := hs9.symm
    subst hs9
    show J κ σ [(0, .ref la), (1, vi (i))] 9 [vi ((xs.length : Int)), vi (i)] _ _
    refine j_icmp_lt (tgt := 23) C dX6_binIn_9 rfl rfl ⟨by omega, by omega⟩ ⟨by omega, by omega⟩ (fun cc5 => ?_) (fun cc5 => ?_)
    · exact absurd cc5 (by omega)
    · exact j_throwW C E NH tx_X6_237_241 (is := 296) (text := "there is no such bin") (by decide) dX6_binIn_12 dX6_binIn_15 dX6_binIn_16 dX6_binIn_19 dX6_binIn_22 rfl (by omega) (by omega) ⟨rfl, rfl⟩
