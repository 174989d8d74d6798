/-! JDK: floorMod. Bin: reading -/

set_option maxHeartbeats 4000000 in
set_option maxRecDepth 20000 in
theorem c_floorMod (l : Launch) (hfl : l.stackTraces = false) (D : va_G) (cy : Nat → Nat) (σ : Wd) (a b : Int) (ha : 0 ≤ a ∧ a < 2147483648) (hb : 0 < b ∧ b < 2147483648) : Ct l yJ9_floorMod_7cf53 cJ9_floorMod_7cf53 3 (some .int) 0 0 0 D cy [vi (a), vi (b)] σ (fun v σ' => v = some (vi (a % b)) ∧ σ' = σ) noX := by
  refine ct_start (by decide +kernel) hfl rfl (fun κ e1 e2 e3 C E NH => ?_)
  subst e1 e2 e3
  have C : Cx κ cJ9_floorMod_7cf53 3 RJ9 "floorMod" 0 := C
  obtain ⟨-, -, -, -, hc, hs⟩ := id E
  show J κ σ [(0, vi (a)), (1, vi (b))] 0 [] 0 0
  refine j_iload_n 0 C dJ9_floorMod_7cf53_0 rfl rfl rfl ?_
  refine j_iload_n 1 C dJ9_floorMod_7cf53_1 rfl rfl rfl ?_
  refine j_irem C dJ9_floorMod_7cf53_2 rfl ha hb ?_
  refine j_istore_n [1, 2, 0] C dJ9_floorMod_7cf53_3 rfl rfl rfl rfl ?_
  refine j_iload_n 0 C dJ9_floorMod_7cf53_4 rfl rfl rfl ?_
  refine j_iload_n 1 C dJ9_floorMod_7cf53_5 rfl rfl rfl ?_
  refine j_ixor C dJ9_floorMod_7cf53_6 rfl ha ⟨by omega, by omega⟩ (fun c hc9 => ?_)
  refine j_if_ge (tgt := 18) C dJ9_floorMod_7cf53_7 rfl rfl ⟨by omega, by omega⟩ (fun c1 => ?_) (fun c1 => ?_)
  · refine j_iload_n 2 C dJ9_floorMod_7cf53_18 rfl rfl rfl ?_
    exact j_iret C E dJ9_floorMod_7cf53_19 (by omega) (by omega) ⟨rfl, rfl⟩
  · exact absurd c1 (by omega)
set_option maxHeartbeats 4000000 in
set_option maxRecDepth 20000 in
theorem c_slotAt (l : Launch) (hfl : l.stackTraces = false) (D : va_G) (cy : Nat → Nat) (σ : Wd) (h q1 q2 q3 q4 : Nat) (cap : Int) (mf : Bool) (old cnt tt i : Int) (hh : has σ h (.inr (0, [vi (cap), vi (b01 mf), .ref q1, .ref q2, .ref q3, .ref q4, vi (old), vi (cnt), vi (tt)]))) (ho : 0 ≤ old ∧ old < 80) (hi : 0 ≤ i ∧ i < cnt) (hcn : cnt ≤ 80) : Ct l yX0_slotAt cX0_slotAt 2 (some .int) 1 0 0 D cy [.ref h, vi (i)] σ (fun v σ' => v = some (vi (slotI mf old cnt i)) ∧ σ' = σ) noX := by
  refine ct_start (by decide +kernel) hfl rfl (fun κ e1 e2 e3 C E NH => ?_)
  subst e1 e2 e3
  have C : Cx κ cX0_slotAt 2 RX0 "slotAt" 1 := C
  obtain ⟨-, -, -, -, hc, hs⟩ := id E
  show J κ σ [(0, .ref h), (1, vi (i))] 0 [] 0 0
  refine j_aload_n 0 C dX0_slotAt_0 rfl rfl rfl ?_
  refine j_get C dX0_slotAt_1 rfl fg_X0_37 hh rfl ?_
  refine j_if_eq (tgt := 16) C dX0_slotAt_4 rfl rfl ⟨by unfold b01; split <;> decide, by unfold b01; split <;> decide⟩ (fun c1 => ?_) (fun c1 => ?_)
  · refine j_aload_n 0 C dX0_slotAt_16 rfl rfl rfl ?_
    refine j_get C dX0_slotAt_17 rfl fg_X0_24 hh rfl ?_
    refine j_aload_n 0 C dX0_slotAt_20 rfl rfl rfl ?_
    refine j_get C dX0_slotAt_21 rfl fg_X0_28 hh rfl ?_
    refine j_iadd C dX0_slotAt_24 rfl ?_
    refine j_iconst C dX0_slotAt_25 rfl ?_
    refine j_isub C dX0_slotAt_26 rfl ?_
    refine j_iload_n 1 C dX0_slotAt_27 rfl rfl rfl ?_
    refine j_isub C dX0_slotAt_28 rfl ?_
    refine j_bipush C dX0_slotAt_29 rfl (by decide) ?_
    refine j_callS (st' := []) (As := [vi (((old + cnt) - 1) - i), vi (80)]) C dX0_slotAt_31 rfl m_X0_41 rfl rfl (c_floorMod (kL κ) hfl (kD κ) (kc κ) σ (((old + cnt) - 1) - i) 80 ⟨by omega, by omega⟩ ⟨by omega, by omega⟩) rfl (by omega) (by omega) (by omega) (fun _ _ hx => hx.elim) (fun v3 σ2 hp4 => ?_)
    obtain ⟨rfl, rfl⟩ := hp4
    show J κ σ2 [(0, .ref h), (1, vi (i))] 34 [vi ((((old + cnt) - 1) - i) % 80)] _ _
    exact j_iret C E dX0_slotAt_34 (by omega) (by omega) ⟨by rcases b01_in mf with ⟨e9, rfl⟩ | ⟨e9, rfl⟩ <;> first | rfl | exact absurd e9 c1 | (exfalso; omega), rfl⟩
  · refine j_aload_n 0 C dX0_slotAt_7 rfl rfl rfl ?_
    refine j_get C dX0_slotAt_8 rfl fg_X0_24 hh rfl ?_
    refine j_iload_n 1 C dX0_slotAt_11 rfl rfl rfl ?_
    refine j_iadd C dX0_slotAt_12 rfl ?_
    refine j_goto (tgt := 29) C dX0_slotAt_13 rfl ?_
    refine j_bipush C dX0_slotAt_29 rfl (by decide) ?_
    refine j_callS (st' := []) (As := [vi (old + i), vi (80)]) C dX0_slotAt_31 rfl m_X0_41 rfl rfl (c_floorMod (kL κ) hfl (kD κ) (kc κ) σ (old + i) 80 ⟨by omega, by omega⟩ ⟨by omega, by omega⟩) rfl (by omega) (by omega) (by omega) (fun _ _ hx => hx.elim) (fun v6 σ5 hp7 => ?_)
    obtain ⟨rfl, rfl⟩ := hp7
    show J κ σ5 [(0, .ref h), (1, vi (i))] 34 [vi ((old + i) % 80)] _ _
    exact j_iret C E dX0_slotAt_34 (by omega) (by omega) ⟨by rcases b01_in mf with ⟨e9, rfl⟩ | ⟨e9, rfl⟩ <;> first | rfl | exact absurd e9 c1 | (exfalso; omega), rfl⟩
set_option maxHeartbeats 4000000 in
set_option maxRecDepth 20000 in
theorem c_slotFromOldest (l : Launch) (hfl : l.stackTraces = false) (D : va_G) (cy : Nat → Nat) (σ : Wd) (h q1 q2 q3 q4 : Nat) (cap : Int) (mf : Bool) (old cnt tt i : Int) (hh : has σ h (.inr (0, [vi (cap), vi (b01 mf), .ref q1, .ref q2, .ref q3, .ref q4, vi (old), vi (cnt), vi (tt)]))) (ho : 0 ≤ old ∧ old < 80) (hi : 0 ≤ i ∧ i ≤ 80) : Ct l yX0_slotFromOldest cX0_slotFromOldest 2 (some .int) 1 0 0 D cy [.ref h, vi (i)] σ (fun v σ' => v = some (vi ((old + i) % 80)) ∧ σ' = σ) noX := by
  refine ct_start (by decide +kernel) hfl rfl (fun κ e1 e2 e3 C E NH => ?_)
  subst e1 e2 e3
  have C : Cx κ cX0_slotFromOldest 2 RX0 "slotFromOldest" 1 := C
  obtain ⟨-, -, -, -, hc, hs⟩ := id E
  show J κ σ [(0, .ref h), (1, vi (i))] 0 [] 0 0
  refine j_aload_n 0 C dX0_slotFromOldest_0 rfl rfl rfl ?_
  refine j_get C dX0_slotFromOldest_1 rfl fg_X0_24 hh rfl ?_
  refine j_iload_n 1 C dX0_slotFromOldest_4 rfl rfl rfl ?_
  refine j_iadd C dX0_slotFromOldest_5 rfl ?_
  refine j_bipush C dX0_slotFromOldest_6 rfl (by decide) ?_
  refine j_callS (st' := []) (As := [vi (old + i), vi (80)]) C dX0_slotFromOldest_8 rfl m_X0_41 rfl rfl (c_floorMod (kL κ) hfl (kD κ) (kc κ) σ (old + i) 80 ⟨by omega, by omega⟩ ⟨by omega, by omega⟩) rfl (by omega) (by omega) (by omega) (fun _ _ hx => hx.elim) (fun v2 σ1 hp3 => ?_)
  obtain ⟨rfl, rfl⟩ := hp3
  exact j_iret C E dX0_slotFromOldest_11 (by omega) (by omega) ⟨rfl, rfl⟩
