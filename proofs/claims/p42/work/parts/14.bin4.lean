/-! Bin: sums over layers, drying, comparing, making -/
def wetF (w : Int) (x : Ly) : Int := if w < x.2.1 then x.1 else 0
theorem lyAt_drop {l : List Ly} {i : Int} (h0 : 0 ≤ i) (h1 : i < (l.length : Int)) : l.drop i.toNat = lyAt l i :: l.drop (i + 1).toNat := by
  have hi : i.toNat < l.length := by omega
  unfold lyAt
  rw [List.getD_eq_getElem?_getD, List.getElem?_eq_getElem hi, show (i + 1).toNat = i.toNat + 1 by omega]
  exact List.drop_eq_getElem_cons hi
theorem lyAt_ring {G : Nat → Ly} {old : Int} {l : List Ly} (hl : l = ringL G old l.length) {i : Int} (h0 : 0 ≤ i) (h1 : i < (l.length : Int)) : G ((old + i) % 80).toNat = lyAt l i := by
  rw [hl]
  exact (ring_mass h0 h1).symm
theorem map_at {a b : List Ly} (h : a.map (fun x => x.1) = b.map (fun x => x.1)) (i : Int) : (lyAt a i).1 = (lyAt b i).1 := by
  have h2 := congrArg (fun l => l[i.toNat]?) h
  simp only [List.getElem?_map] at h2
  unfold lyAt
  rw [List.getD_eq_getElem?_getD, List.getD_eq_getElem?_getD]
  cases ha : a[i.toNat]? <;> cases hb : b[i.toNat]? <;> rw [ha, hb] at h2 <;> simp_all
set_option maxHeartbeats 4000000 in
set_option maxRecDepth 20000 in
theorem c_wetterThan (l : Launch) (hfl : l.stackTraces = false) (D : va_G) (cy : Nat → Nat) (σ : Wd) (h q1 q2 q3 q4 : Nat) (cap : Int) (mf : Bool) (ly : List Ly) (hB : BinR cy σ h q1 q2 q3 q4 (cap, mf, ly)) (w : Int) (hw : 0 ≤ w ∧ w ≤ 1000) : Ct l yX0_wetterThan cX0_wetterThan 4 (some .int) 3 0 0 D cy [.ref h, vi (w)] σ (fun v σ' => v = some (vi (sumL (wetF w) ly)) ∧ σ' = σ) noX := by
  refine ct_start (by decide +kernel) hfl rfl (fun κ e1 e2 e3 C E NH => ?_)
  subst e1 e2 e3
  have C : Cx κ cX0_wetterThan 4 RX0 "wetterThan" 3 := C
  obtain ⟨-, -, -, -, hc, hs⟩ := id E
  show J κ σ [(0, .ref h), (1, vi (w))] 0 [] 0 0
  have hB0 := hB
  obtain ⟨old, g1, g2, g3, g4, ⟨hh, ⟨h1, h2, h3, h4⟩, hne⟩, ho, hcn, hly, hok⟩ := hB
  dsimp only at hh ho hcn hly hok
  have hlf := fl_len (cap, mf, ly)
  dsimp only at hlf
  refine j_iconst C dX0_wetterThan_0 rfl ?_
  refine j_istore_n (lv' := [(0, .ref h), (1, vi (w)), (2, vi (0))]) [1, 2, 0] C dX0_wetterThan_1 rfl rfl rfl rfl ?_
  refine j_iconst C dX0_wetterThan_2 rfl ?_
  refine j_istore_n (lv' := [(0, .ref h), (1, vi (w)), (2, vi (0)), (3, vi (0))]) [1, 2, 3, 0] C dX0_wetterThan_3 rfl rfl rfl rfl ?_
  have lp : ∀ (N : Nat) (s : Int) (i : Int), s = sumL (wetF w) ((fl (cap, mf, ly)).take i.toNat) → 0 ≤ i ∧ i ≤ 80 → 0 ≤ s ∧ s ≤ 2000 * i → (81 - i).toNat < N → J κ σ [(0, .ref h), (1, vi (w)), (2, vi (s)), (3, vi (i))] 4 [] 0 0 := by
    intro N
    induction N with
    | zero => intro s i hs hi hb hN; exact absurd hN (Nat.not_lt_zero _)
    | succ N ih =>
      intro s i hs hi hb hN
      refine j_iload_n 3 C dX0_wetterThan_4 rfl rfl rfl ?_
      refine j_aload_n 0 C dX0_wetterThan_5 rfl rfl rfl ?_
      refine j_get C dX0_wetterThan_6 rfl fg_X0_28 hh rfl ?_
      refine j_icmp_ge (tgt := 39) C dX0_wetterThan_9 rfl rfl ⟨by omega, by omega⟩ ⟨by omega, by omega⟩ (fun cc1 => ?_) (fun cc1 => ?_)
      · refine j_iload_n 2 C dX0_wetterThan_39 rfl rfl rfl ?_
        exact j_iret C E dX0_wetterThan_40 (by omega) (by omega) ⟨congrArg some (congrArg vi (by rw [hs, sum_take_all (wetF w) (by omega), sum_fl])), rfl⟩
      · have hst := sum_take (wetF w) (l := fl (cap, mf, ly)) (i := i) (by omega) (by omega)
        have hx := lyAt_ok (fl_ok (b := (cap, mf, ly)) hok) (i := i) (by omega) (by omega)
        obtain ⟨x, hx9⟩ : ∃ x, lyAt (fl (cap, mf, ly)) i = x := ⟨_, rfl⟩
        rw [hx9] at hst hx
        have hx0 := hx
        obtain ⟨⟨hx1, hx2⟩, ⟨hx3, hx4⟩, ⟨hx5, hx6⟩, hx7, hx8⟩ := hx
        refine j_iload_n 2 C dX0_wetterThan_12 rfl rfl rfl ?_
        refine j_aload_n 0 C dX0_wetterThan_13 rfl rfl rfl ?_
        refine j_iload_n 3 C dX0_wetterThan_14 rfl rfl rfl ?_
        refine j_callV (st' := [vi (s)]) (As := [vi (i)]) C dX0_wetterThan_15 rfl m_X0_64 hh rfl rfl rfl (c_moistureAt (kL κ) hfl (kD κ) (kc κ) σ h q1 q2 q3 q4 cap mf ly hB0 i ⟨by omega, by omega⟩) rfl (by omega) (by omega) (by omega) (fun _ _ hx => hx.elim) (fun v3 τ2 hp4 => ?_)
        obtain ⟨rfl, rfl⟩ := hp4
        show J κ τ2 [(0, .ref h), (1, vi (w)), (2, vi (s)), (3, vi (i))] 18 [vi ((lyAt (fl (cap, mf, ly)) i).2.1), vi (s)] _ _
        rw [hx9]
        refine j_iload_n 1 C dX0_wetterThan_18 rfl rfl rfl ?_
        refine j_icmp_le (tgt := 30) C dX0_wetterThan_19 rfl rfl ⟨by omega, by omega⟩ ⟨by omega, by omega⟩ (fun cc5 => ?_) (fun cc5 => ?_)
        · refine j_iconst C dX0_wetterThan_30 rfl ?_
          have hF : wetF w x = 0 := if_neg (by omega)
          refine j_iadd C dX0_wetterThan_31 rfl ?_
          refine j_istore_n (lv' := [(0, .ref h), (1, vi (w)), (2, vi (s + 0)), (3, vi (i))]) [1, 2, 0, 3] C dX0_wetterThan_32 rfl rfl rfl rfl ?_
          refine j_iinc (y := i + 1) (lv' := [(0, .ref h), (1, vi (w)), (2, vi (s + 0)), (3, vi (i + 1))]) 3 [1, 2, 3, 0] C dX0_wetterThan_33 rfl rfl rfl rfl rfl ?_
          refine j_goto (tgt := 4) C dX0_wetterThan_36 rfl ?_
          refine ih _ _ ?_ ⟨by omega, by omega⟩ ?_ (by omega)
          · rw [hst, ← hs, hF]
          · omega
        · refine j_aload_n 0 C dX0_wetterThan_22 rfl rfl rfl ?_
          refine j_iload_n 3 C dX0_wetterThan_23 rfl rfl rfl ?_
          refine j_callV (st' := [vi (s)]) (As := [vi (i)]) C dX0_wetterThan_24 rfl m_X0_67 hh rfl rfl rfl (c_bushelsAt (kL κ) hfl (kD κ) (kc κ) τ2 h q1 q2 q3 q4 cap mf ly hB0 i ⟨by omega, by omega⟩) rfl (by omega) (by omega) (by omega) (fun _ _ hx => hx.elim) (fun v7 τ6 hp8 => ?_)
          obtain ⟨rfl, rfl⟩ := hp8
          show J κ τ6 [(0, .ref h), (1, vi (w)), (2, vi (s)), (3, vi (i))] 27 [vi ((lyAt (fl (cap, mf, ly)) i).1), vi (s)] _ _
          rw [hx9]
          have hF : wetF w x = x.1 := if_pos (by omega)
          refine j_goto (tgt := 31) C dX0_wetterThan_27 rfl ?_
          refine j_iadd C dX0_wetterThan_31 rfl ?_
          refine j_istore_n (lv' := [(0, .ref h), (1, vi (w)), (2, vi (s + x.1)), (3, vi (i))]) [1, 2, 0, 3] C dX0_wetterThan_32 rfl rfl rfl rfl ?_
          refine j_iinc (y := i + 1) (lv' := [(0, .ref h), (1, vi (w)), (2, vi (s + x.1)), (3, vi (i + 1))]) 3 [1, 2, 3, 0] C dX0_wetterThan_33 rfl rfl rfl rfl rfl ?_
          refine j_goto (tgt := 4) C dX0_wetterThan_36 rfl ?_
          refine ih _ _ ?_ ⟨by omega, by omega⟩ ?_ (by omega)
          · rw [hst, ← hs, hF]
          · omega
  exact lp _ 0 0 rfl ⟨by omega, by omega⟩ ⟨by omega, by omega⟩ (Nat.lt_succ_self _)
set_option maxHeartbeats 4000000 in
set_option maxRecDepth 20000 in
theorem c_costOfDrying (l : Launch) (hfl : l.stackTraces = false) (D : va_G) (cy : Nat → Nat) (σ : Wd) (h q1 q2 q3 q4 : Nat) (cap : Int) (mf : Bool) (ly : List Ly) (hB : BinR cy σ h q1 q2 q3 q4 (cap, mf, ly)) (w : Int) (hw : 80 ≤ w ∧ w ≤ 300) : Ct l yX0_costOfDrying cX0_costOfDrying 5 (some .int) 3 0 0 D cy [.ref h, vi (w)] σ (fun v σ' => v = some (vi (sumL (dryC w) ly)) ∧ σ' = σ) noX := by
  refine ct_start (by decide +kernel) hfl rfl (fun κ e1 e2 e3 C E NH => ?_)
  subst e1 e2 e3
  have C : Cx κ cX0_costOfDrying 5 RX0 "costOfDrying" 3 := C
  obtain ⟨-, -, -, -, hc, hs⟩ := id E
  show J κ σ [(0, .ref h), (1, vi (w))] 0 [] 0 0
  have hB0 := hB
  obtain ⟨old, g1, g2, g3, g4, ⟨hh, ⟨h1, h2, h3, h4⟩, hne⟩, ho, hcn, hly, hok⟩ := hB
  dsimp only at hh ho hcn hly hok
  have hlf := fl_len (cap, mf, ly)
  dsimp only at hlf
  refine j_iconst C dX0_costOfDrying_0 rfl ?_
  refine j_istore_n (lv' := [(0, .ref h), (1, vi (w)), (2, vi (0))]) [1, 2, 0] C dX0_costOfDrying_1 rfl rfl rfl rfl ?_
  refine j_iconst C dX0_costOfDrying_2 rfl ?_
  refine j_istore_n (lv' := [(0, .ref h), (1, vi (w)), (2, vi (0)), (3, vi (0))]) [1, 2, 3, 0] C dX0_costOfDrying_3 rfl rfl rfl rfl ?_
  have lp : ∀ (N : Nat) (s : Int) (i : Int), s = sumL (dryC w) ((fl (cap, mf, ly)).take i.toNat) → 0 ≤ i ∧ i ≤ 80 → 0 ≤ s ∧ s ≤ 60000 * i → (81 - i).toNat < N → J κ σ [(0, .ref h), (1, vi (w)), (2, vi (s)), (3, vi (i))] 4 [] 0 0 := by
    intro N
    induction N with
    | zero => intro s i hs hi hb hN; exact absurd hN (Nat.not_lt_zero _)
    | succ N ih =>
      intro s i hs hi hb hN
      refine j_iload_n 3 C dX0_costOfDrying_4 rfl rfl rfl ?_
      refine j_aload_n 0 C dX0_costOfDrying_5 rfl rfl rfl ?_
      refine j_get C dX0_costOfDrying_6 rfl fg_X0_28 hh rfl ?_
      refine j_icmp_ge (tgt := 50) C dX0_costOfDrying_9 rfl rfl ⟨by omega, by omega⟩ ⟨by omega, by omega⟩ (fun cc1 => ?_) (fun cc1 => ?_)
      · refine j_iload_n 2 C dX0_costOfDrying_50 rfl rfl rfl ?_
        exact j_iret C E dX0_costOfDrying_51 (by omega) (by omega) ⟨congrArg some (congrArg vi (by rw [hs, sum_take_all (dryC w) (by omega), sum_fl])), rfl⟩
      · have hst := sum_take (dryC w) (l := fl (cap, mf, ly)) (i := i) (by omega) (by omega)
        have hx := lyAt_ok (fl_ok (b := (cap, mf, ly)) hok) (i := i) (by omega) (by omega)
        obtain ⟨x, hx9⟩ : ∃ x, lyAt (fl (cap, mf, ly)) i = x := ⟨_, rfl⟩
        rw [hx9] at hst hx
        have hx0 := hx
        obtain ⟨⟨hx1, hx2⟩, ⟨hx3, hx4⟩, ⟨hx5, hx6⟩, hx7, hx8⟩ := hx
        refine j_aload_n 0 C dX0_costOfDrying_12 rfl rfl rfl ?_
        refine j_iload_n 3 C dX0_costOfDrying_13 rfl rfl rfl ?_
        refine j_callV (st' := []) (As := [vi (i)]) C dX0_costOfDrying_14 rfl m_X0_64 hh rfl rfl rfl (c_moistureAt (kL κ) hfl (kD κ) (kc κ) σ h q1 q2 q3 q4 cap mf ly hB0 i ⟨by omega, by omega⟩) rfl (by omega) (by omega) (by omega) (fun _ _ hx => hx.elim) (fun v3 τ2 hp4 => ?_)
        obtain ⟨rfl, rfl⟩ := hp4
        show J κ τ2 [(0, .ref h), (1, vi (w)), (2, vi (s)), (3, vi (i))] 17 [vi ((lyAt (fl (cap, mf, ly)) i).2.1)] _ _
        rw [hx9]
        refine j_iload_n 1 C dX0_costOfDrying_17 rfl rfl rfl ?_
        refine j_isub C dX0_costOfDrying_18 rfl ?_
        refine j_istore (lv' := [(0, .ref h), (1, vi (w)), (2, vi (s)), (3, vi (i)), (4, vi (x.2.1 - w))]) [1, 2, 3, 4, 0] C dX0_costOfDrying_19 rfl rfl rfl ?_
        refine j_iload_n 2 C dX0_costOfDrying_21 rfl rfl rfl ?_
        refine j_iload 4 C dX0_costOfDrying_22 rfl rfl ?_
        refine j_if_le (tgt := 41) C dX0_costOfDrying_24 rfl rfl ⟨by omega, by omega⟩ (fun cc5 => ?_) (fun cc5 => ?_)
        · refine j_iconst C dX0_costOfDrying_41 rfl ?_
          have hF : dryC w x = 0 := if_neg (by omega)
          refine j_iadd C dX0_costOfDrying_42 rfl ?_
          refine j_istore_n (lv' := [(0, .ref h), (1, vi (w)), (2, vi (s + 0)), (3, vi (i)), (4, vi (x.2.1 - w))]) [1, 2, 0, 3, 4] C dX0_costOfDrying_43 rfl rfl rfl rfl ?_
          refine j_iinc (y := i + 1) (lv' := [(0, .ref h), (1, vi (w)), (2, vi (s + 0)), (3, vi (i + 1)), (4, vi (x.2.1 - w))]) 3 [1, 2, 3, 0, 4] C dX0_costOfDrying_44 rfl rfl rfl rfl rfl ?_
          refine j_goto (tgt := 4) C dX0_costOfDrying_47 rfl ?_
          refine j_locals (lv' := [(0, .ref h), (1, vi (w)), (2, vi (s + 0)), (3, vi (i + 1))]) [0, 1, 2, 3] rfl ?_
          refine ih _ _ ?_ ⟨by omega, by omega⟩ ?_ (by omega)
          · rw [hst, ← hs, hF]
          · omega
        · refine j_aload_n 0 C dX0_costOfDrying_27 rfl rfl rfl ?_
          refine j_iload_n 3 C dX0_costOfDrying_28 rfl rfl rfl ?_
          refine j_callV (st' := [vi (s)]) (As := [vi (i)]) C dX0_costOfDrying_29 rfl m_X0_67 hh rfl rfl rfl (c_bushelsAt (kL κ) hfl (kD κ) (kc κ) τ2 h q1 q2 q3 q4 cap mf ly hB0 i ⟨by omega, by omega⟩) rfl (by omega) (by omega) (by omega) (fun _ _ hx => hx.elim) (fun v7 τ6 hp8 => ?_)
          obtain ⟨rfl, rfl⟩ := hp8
          show J κ τ6 [(0, .ref h), (1, vi (w)), (2, vi (s)), (3, vi (i)), (4, vi (x.2.1 - w))] 32 [vi ((lyAt (fl (cap, mf, ly)) i).1), vi (s)] _ _
          rw [hx9]
          have p1 : 0 ≤ x.1 * (x.2.1 - w) := Int.mul_nonneg (by omega) (by omega)
          have p2 : x.1 * (x.2.1 - w) ≤ 2000 * (x.2.1 - w) := Int.mul_le_mul_of_nonneg_right (by omega) (by omega)
          have p3 : dryC w x = x.1 * (x.2.1 - w) / 10 := if_pos (by omega)
          obtain ⟨pp, hpp⟩ : ∃ z : Int, x.1 * (x.2.1 - w) = z := ⟨_, rfl⟩
          refine j_iload 4 C dX0_costOfDrying_32 rfl rfl ?_
          refine j_imul C dX0_costOfDrying_34 rfl ?_
          rw [hpp] at p1 p2 p3 ⊢
          refine j_bipush C dX0_costOfDrying_35 rfl (by decide) ?_
          refine j_idiv C dX0_costOfDrying_37 rfl ⟨by omega, by omega⟩ ⟨by omega, by omega⟩ ?_
          refine j_goto (tgt := 42) C dX0_costOfDrying_38 rfl ?_
          refine j_iadd C dX0_costOfDrying_42 rfl ?_
          refine j_istore_n (lv' := [(0, .ref h), (1, vi (w)), (2, vi (s + (pp / 10))), (3, vi (i)), (4, vi (x.2.1 - w))]) [1, 2, 0, 3, 4] C dX0_costOfDrying_43 rfl rfl rfl rfl ?_
          refine j_iinc (y := i + 1) (lv' := [(0, .ref h), (1, vi (w)), (2, vi (s + (pp / 10))), (3, vi (i + 1)), (4, vi (x.2.1 - w))]) 3 [1, 2, 3, 0, 4] C dX0_costOfDrying_44 rfl rfl rfl rfl rfl ?_
          refine j_goto (tgt := 4) C dX0_costOfDrying_47 rfl ?_
          refine j_locals (lv' := [(0, .ref h), (1, vi (w)), (2, vi (s + (pp / 10))), (3, vi (i + 1))]) [0, 1, 2, 3] rfl ?_
          refine ih _ _ ?_ ⟨by omega, by omega⟩ ?_ (by omega)
          · rw [hst, ← hs, p3]
          · omega
  exact lp _ 0 0 rfl ⟨by omega, by omega⟩ ⟨by omega, by omega⟩ (Nat.lt_succ_self _)
set_option maxHeartbeats 4000000 in
set_option maxRecDepth 20000 in
theorem c_shrunk (l : Launch) (hfl : l.stackTraces = false) (D : va_G) (cy : Nat → Nat) (σ : Wd) (n m w : Int) (hn : 0 ≤ n ∧ n ≤ 2000) (hm : 0 ≤ m ∧ m ≤ 1000) (hw : 0 ≤ w ∧ w < 1000) : Ct l yX0_shrunk cX0_shrunk 3 (some .int) 0 0 0 D cy [vi (n), vi (m), vi (w)] σ (fun v σ' => v = some (vi (n * (1000 - m) / (1000 - w))) ∧ σ' = σ) noX := by
  refine ct_start (by decide +kernel) hfl rfl (fun κ e1 e2 e3 C E NH => ?_)
  subst e1 e2 e3
  have C : Cx κ cX0_shrunk 3 RX0 "shrunk" 0 := C
  obtain ⟨-, -, -, -, hc, hs⟩ := id E
  show J κ σ [(0, vi (n)), (1, vi (m)), (2, vi (w))] 0 [] 0 0
  refine j_iload_n 2 C dX0_shrunk_0 rfl rfl rfl ?_
  refine j_sipush C dX0_shrunk_1 rfl (by decide) ?_
  refine j_icmp_lt (tgt := 11) C dX0_shrunk_4 rfl rfl ⟨by omega, by omega⟩ ⟨by omega, by omega⟩ (fun cc1 => ?_) (fun cc1 => ?_)
  · have p1 : 0 ≤ n * (1000 - m) := Int.mul_nonneg (by omega) (by omega)
    have p2 : n * (1000 - m) ≤ 2000 * (1000 - m) := Int.mul_le_mul_of_nonneg_right (by omega) (by omega)
    obtain ⟨pp, hpp⟩ : ∃ z : Int, n * (1000 - m) = z := ⟨_, rfl⟩
    refine j_iload_n 0 C dX0_shrunk_11 rfl rfl rfl ?_
    refine j_sipush C dX0_shrunk_12 rfl (by decide) ?_
    refine j_iload_n 1 C dX0_shrunk_15 rfl rfl rfl ?_
    refine j_isub C dX0_shrunk_16 rfl ?_
    refine j_imul C dX0_shrunk_17 rfl ?_
    rw [hpp] at p1 p2 ⊢
    refine j_sipush C dX0_shrunk_18 rfl (by decide) ?_
    refine j_iload_n 2 C dX0_shrunk_21 rfl rfl rfl ?_
    refine j_isub C dX0_shrunk_22 rfl ?_
    refine j_idiv C dX0_shrunk_23 rfl ⟨by omega, by omega⟩ ⟨by omega, by omega⟩ ?_
    exact j_iret C E dX0_shrunk_24 (by omega) (by omega) ⟨congrArg (fun z => some (vi (z / (1000 - w)))) hpp.symm, rfl⟩
  · exact absurd cc1 (by omega)
set_option maxHeartbeats 8000000 in
set_option maxRecDepth 20000 in
theorem c_dryTo (l : Launch) (hfl : l.stackTraces = false) (D : va_G) (cy : Nat → Nat) (σ : Wd) (h q1 q2 q3 q4 : Nat) (cap : Int) (mf : Bool) (ly : List Ly) (hB : BinR cy σ h q1 q2 q3 q4 (cap, mf, ly)) (w : Int) (hw : 80 ≤ w ∧ w ≤ 300) (hr m f : Nat) (ru : Nat → Int × Int) (se : Int) (hR : RuleR cy σ hr m f ru se) (hdr : ¬ inB h q1 q2 q3 q4 hr ∧ ¬ inB h q1 q2 q3 q4 m ∧ ¬ inB h q1 q2 q3 q4 f) : Ct l yX0_dryTo cX0_dryTo 7 none 4 0 0 D cy [.ref h, vi (w), .ref hr] σ (fun v σ' => v = none ∧ BinR cy σ' h q1 q2 q3 q4 (cap, mf, dryL (gradeF ru se) w ly) ∧ Keep σ σ' (inB h q1 q2 q3 q4) ∧ σ'.1 = σ.1) noX := by
  refine ct_start (by decide +kernel) hfl rfl (fun κ e1 e2 e3 C E NH => ?_)
  subst e1 e2 e3
  have C : Cx κ cX0_dryTo 7 RX0 "dryTo" 4 := C
  obtain ⟨-, -, -, -, hc, hs⟩ := id E
  show J κ σ [(0, .ref h), (1, vi (w)), (2, .ref hr)] 0 [] 0 0
  obtain ⟨gr, hgr⟩ : ∃ g : Int → Int → Int, gradeF ru se = g := ⟨_, rfl⟩
  have hgi := gradeF_in ru se
  rw [hgr] at hgi E
  obtain ⟨old, g1, g2, g3, g4, ⟨hh, ⟨h1, h2, h3, h4⟩, hne⟩, ho, hcn, hly, hok⟩ := hB
  dsimp only at hh ho hcn hly hok
  have kp0 : Keep σ σ (inB h q1 q2 q3 q4) := Keep.rf
  have dm0 : σ.1 = σ.1 := rfl
  refine j_aload_n 0 C dX0_dryTo_0 rfl rfl rfl ?_
  refine j_get C dX0_dryTo_1 rfl fg_X0_28 hh rfl ?_
  refine j_istore_n (lv' := [(0, .ref h), (1, vi (w)), (2, .ref hr), (3, vi ((ly.length : Int)))]) [1, 2, 3, 0] C dX0_dryTo_4 rfl rfl rfl rfl ?_
  refine j_aload_n 0 C dX0_dryTo_5 rfl rfl rfl ?_
  refine j_iconst C dX0_dryTo_6 rfl ?_
  refine j_put (fs' := [vi (cap), vi (b01 mf), .ref q1, .ref q2, .ref q3, .ref q4, vi (old), vi (0), vi (tot ly)]) C dX0_dryTo_7 rfl fa_X0_28 hh rfl rfl rfl rfl (fun τ1 ee2 => ?_)
  have u3 : has τ1 h (.inr (0, [vi (cap), vi (b01 mf), .ref q1, .ref q2, .ref q3, .ref q4, vi (old), vi (0), vi (tot ly)])) := hh.self' ee2
  have u4 := h1.ne' ee2 (h1.nk hh rfl)
  have u5 := h2.ne' ee2 (h2.nk hh rfl)
  have u6 := h3.ne' ee2 (h3.nk hh rfl)
  have u7 := h4.ne' ee2 (h4.nk hh rfl)
  have kp8 := kp0.put ee2 (Or.inl rfl)
  have dm9 := (dom_put ee2).trans dm0
  refine j_aload_n 0 C dX0_dryTo_10 rfl rfl rfl ?_
  refine j_iconst C dX0_dryTo_11 rfl ?_
  refine j_put (fs' := [vi (cap), vi (b01 mf), .ref q1, .ref q2, .ref q3, .ref q4, vi (old), vi (0), vi (0)]) C dX0_dryTo_12 rfl fa_X0_31 u3 rfl rfl rfl rfl (fun τ10 ee11 => ?_)
  have u12 : has τ10 h (.inr (0, [vi (cap), vi (b01 mf), .ref q1, .ref q2, .ref q3, .ref q4, vi (old), vi (0), vi (0)])) := u3.self' ee11
  have u13 := u4.ne' ee11 (u4.nk u3 rfl)
  have u14 := u5.ne' ee11 (u5.nk u3 rfl)
  have u15 := u6.ne' ee11 (u6.nk u3 rfl)
  have u16 := u7.ne' ee11 (u7.nk u3 rfl)
  have kp17 := kp8.put ee11 (Or.inl rfl)
  have dm18 := (dom_put ee11).trans dm9
  refine j_iconst C dX0_dryTo_15 rfl ?_
  refine j_istore (lv' := [(0, .ref h), (1, vi (w)), (2, .ref hr), (3, vi ((ly.length : Int))), (4, vi (0))]) [1, 2, 3, 4, 0] C dX0_dryTo_16 rfl rfl rfl ?_
  have lp : ∀ (N : Nat) (i : Int) (σ1 : Wd) (dn : List Ly) (f1 : Nat → Int) (f2 : Nat → Int) (f3 : Nat → Int) (f4 : Nat → Int), BinC (kc κ) σ1 h q1 q2 q3 q4 cap mf old (dn.length : Int) (tot dn) f1 f2 f3 f4 → dn = ringL (G4 f1 f2 f3 f4) old dn.length → lysOk dn → (dn.length : Int) ≤ i → 0 ≤ i ∧ i ≤ (ly.length : Int) → (∀ j : Int, i ≤ j → j < (ly.length : Int) → G4 f1 f2 f3 f4 ((old + j) % 80).toNat = lyAt ly j) → dn ++ dryL gr w (ly.drop i.toNat) = dryL gr w ly → Keep σ σ1 (inB h q1 q2 q3 q4) → σ1.1 = σ.1 → (81 - i).toNat < N → J κ σ1 [(0, .ref h), (1, vi (w)), (2, .ref hr), (3, vi ((ly.length : Int))), (4, vi (i))] 18 [] 0 0 := by
    intro N
    induction N with
    | zero => intro i σ1 dn f1 f2 f3 f4 hC1 hdn hok1 hle hi hrest hdone hk1 hd1 hN; exact absurd hN (Nat.not_lt_zero _)
    | succ N ih =>
      intro i σ1 dn f1 f2 f3 f4 hC1 hdn hok1 hle hi hrest hdone hk1 hd1 hN
      refine j_iload 4 C dX0_dryTo_18 rfl rfl ?_
      refine j_iload_n 3 C dX0_dryTo_20 rfl rfl rfl ?_
      refine j_icmp_ge (tgt := 130) C dX0_dryTo_21 rfl rfl ⟨by omega, by omega⟩ ⟨by omega, by omega⟩ (fun cc19 => ?_) (fun cc19 => ?_)
      · exact j_vret C E dX0_dryTo_130 (by omega) (by omega) ⟨rfl, (by have e9 : dn = dryL gr w ly := (by rw [← hdone, List.drop_of_length_le (by omega)]; exact (List.append_nil _).symm); rw [← e9]; exact BinR.of hC1 rfl rfl ho (by omega) hdn hok1), hk1, hd1⟩
      · have hx := lyAt_ok hok (i := i) (by omega) (by omega)
        have hrx := hrest i (by omega) (by omega)
        have hdp := lyAt_drop (l := ly) (i := i) (by omega) (by omega)
        obtain ⟨x, hx9⟩ : ∃ x, lyAt ly i = x := ⟨_, rfl⟩
        rw [hx9] at hrx hx hdp
        have hx0 := hx
        obtain ⟨⟨hx1, hx2⟩, ⟨hx3, hx4⟩, ⟨hx5, hx6⟩, hx7, hx8⟩ := hx
        have hRq := hR.keep hk1 hdr
        have hRo := hRq.1
        have hC2 := hC1
        obtain ⟨hhz, ⟨h1z, h2z, h3z, h4z⟩, hnez⟩ := hC2
        refine j_aload_n 0 C dX0_dryTo_24 rfl rfl rfl ?_
        refine j_iload 4 C dX0_dryTo_25 rfl rfl ?_
        refine j_callV (st' := []) (As := [vi (i)]) C dX0_dryTo_27 rfl m_X0_51 hhz rfl rfl rfl (c_slotFromOldest (kL κ) hfl (kD κ) (kc κ) σ1 h q1 q2 q3 q4 cap mf old dn.length (tot dn) i hhz ho ⟨by omega, by omega⟩) rfl (by omega) (by omega) (by omega) (fun _ _ hx => hx.elim) (fun v21 τ20 hp22 => ?_)
        obtain ⟨rfl, rfl⟩ := hp22
        show J κ τ20 [(0, .ref h), (1, vi (w)), (2, .ref hr), (3, vi ((ly.length : Int))), (4, vi (i))] 30 [vi ((old + i) % 80)] _ _
        have hsl : 0 ≤ (old + i) % 80 ∧ (old + i) % 80 < 80 := by omega
        have hsd : ∀ j : Int, i < j → j < (ly.length : Int) → ((old + j) % 80).toNat ≠ ((old + (dn.length : Int)) % 80).toNat := fun j a b => ring_slot ⟨by omega, by omega⟩ ⟨by omega, by omega⟩ (by omega)
        obtain ⟨sl, hsl9⟩ : ∃ z : Int, (old + i) % 80 = z := ⟨_, rfl⟩
        rw [hsl9] at hsl hrx ⊢
        have r1 : f1 sl.toNat = x.1 := congrArg (fun x : Ly => x.1) hrx
        have r2 : f2 sl.toNat = x.2.1 := congrArg (fun x : Ly => x.2.1) hrx
        have r3 : f3 sl.toNat = x.2.2.1 := congrArg (fun x : Ly => x.2.2.1) hrx
        have r4 : f4 sl.toNat = x.2.2.2 := congrArg (fun x : Ly => x.2.2.2) hrx
        refine j_istore (lv' := [(0, .ref h), (1, vi (w)), (2, .ref hr), (3, vi ((ly.length : Int))), (4, vi (i)), (5, vi (sl))]) [1, 2, 3, 4, 5, 0] C dX0_dryTo_30 rfl rfl rfl ?_
        refine j_aload_n 0 C dX0_dryTo_32 rfl rfl rfl ?_
        refine j_get C dX0_dryTo_33 rfl fg_X0_15 hhz rfl ?_
        refine j_iload 5 C dX0_dryTo_36 rfl rfl ?_
        obtain ⟨y23, hy23⟩ : ∃ y : Int, f2 sl.toNat = y := ⟨_, rfl⟩
        have rry23 := r2.symm.trans hy23
        refine j_iald C dX0_dryTo_38 rfl h2z ⟨by omega, by omega⟩ (by omega) hy23 ?_
        refine j_iload_n 1 C dX0_dryTo_39 rfl rfl rfl ?_
        refine j_icmp_le (tgt := 92) C dX0_dryTo_40 rfl rfl ⟨by omega, by omega⟩ ⟨by omega, by omega⟩ (fun cc24 => ?_) (fun cc24 => ?_)
        · refine j_aload_n 0 C dX0_dryTo_92 rfl rfl rfl ?_
          refine j_aload_n 0 C dX0_dryTo_93 rfl rfl rfl ?_
          refine j_get C dX0_dryTo_94 rfl fg_X0_9 hhz rfl ?_
          refine j_iload 5 C dX0_dryTo_97 rfl rfl ?_
          obtain ⟨y25, hy25⟩ : ∃ y : Int, f1 sl.toNat = y := ⟨_, rfl⟩
          have rry25 := r1.symm.trans hy25
          refine j_iald C dX0_dryTo_99 rfl h1z ⟨by omega, by omega⟩ (by omega) hy25 ?_
          refine j_aload_n 0 C dX0_dryTo_100 rfl rfl rfl ?_
          refine j_get C dX0_dryTo_101 rfl fg_X0_15 hhz rfl ?_
          refine j_iload 5 C dX0_dryTo_104 rfl rfl ?_
          obtain ⟨y26, hy26⟩ : ∃ y : Int, f2 sl.toNat = y := ⟨_, rfl⟩
          have rry26 := r2.symm.trans hy26
          refine j_iald C dX0_dryTo_106 rfl h2z ⟨by omega, by omega⟩ (by omega) hy26 ?_
          refine j_aload_n 0 C dX0_dryTo_107 rfl rfl rfl ?_
          refine j_get C dX0_dryTo_108 rfl fg_X0_18 hhz rfl ?_
          refine j_iload 5 C dX0_dryTo_111 rfl rfl ?_
          obtain ⟨y27, hy27⟩ : ∃ y : Int, f3 sl.toNat = y := ⟨_, rfl⟩
          have rry27 := r3.symm.trans hy27
          refine j_iald C dX0_dryTo_113 rfl h3z ⟨by omega, by omega⟩ (by omega) hy27 ?_
          refine j_aload_n 0 C dX0_dryTo_114 rfl rfl rfl ?_
          refine j_get C dX0_dryTo_115 rfl fg_X0_21 hhz rfl ?_
          refine j_iload 5 C dX0_dryTo_118 rfl rfl ?_
          obtain ⟨y28, hy28⟩ : ∃ y : Int, f4 sl.toNat = y := ⟨_, rfl⟩
          have rry28 := r4.symm.trans hy28
          refine j_iald C dX0_dryTo_120 rfl h4z ⟨by omega, by omega⟩ (by omega) hy28 ?_
          refine j_callV (st' := []) (As := [vi (y25), vi (y26), vi (y27), vi (y28)]) C dX0_dryTo_121 rfl m_X0_60 hhz rfl rfl rfl (c_add (kL κ) hfl (kD κ) (kc κ) τ20 h q1 q2 q3 q4 cap mf old dn.length (tot dn) f1 f2 f3 f4 hC1 ho ⟨by omega, by omega⟩ y25 y26 y27 y28 (by omega) ⟨by omega, by omega⟩) rfl (by omega) (by omega) (by omega) (fun _ _ hx => hx.elim) (fun v30 τ29 hp31 => ?_)
          obtain ⟨rfl, hA⟩ := hp31
          show J κ τ29 [(0, .ref h), (1, vi (w)), (2, .ref hr), (3, vi ((ly.length : Int))), (4, vi (i)), (5, vi (sl))] 124 [] _ _
          obtain ⟨hA1, hA2, hA3⟩ := hA
          refine j_iinc (y := i + 1) (lv' := [(0, .ref h), (1, vi (w)), (2, .ref hr), (3, vi ((ly.length : Int))), (4, vi (i + 1)), (5, vi (sl))]) 4 [1, 2, 3, 4, 0, 5] C dX0_dryTo_124 rfl rfl rfl rfl rfl ?_
          refine j_goto (tgt := 18) C dX0_dryTo_127 rfl ?_
          refine j_locals (lv' := [(0, .ref h), (1, vi (w)), (2, .ref hr), (3, vi ((ly.length : Int))), (4, vi (i + 1))]) [0, 1, 2, 3, 4] rfl ?_
          have e8 : (((dn ++ [(y25, y26, y27, y28)]).length : Nat) : Int) = (dn.length : Int) + 1 := by rw [List.length_append]; rfl
          have e7 : tot (dn ++ [(y25, y26, y27, y28)]) = tot dn + y25 := by unfold tot; rw [sumL_app]; simp [sumL]
          refine ih (i + 1) _ (dn ++ [(y25, y26, y27, y28)]) _ _ _ _ (by rw [e8, e7]; exact hA1) (ring_add hdn (by omega) y25 y26 y27 y28) ?_ (by omega) (by omega) ?_ ?_ (hk1.tr hA2) (hA3.trans hd1) (by omega)
          · intro y hy; rcases List.mem_append.mp hy with hy | hy
            · exact hok1 y hy
            · cases List.mem_singleton.mp hy; exact (by rw [← rry25, ← rry26, ← rry27, ← rry28]; exact hx0)
          · intro j a b
            rw [G4_ups, if_neg (hsd j (by omega) b)]
            exact hrest j (by omega) b
          · rw [← hdone, hdp, List.append_assoc]; show _ = dn ++ dryL gr w ([x] ++ _); rw [dryL_app]; congr 2; show _ = dry1 gr w x ++ []; unfold dry1; rw [if_neg (by omega)]; rw [List.append_nil, ← rry25, ← rry26, ← rry27, ← rry28]
        · refine j_aload_n 0 C dX0_dryTo_43 rfl rfl rfl ?_
          refine j_get C dX0_dryTo_44 rfl fg_X0_9 hhz rfl ?_
          refine j_iload 5 C dX0_dryTo_47 rfl rfl ?_
          obtain ⟨y32, hy32⟩ : ∃ y : Int, f1 sl.toNat = y := ⟨_, rfl⟩
          have rry32 := r1.symm.trans hy32
          refine j_iald C dX0_dryTo_49 rfl h1z ⟨by omega, by omega⟩ (by omega) hy32 ?_
          refine j_aload_n 0 C dX0_dryTo_50 rfl rfl rfl ?_
          refine j_get C dX0_dryTo_51 rfl fg_X0_15 hhz rfl ?_
          refine j_iload 5 C dX0_dryTo_54 rfl rfl ?_
          obtain ⟨y33, hy33⟩ : ∃ y : Int, f2 sl.toNat = y := ⟨_, rfl⟩
          have rry33 := r2.symm.trans hy33
          refine j_iald C dX0_dryTo_56 rfl h2z ⟨by omega, by omega⟩ (by omega) hy33 ?_
          refine j_iload_n 1 C dX0_dryTo_57 rfl rfl rfl ?_
          have hdn9 := dryN_in hx0 hw (by omega)
          rw [show dryN w x = y32 * (1000 - y33) / (1000 - w) by rw [← rry32, ← rry33]; rfl] at hdn9
          refine j_callS (st' := []) (As := [vi (y32), vi (y33), vi (w)]) C dX0_dryTo_58 rfl m_X0_70 rfl rfl (c_shrunk (kL κ) hfl (kD κ) (kc κ) τ20 y32 y33 w ⟨by omega, by omega⟩ ⟨by omega, by omega⟩ ⟨by omega, by omega⟩) rfl (by omega) (by omega) (by omega) (fun _ _ hx => hx.elim) (fun v35 τ34 hp36 => ?_)
          obtain ⟨rfl, rfl⟩ := hp36
          show J κ τ34 [(0, .ref h), (1, vi (w)), (2, .ref hr), (3, vi ((ly.length : Int))), (4, vi (i)), (5, vi (sl))] 61 [vi (y32 * (1000 - y33) / (1000 - w))] _ _
          obtain ⟨nn, hnn⟩ : ∃ z : Int, y32 * (1000 - y33) / (1000 - w) = z := ⟨_, rfl⟩
          rw [hnn] at hdn9 ⊢
          have hnx : dryN w x = nn := by rw [← hnn, ← rry32, ← rry33]; rfl
          refine j_istore (lv' := [(0, .ref h), (1, vi (w)), (2, .ref hr), (3, vi ((ly.length : Int))), (4, vi (i)), (5, vi (sl)), (6, vi (nn))]) [1, 2, 3, 4, 5, 6, 0] C dX0_dryTo_61 rfl rfl rfl ?_
          refine j_aload_n 0 C dX0_dryTo_63 rfl rfl rfl ?_
          refine j_iload 6 C dX0_dryTo_64 rfl rfl ?_
          refine j_iload_n 1 C dX0_dryTo_66 rfl rfl rfl ?_
          refine j_aload_n 0 C dX0_dryTo_67 rfl rfl rfl ?_
          refine j_get C dX0_dryTo_68 rfl fg_X0_18 hhz rfl ?_
          refine j_iload 5 C dX0_dryTo_71 rfl rfl ?_
          obtain ⟨y37, hy37⟩ : ∃ y : Int, f3 sl.toNat = y := ⟨_, rfl⟩
          have rry37 := r3.symm.trans hy37
          refine j_iald C dX0_dryTo_73 rfl h3z ⟨by omega, by omega⟩ (by omega) hy37 ?_
          refine j_aload_n 2 C dX0_dryTo_74 rfl rfl rfl ?_
          refine j_iload_n 1 C dX0_dryTo_75 rfl rfl rfl ?_
          refine j_aload_n 0 C dX0_dryTo_76 rfl rfl rfl ?_
          refine j_get C dX0_dryTo_77 rfl fg_X0_18 hhz rfl ?_
          refine j_iload 5 C dX0_dryTo_80 rfl rfl ?_
          obtain ⟨y38, hy38⟩ : ∃ y : Int, f3 sl.toNat = y := ⟨_, rfl⟩
          have rry38 := r3.symm.trans hy38
          refine j_iald C dX0_dryTo_82 rfl h3z ⟨by omega, by omega⟩ (by omega) hy38 ?_
          refine j_callV (st' := [vi (y37), vi (w), vi (nn), .ref h]) (As := [vi (w), vi (y38)]) C dX0_dryTo_83 rfl m_X0_74 hRo rfl rfl rfl (c_gradeNow (kL κ) hfl (kD κ) (kc κ) τ34 hr m f ru se w y38 hRq ⟨by omega, by omega⟩ ⟨by omega, by omega⟩) rfl (by omega) (by omega) (by omega) (fun _ _ hx => hx.elim) (fun v40 τ39 hp41 => ?_)
          obtain ⟨rfl, rfl⟩ := hp41
          show J κ τ39 [(0, .ref h), (1, vi (w)), (2, .ref hr), (3, vi ((ly.length : Int))), (4, vi (i)), (5, vi (sl)), (6, vi (nn))] 86 [vi (gradeF ru se w y38), vi (y37), vi (w), vi (nn), .ref h] _ _
          rw [hgr]
          have hg9 := hgi w y38
          obtain ⟨gg, hgg⟩ : ∃ z : Int, gr w y38 = z := ⟨_, rfl⟩
          rw [hgg] at hg9 ⊢
          by_cases h01 : nn < 1
          · refine j_callV (st' := []) (As := [vi (nn), vi (w), vi (y37), vi (gg)]) C dX0_dryTo_86 rfl m_X0_60 hhz rfl rfl rfl (c_add0 (kL κ) hfl (kD κ) (kc κ) τ39 h nn w y37 gg h01 ⟨by omega, by omega⟩) rfl (by omega) (by omega) (by omega) (fun _ _ hx => hx.elim) (fun v43 τ42 hp44 => ?_)
            obtain ⟨rfl, rfl⟩ := hp44
            show J κ τ42 [(0, .ref h), (1, vi (w)), (2, .ref hr), (3, vi ((ly.length : Int))), (4, vi (i)), (5, vi (sl)), (6, vi (nn))] 89 [] _ _
            refine j_goto (tgt := 124) C dX0_dryTo_89 rfl ?_
            refine j_iinc (y := i + 1) (lv' := [(0, .ref h), (1, vi (w)), (2, .ref hr), (3, vi ((ly.length : Int))), (4, vi (i + 1)), (5, vi (sl)), (6, vi (nn))]) 4 [1, 2, 3, 4, 0, 5, 6] C dX0_dryTo_124 rfl rfl rfl rfl rfl ?_
            refine j_goto (tgt := 18) C dX0_dryTo_127 rfl ?_
            refine j_locals (lv' := [(0, .ref h), (1, vi (w)), (2, .ref hr), (3, vi ((ly.length : Int))), (4, vi (i + 1))]) [0, 1, 2, 3, 4] rfl ?_
            refine ih (i + 1) _ dn _ _ _ _ hC1 hdn hok1 (by omega) (by omega) (fun j a b => hrest j (by omega) b) ?_ hk1 hd1 (by omega)
            rw [← hdone, hdp]; show _ = dn ++ dryL gr w ([x] ++ _); rw [dryL_app]; congr 1; show _ = (dry1 gr w x ++ []) ++ _; unfold dry1; rw [if_pos (by omega), if_pos (by omega)]; rfl
          · refine j_callV (st' := []) (As := [vi (nn), vi (w), vi (y37), vi (gg)]) C dX0_dryTo_86 rfl m_X0_60 hhz rfl rfl rfl (c_add (kL κ) hfl (kD κ) (kc κ) τ39 h q1 q2 q3 q4 cap mf old dn.length (tot dn) f1 f2 f3 f4 hC1 ho ⟨by omega, by omega⟩ nn w y37 gg (by omega) ⟨by omega, by omega⟩) rfl (by omega) (by omega) (by omega) (fun _ _ hx => hx.elim) (fun v46 τ45 hp47 => ?_)
            obtain ⟨rfl, hA⟩ := hp47
            show J κ τ45 [(0, .ref h), (1, vi (w)), (2, .ref hr), (3, vi ((ly.length : Int))), (4, vi (i)), (5, vi (sl)), (6, vi (nn))] 89 [] _ _
            obtain ⟨hA1, hA2, hA3⟩ := hA
            refine j_goto (tgt := 124) C dX0_dryTo_89 rfl ?_
            refine j_iinc (y := i + 1) (lv' := [(0, .ref h), (1, vi (w)), (2, .ref hr), (3, vi ((ly.length : Int))), (4, vi (i + 1)), (5, vi (sl)), (6, vi (nn))]) 4 [1, 2, 3, 4, 0, 5, 6] C dX0_dryTo_124 rfl rfl rfl rfl rfl ?_
            refine j_goto (tgt := 18) C dX0_dryTo_127 rfl ?_
            refine j_locals (lv' := [(0, .ref h), (1, vi (w)), (2, .ref hr), (3, vi ((ly.length : Int))), (4, vi (i + 1))]) [0, 1, 2, 3, 4] rfl ?_
            have e8 : (((dn ++ [(nn, w, y37, gg)]).length : Nat) : Int) = (dn.length : Int) + 1 := by rw [List.length_append]; rfl
            have e7 : tot (dn ++ [(nn, w, y37, gg)]) = tot dn + nn := by unfold tot; rw [sumL_app]; simp [sumL]
            refine ih (i + 1) _ (dn ++ [(nn, w, y37, gg)]) _ _ _ _ (by rw [e8, e7]; exact hA1) (ring_add hdn (by omega) nn w y37 gg) ?_ (by omega) (by omega) ?_ ?_ (hk1.tr hA2) (hA3.trans hd1) (by omega)
            · intro y hy; rcases List.mem_append.mp hy with hy | hy
              · exact hok1 y hy
              · cases List.mem_singleton.mp hy; exact (by dsimp only [lyOk]; exact ⟨⟨by omega, by omega⟩, ⟨by omega, by omega⟩, ⟨by omega, by omega⟩, by omega, by omega⟩)
            · intro j a b
              rw [G4_ups, if_neg (hsd j (by omega) b)]
              exact hrest j (by omega) b
            · rw [← hdone, hdp, List.append_assoc]; show _ = dn ++ dryL gr w ([x] ++ _); rw [dryL_app]; congr 2; show _ = dry1 gr w x ++ []; unfold dry1; rw [if_pos (by omega), if_neg (by omega)]; rw [List.append_nil, hnx, ← hgg, ← rry37, ← rry38]
  exact lp _ 0 τ10 [] g1 g2 g3 g4 ⟨u12, ⟨u13, u14, u15, u16⟩, hne⟩ rfl (fun _ hy => nomatch hy) (by decide) ⟨by omega, by omega⟩ (fun j a b => lyAt_ring hly a b) rfl kp17 dm18 (Nat.lt_succ_self _)
set_option maxHeartbeats 4000000 in
set_option maxRecDepth 20000 in
theorem c_binInit (l : Launch) (hfl : l.stackTraces = false) (D : va_G) (cy : Nat → Nat) (σ : Wd) (h : Nat) (cap : Int) (mf : Bool) (hh : has σ h (.inr (0, [vi 0, vi 0, .null, .null, .null, .null, vi 0, vi 0, vi 0]))) : Ct l yX0_init cX0_init 3 none 0 4 320 D cy [.ref h, vi (cap), vi (b01 mf)] σ (fun v σ' => v = none ∧ ∃ q1 q2 q3 q4 : Nat, BinR cy σ' h q1 q2 q3 q4 (cap, mf, []) ∧ (q1 ∉ σ.1 ∧ q2 ∉ σ.1 ∧ q3 ∉ σ.1 ∧ q4 ∉ σ.1) ∧ Keep σ σ' (fun a => a = h) ∧ σ'.1 = σ.1 ++ [q1, q2, q3, q4]) noX := by
  refine ct_start (by decide +kernel) hfl rfl (fun κ e1 e2 e3 C E NH => ?_)
  subst e1 e2 e3
  have C : Cx κ cX0_init 3 RX0 "<init>" 0 := C
  obtain ⟨-, -, -, -, hc, hs⟩ := id E
  show J κ σ [(0, .ref h), (1, vi (cap)), (2, vi (b01 mf))] 0 [] 0 0
  have kp0 : Keep σ σ (fun a => a = h) := Keep.rf
  have dm0 : σ.1 = σ.1 := rfl
  refine j_aload_n 0 C dX0_init_0 rfl rfl rfl ?_
  refine j_objInit C dX0_init_1 rfl oi_X0_3 oi_in oi_co (Nat.le_of_ble_eq_true rfl) ?_
  refine j_aload_n 0 C dX0_init_4 rfl rfl rfl ?_
  refine j_bipush C dX0_init_5 rfl (by decide) ?_
  refine j_newI C dX0_init_7 rfl aw_int ⟨by omega, by omega⟩ (by omega) (by omega) (k' := 1) (n' := 80) (by first | rfl | omega) (by first | rfl | omega) (fun q1 τ1 nq3 ee2 => ?_)
  have u4 := hh.old' ee2 nq3
  have u5 : has τ1 q1 (iA (kc κ) 80 (fun _ => 0)) := has.fresh' ee2
  have kp6 := kp0.new ee2 nq3
  have dm7 := (dom_new ee2).trans (congrArg (· ++ [q1]) dm0)
  have nn1 : q1 ∉ σ.1 := fun z => nq3 (by rw [dm0]; simp [z])
  refine j_putF (fs' := [vi (0), vi (0), .ref q1, .null, .null, .null, vi (0), vi (0), vi (0)]) C dX0_init_9 rfl fa_X0_9 u4 rfl rfl rfl rfl (fun τ8 ee9 => ?_)
  have u10 : has τ8 h (.inr (0, [vi (0), vi (0), .ref q1, .null, .null, .null, vi (0), vi (0), vi (0)])) := u4.self' ee9
  have u11 := u5.ne' ee9 (Ne.symm (hh.apart nq3))
  have kp12 := kp6.put ee9 rfl
  have dm13 := (dom_put ee9).trans dm7
  refine j_aload_n 0 C dX0_init_12 rfl rfl rfl ?_
  refine j_bipush C dX0_init_13 rfl (by decide) ?_
  refine j_newI C dX0_init_15 rfl aw_int ⟨by omega, by omega⟩ (by omega) (by omega) (k' := 2) (n' := 160) (by first | rfl | omega) (by first | rfl | omega) (fun q2 τ14 nq16 ee15 => ?_)
  have u17 := u10.old' ee15 nq16
  have u18 := u11.old' ee15 nq16
  have u19 : has τ14 q2 (iA (kc κ) 80 (fun _ => 0)) := has.fresh' ee15
  have kp20 := kp12.new ee15 nq16
  have dm21 := (dom_new ee15).trans (congrArg (· ++ [q2]) dm13)
  have nn2 : q2 ∉ σ.1 := fun z => nq16 (by rw [dm13]; simp [z])
  refine j_putF (fs' := [vi (0), vi (0), .ref q1, .ref q2, .null, .null, vi (0), vi (0), vi (0)]) C dX0_init_17 rfl fa_X0_15 u17 rfl rfl rfl rfl (fun τ22 ee23 => ?_)
  have u24 : has τ22 h (.inr (0, [vi (0), vi (0), .ref q1, .ref q2, .null, .null, vi (0), vi (0), vi (0)])) := u17.self' ee23
  have u25 := u18.ne' ee23 (Ne.symm (hh.apart nq3))
  have u26 := u19.ne' ee23 (Ne.symm (u10.apart nq16))
  have kp27 := kp20.put ee23 rfl
  have dm28 := (dom_put ee23).trans dm21
  refine j_aload_n 0 C dX0_init_20 rfl rfl rfl ?_
  refine j_bipush C dX0_init_21 rfl (by decide) ?_
  refine j_newI C dX0_init_23 rfl aw_int ⟨by omega, by omega⟩ (by omega) (by omega) (k' := 3) (n' := 240) (by first | rfl | omega) (by first | rfl | omega) (fun q3 τ29 nq31 ee30 => ?_)
  have u32 := u24.old' ee30 nq31
  have u33 := u25.old' ee30 nq31
  have u34 := u26.old' ee30 nq31
  have u35 : has τ29 q3 (iA (kc κ) 80 (fun _ => 0)) := has.fresh' ee30
  have kp36 := kp27.new ee30 nq31
  have dm37 := (dom_new ee30).trans (congrArg (· ++ [q3]) dm28)
  have nn3 : q3 ∉ σ.1 := fun z => nq31 (by rw [dm28]; simp [z])
  refine j_putF (fs' := [vi (0), vi (0), .ref q1, .ref q2, .ref q3, .null, vi (0), vi (0), vi (0)]) C dX0_init_25 rfl fa_X0_18 u32 rfl rfl rfl rfl (fun τ38 ee39 => ?_)
  have u40 : has τ38 h (.inr (0, [vi (0), vi (0), .ref q1, .ref q2, .ref q3, .null, vi (0), vi (0), vi (0)])) := u32.self' ee39
  have u41 := u33.ne' ee39 (Ne.symm (hh.apart nq3))
  have u42 := u34.ne' ee39 (Ne.symm (u10.apart nq16))
  have u43 := u35.ne' ee39 (Ne.symm (u24.apart nq31))
  have kp44 := kp36.put ee39 rfl
  have dm45 := (dom_put ee39).trans dm37
  refine j_aload_n 0 C dX0_init_28 rfl rfl rfl ?_
  refine j_bipush C dX0_init_29 rfl (by decide) ?_
  refine j_newI C dX0_init_31 rfl aw_int ⟨by omega, by omega⟩ (by omega) (by omega) (k' := 4) (n' := 320) (by first | rfl | omega) (by first | rfl | omega) (fun q4 τ46 nq48 ee47 => ?_)
  have u49 := u40.old' ee47 nq48
  have u50 := u41.old' ee47 nq48
  have u51 := u42.old' ee47 nq48
  have u52 := u43.old' ee47 nq48
  have u53 : has τ46 q4 (iA (kc κ) 80 (fun _ => 0)) := has.fresh' ee47
  have kp54 := kp44.new ee47 nq48
  have dm55 := (dom_new ee47).trans (congrArg (· ++ [q4]) dm45)
  have nn4 : q4 ∉ σ.1 := fun z => nq48 (by rw [dm45]; simp [z])
  refine j_putF (fs' := [vi (0), vi (0), .ref q1, .ref q2, .ref q3, .ref q4, vi (0), vi (0), vi (0)]) C dX0_init_33 rfl fa_X0_21 u49 rfl rfl rfl rfl (fun τ56 ee57 => ?_)
  have u58 : has τ56 h (.inr (0, [vi (0), vi (0), .ref q1, .ref q2, .ref q3, .ref q4, vi (0), vi (0), vi (0)])) := u49.self' ee57
  have u59 := u50.ne' ee57 (Ne.symm (hh.apart nq3))
  have u60 := u51.ne' ee57 (Ne.symm (u10.apart nq16))
  have u61 := u52.ne' ee57 (Ne.symm (u24.apart nq31))
  have u62 := u53.ne' ee57 (Ne.symm (u40.apart nq48))
  have kp63 := kp54.put ee57 rfl
  have dm64 := (dom_put ee57).trans dm55
  refine j_aload_n 0 C dX0_init_36 rfl rfl rfl ?_
  refine j_iconst C dX0_init_37 rfl ?_
  refine j_put (fs' := [vi (0), vi (0), .ref q1, .ref q2, .ref q3, .ref q4, vi (0), vi (0), vi (0)]) C dX0_init_38 rfl fa_X0_24 u58 rfl rfl rfl rfl (fun τ65 ee66 => ?_)
  have u67 : has τ65 h (.inr (0, [vi (0), vi (0), .ref q1, .ref q2, .ref q3, .ref q4, vi (0), vi (0), vi (0)])) := u58.self' ee66
  have u68 := u59.ne' ee66 (Ne.symm (hh.apart nq3))
  have u69 := u60.ne' ee66 (Ne.symm (u10.apart nq16))
  have u70 := u61.ne' ee66 (Ne.symm (u24.apart nq31))
  have u71 := u62.ne' ee66 (Ne.symm (u40.apart nq48))
  have kp72 := kp63.put ee66 rfl
  have dm73 := (dom_put ee66).trans dm64
  refine j_aload_n 0 C dX0_init_41 rfl rfl rfl ?_
  refine j_iconst C dX0_init_42 rfl ?_
  refine j_put (fs' := [vi (0), vi (0), .ref q1, .ref q2, .ref q3, .ref q4, vi (0), vi (0), vi (0)]) C dX0_init_43 rfl fa_X0_28 u67 rfl rfl rfl rfl (fun τ74 ee75 => ?_)
  have u76 : has τ74 h (.inr (0, [vi (0), vi (0), .ref q1, .ref q2, .ref q3, .ref q4, vi (0), vi (0), vi (0)])) := u67.self' ee75
  have u77 := u68.ne' ee75 (Ne.symm (hh.apart nq3))
  have u78 := u69.ne' ee75 (Ne.symm (u10.apart nq16))
  have u79 := u70.ne' ee75 (Ne.symm (u24.apart nq31))
  have u80 := u71.ne' ee75 (Ne.symm (u40.apart nq48))
  have kp81 := kp72.put ee75 rfl
  have dm82 := (dom_put ee75).trans dm73
  refine j_aload_n 0 C dX0_init_46 rfl rfl rfl ?_
  refine j_iconst C dX0_init_47 rfl ?_
  refine j_put (fs' := [vi (0), vi (0), .ref q1, .ref q2, .ref q3, .ref q4, vi (0), vi (0), vi (0)]) C dX0_init_48 rfl fa_X0_31 u76 rfl rfl rfl rfl (fun τ83 ee84 => ?_)
  have u85 : has τ83 h (.inr (0, [vi (0), vi (0), .ref q1, .ref q2, .ref q3, .ref q4, vi (0), vi (0), vi (0)])) := u76.self' ee84
  have u86 := u77.ne' ee84 (Ne.symm (hh.apart nq3))
  have u87 := u78.ne' ee84 (Ne.symm (u10.apart nq16))
  have u88 := u79.ne' ee84 (Ne.symm (u24.apart nq31))
  have u89 := u80.ne' ee84 (Ne.symm (u40.apart nq48))
  have kp90 := kp81.put ee84 rfl
  have dm91 := (dom_put ee84).trans dm82
  refine j_aload_n 0 C dX0_init_51 rfl rfl rfl ?_
  refine j_iload_n 1 C dX0_init_52 rfl rfl rfl ?_
  refine j_putF (fs' := [vi (cap), vi (0), .ref q1, .ref q2, .ref q3, .ref q4, vi (0), vi (0), vi (0)]) C dX0_init_53 rfl fa_X0_34 u85 rfl rfl rfl rfl (fun τ92 ee93 => ?_)
  have u94 : has τ92 h (.inr (0, [vi (cap), vi (0), .ref q1, .ref q2, .ref q3, .ref q4, vi (0), vi (0), vi (0)])) := u85.self' ee93
  have u95 := u86.ne' ee93 (Ne.symm (hh.apart nq3))
  have u96 := u87.ne' ee93 (Ne.symm (u10.apart nq16))
  have u97 := u88.ne' ee93 (Ne.symm (u24.apart nq31))
  have u98 := u89.ne' ee93 (Ne.symm (u40.apart nq48))
  have kp99 := kp90.put ee93 rfl
  have dm100 := (dom_put ee93).trans dm91
  refine j_aload_n 0 C dX0_init_56 rfl rfl rfl ?_
  refine j_iload_n 2 C dX0_init_57 rfl rfl rfl ?_
  refine j_putF (fs' := [vi (cap), vi (b01 mf), .ref q1, .ref q2, .ref q3, .ref q4, vi (0), vi (0), vi (0)]) C dX0_init_58 rfl fa_X0_37 u94 (by cases mf <;> rfl) (by cases mf <;> rfl) rfl rfl (fun τ101 ee102 => ?_)
  have u103 : has τ101 h (.inr (0, [vi (cap), vi (b01 mf), .ref q1, .ref q2, .ref q3, .ref q4, vi (0), vi (0), vi (0)])) := u94.self' ee102
  have u104 := u95.ne' ee102 (Ne.symm (hh.apart nq3))
  have u105 := u96.ne' ee102 (Ne.symm (u10.apart nq16))
  have u106 := u97.ne' ee102 (Ne.symm (u24.apart nq31))
  have u107 := u98.ne' ee102 (Ne.symm (u40.apart nq48))
  have kp108 := kp99.put ee102 rfl
  have dm109 := (dom_put ee102).trans dm100
  exact j_vret C E dX0_init_61 (by omega) (by omega) ⟨rfl, q1, q2, q3, q4, BinR.of ⟨u103, ⟨u104, u105, u106, u107⟩, ⟨(u11.apart nq16), (u25.apart nq31), (u41.apart nq48), (u26.apart nq31), (u42.apart nq48), (u43.apart nq48)⟩⟩ rfl rfl ⟨by decide, by decide⟩ (by decide) rfl (fun _ hy => nomatch hy), ⟨nn1, nn2, nn3, nn4⟩, kp108, dm109.trans (by simp)⟩
