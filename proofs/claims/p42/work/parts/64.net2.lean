/-! the law's own: cell, in, at, within, graded, come, dropFirst -/
set_option maxHeartbeats 4000000 in
set_option maxRecDepth 20000 in
theorem c_cell (l : Launch) (hfl : l.stackTraces = false) (D : va_G) (cy : Nat → Nat) (σ : Wd) (i : Int) (hi : 0 ≤ i ∧ i < 1000) : Ct l yL_cell cL_cell 3 (some .int) 0 0 0 D cy [.ref (cy 9), vi (i)] σ (fun v σ' => ∃ z : Int, v = some (vi z) ∧ σ' = σ) noX := by
  refine ct_start (by decide +kernel) hfl rfl (fun κ e1 e2 e3 C E NH => ?_)
  subst e1 e2 e3
  have C : Cx κ cL_cell 3 RL "cell" 0 := C
  obtain ⟨-, -, -, -, hc, hs⟩ := id E
  show J κ σ [(0, .ref (kc κ 9)), (1, vi (i))] 0 [] 0 0
  obtain ⟨Ls, xs, hXs, hbl, hbA, hLs⟩ := C.scr
  refine j_ldc (z := 69069) C dL_cell_0 rfl kc_L_7 ?_
  refine j_iload_n 1 C dL_cell_2 rfl rfl rfl ?_
  refine j_aload_n 0 C dL_cell_3 rfl rfl rfl ?_
  refine j_slen C hXs hbl hbA dL_cell_4 rfl ?_
  refine j_icmp_ge (tgt := 14) C dL_cell_5 rfl rfl ⟨by omega, by omega⟩ ⟨by omega, by omega⟩ (fun cc1 => ?_) (fun cc1 => ?_)
  · refine j_iconst C dL_cell_14 rfl ?_
    refine j_sipush C dL_cell_15 rfl (by decide) ?_
    refine j_iload_n 1 C dL_cell_18 rfl rfl rfl ?_
    refine j_imul C dL_cell_19 rfl ?_
    refine j_iadd C dL_cell_20 rfl ?_
    refine j_imul C dL_cell_21 rfl ?_
    refine j_sipush C dL_cell_22 rfl (by decide) ?_
    refine j_iadd C dL_cell_25 rfl ?_
    refine j_istore_n (lv' := [(0, .ref (kc κ 9)), (1, vi (i)), (2, vi ((69069 * (0 + (1009 * i))) + 12345))]) [1, 2, 0] C dL_cell_26 rfl rfl rfl rfl ?_
    refine j_iload_n 2 C dL_cell_27 rfl rfl rfl ?_
    refine j_iload_n 2 C dL_cell_28 rfl rfl rfl ?_
    refine j_bipush C dL_cell_29 rfl (by decide) ?_
    refine j_iushrE C dL_cell_31 rfl (fun y2 => ?_)
    refine j_ixorE C dL_cell_32 rfl (fun y3 => ?_)
    refine j_ldc (z := 1103515245) C dL_cell_33 rfl kc_L_8 ?_
    refine j_imul C dL_cell_35 rfl ?_
    refine j_istore_n (lv' := [(0, .ref (kc κ 9)), (1, vi (i)), (2, vi (y3 * 1103515245))]) [1, 2, 0] C dL_cell_36 rfl rfl rfl rfl ?_
    refine j_iload_n 2 C dL_cell_37 rfl rfl rfl ?_
    refine j_iload_n 2 C dL_cell_38 rfl rfl rfl ?_
    refine j_bipush C dL_cell_39 rfl (by decide) ?_
    refine j_iushrE C dL_cell_41 rfl (fun y4 => ?_)
    refine j_ixorE C dL_cell_42 rfl (fun y5 => ?_)
    exact j_iret C E dL_cell_43 (by omega) (by omega) ⟨_, rfl, rfl⟩
  · refine j_aload_n 0 C dL_cell_8 rfl rfl rfl ?_
    refine j_iload_n 1 C dL_cell_9 rfl rfl rfl ?_
    refine j_sldE C hXs hbl hbA dL_cell_10 rfl ⟨by omega, by omega⟩ (by omega) (fun ys => ?_)
    refine j_goto (tgt := 15) C dL_cell_11 rfl ?_
    refine j_sipush C dL_cell_15 rfl (by decide) ?_
    refine j_iload_n 1 C dL_cell_18 rfl rfl rfl ?_
    refine j_imul C dL_cell_19 rfl ?_
    refine j_iadd C dL_cell_20 rfl ?_
    refine j_imul C dL_cell_21 rfl ?_
    refine j_sipush C dL_cell_22 rfl (by decide) ?_
    refine j_iadd C dL_cell_25 rfl ?_
    refine j_istore_n (lv' := [(0, .ref (kc κ 9)), (1, vi (i)), (2, vi ((69069 * (ys + (1009 * i))) + 12345))]) [1, 2, 0] C dL_cell_26 rfl rfl rfl rfl ?_
    refine j_iload_n 2 C dL_cell_27 rfl rfl rfl ?_
    refine j_iload_n 2 C dL_cell_28 rfl rfl rfl ?_
    refine j_bipush C dL_cell_29 rfl (by decide) ?_
    refine j_iushrE C dL_cell_31 rfl (fun y6 => ?_)
    refine j_ixorE C dL_cell_32 rfl (fun y7 => ?_)
    refine j_ldc (z := 1103515245) C dL_cell_33 rfl kc_L_8 ?_
    refine j_imul C dL_cell_35 rfl ?_
    refine j_istore_n (lv' := [(0, .ref (kc κ 9)), (1, vi (i)), (2, vi (y7 * 1103515245))]) [1, 2, 0] C dL_cell_36 rfl rfl rfl rfl ?_
    refine j_iload_n 2 C dL_cell_37 rfl rfl rfl ?_
    refine j_iload_n 2 C dL_cell_38 rfl rfl rfl ?_
    refine j_bipush C dL_cell_39 rfl (by decide) ?_
    refine j_iushrE C dL_cell_41 rfl (fun y8 => ?_)
    refine j_ixorE C dL_cell_42 rfl (fun y9 => ?_)
    exact j_iret C E dL_cell_43 (by omega) (by omega) ⟨_, rfl, rfl⟩
set_option maxHeartbeats 4000000 in
set_option maxRecDepth 20000 in
theorem c_in (l : Launch) (hfl : l.stackTraces = false) (D : va_G) (cy : Nat → Nat) (σ : Wd) (i n : Int) (hi : 0 ≤ i ∧ i < 1000) (hn : 1 ≤ n ∧ n < 2147483648) : Ct l yL_in cL_in 3 (some .int) 1 0 0 D cy [.ref (cy 9), vi (i), vi (n)] σ (fun v σ' => ∃ z : Int, v = some (vi z) ∧ (0 ≤ z ∧ z < n) ∧ σ' = σ) noX := by
  refine ct_start (by decide +kernel) hfl rfl (fun κ e1 e2 e3 C E NH => ?_)
  subst e1 e2 e3
  have C : Cx κ cL_in 3 RL "in" 1 := C
  obtain ⟨-, -, -, -, hc, hs⟩ := id E
  show J κ σ [(0, .ref (kc κ 9)), (1, vi (i)), (2, vi (n))] 0 [] 0 0
  refine j_aload_n 0 C dL_in_0 rfl rfl rfl ?_
  refine j_iload_n 1 C dL_in_1 rfl rfl rfl ?_
  refine j_callS (st' := []) (As := [.ref (kc κ 9), vi (i)]) C dL_in_2 rfl m_L_95 rfl rfl (c_cell (kL κ) hfl (kD κ) (kc κ) σ i hi) rfl (by omega) (by omega) (by omega) (fun _ _ hx => hx.elim) (fun v2 τ1 hp3 => ?_)
  obtain ⟨zc, rfl, hs9⟩ := hp3
  replace hs9 := hs9.symm
  subst hs9
  show J κ σ [(0, .ref (kc κ 9)), (1, vi (i)), (2, vi (n))] 5 [vi (zc)] _ _
  refine j_ldc (z := 2147483647) C dL_in_5 rfl kc_L_101 ?_
  refine j_iandM C dL_in_7 rfl (fun zm hzm => ?_)
  refine j_iload_n 2 C dL_in_8 rfl rfl rfl ?_
  refine j_irem C dL_in_9 rfl ⟨by omega, by omega⟩ ⟨by omega, by omega⟩ ?_
  exact j_iret C E dL_in_10 (by omega) (by omega) ⟨_, rfl, ⟨Int.emod_nonneg _ (by omega), Int.emod_lt_of_pos _ (by omega)⟩, rfl⟩
set_option maxHeartbeats 4000000 in
set_option maxRecDepth 20000 in
theorem c_at (l : Launch) (hfl : l.stackTraces = false) (D : va_G) (cy : Nat → Nat) (σ : Wd) (b k : Int) : Ct l yL_at cL_at 2 (some .int) 0 0 0 D cy [vi (b), vi (k)] σ (fun v σ' => v = some (vi (260 + 400 * b + 4 * k)) ∧ σ' = σ) noX := by
  refine ct_start (by decide +kernel) hfl rfl (fun κ e1 e2 e3 C E NH => ?_)
  subst e1 e2 e3
  have C : Cx κ cL_at 2 RL "at" 0 := C
  obtain ⟨-, -, -, -, hc, hs⟩ := id E
  show J κ σ [(0, vi (b)), (1, vi (k))] 0 [] 0 0
  refine j_sipush C dL_at_0 rfl (by decide) ?_
  refine j_sipush C dL_at_3 rfl (by decide) ?_
  refine j_iload_n 0 C dL_at_6 rfl rfl rfl ?_
  refine j_imul C dL_at_7 rfl ?_
  refine j_iadd C dL_at_8 rfl ?_
  refine j_iconst C dL_at_9 rfl ?_
  refine j_iload_n 1 C dL_at_10 rfl rfl rfl ?_
  refine j_imul C dL_at_11 rfl ?_
  refine j_iadd C dL_at_12 rfl ?_
  exact j_iret C E dL_at_13 (by omega) (by omega) ⟨rfl, rfl⟩
theorem Rows.n {g : Nat → Int} {b : Nat} {l : List Ly} (h : Rows g b l) {z : Int} (hz : z = 30 + (b : Int)) : g z.toNat = (l.length : Int) := by
  rw [show z.toNat = 30 + b by omega]
  exact h.1
theorem tot_takeN {l : List Ly} {k : Nat} (h : k < l.length) : tot (l.take (k + 1)) = tot (l.take k) + (lyAt l (k : Int)).1 := sum_take (fun x => x.1) (l := l) (i := (k : Int)) (by omega) (by omega)
set_option maxHeartbeats 4000000 in
set_option maxRecDepth 20000 in
theorem c_within (l : Launch) (hfl : l.stackTraces = false) (D : va_G) (cy : Nat → Nat) (σ : Wd) (a : Nat) (g : Nat → Int) (hA : has σ a (iA cy 2700 g)) (bs : List Bn) (hNt : NetL g bs) (i : Nat) (hi : i < bs.length) : Ct l yL_within cL_within 4 (some .int) 1 0 0 D cy [.ref a, vi ((i : Int))] σ (fun v σ' => v = some (vi (tot (gB bs (i : Int)).2.2)) ∧ σ' = σ) noX := by
  refine ct_start (by decide +kernel) hfl rfl (fun κ e1 e2 e3 C E NH => ?_)
  subst e1 e2 e3
  have C : Cx κ cL_within 4 RL "within" 1 := C
  obtain ⟨-, -, -, -, hc, hs⟩ := id E
  show J κ σ [(0, .ref a), (1, vi ((i : Int)))] 0 [] 0 0
  have h6 := hNt.2.1
  obtain ⟨⟨hcp, hmz⟩, ⟨hR, hl90⟩, hok⟩ := hNt.2.2.1 i hi
  have hle := fl_len (gB bs (i : Int))
  obtain ⟨L, hL⟩ : ∃ l, fl (gB bs (i : Int)) = l := ⟨_, rfl⟩
  rw [hL] at hR hle
  refine j_iconst C dL_within_0 rfl ?_
  refine j_istore_n (lv' := [(0, .ref a), (1, vi ((i : Int))), (2, vi (0))]) [1, 2, 0] C dL_within_1 rfl rfl rfl rfl ?_
  refine j_iconst C dL_within_2 rfl ?_
  refine j_istore_n (lv' := [(0, .ref a), (1, vi ((i : Int))), (2, vi (0)), (3, vi (0))]) [1, 2, 3, 0] C dL_within_3 rfl rfl rfl rfl ?_
  have lp : ∀ (N : Nat) (k : Nat), k ≤ L.length → (L.length + 1 - k) < N → J κ σ [(0, .ref a), (1, vi ((i : Int))), (2, vi ((tot (L.take k)))), (3, vi ((k : Int)))] 4 [] 0 0 := by
    intro N
    induction N with
    | zero => intro k hk hN; exact absurd hN (Nat.not_lt_zero _)
    | succ N ih =>
      intro k hk hN
      refine j_iload_n 3 C dL_within_4 rfl rfl rfl ?_
      refine j_aload_n 0 C dL_within_5 rfl rfl rfl ?_
      refine j_bipush C dL_within_6 rfl (by decide) ?_
      refine j_iload_n 1 C dL_within_8 rfl rfl rfl ?_
      refine j_iadd C dL_within_9 rfl ?_
      refine j_iald C dL_within_10 rfl hA ⟨by omega, by omega⟩ (by omega) (hR.n (z := 30 + (i : Int)) rfl) ?_
      refine j_icmp_ge (tgt := 30) C dL_within_11 rfl rfl ⟨by omega, by omega⟩ ⟨by omega, by omega⟩ (fun cc1 => ?_) (fun cc1 => ?_)
      · refine j_iload_n 2 C dL_within_30 rfl rfl rfl ?_
        exact j_iret C E dL_within_31 (by omega) (by omega) ⟨congrArg some (congrArg vi (by rw [List.take_of_length_le (by omega), ← hL]; exact sum_fl _ _)), rfl⟩
      · refine j_iload_n 2 C dL_within_14 rfl rfl rfl ?_
        refine j_aload_n 0 C dL_within_15 rfl rfl rfl ?_
        refine j_iload_n 1 C dL_within_16 rfl rfl rfl ?_
        refine j_iload_n 3 C dL_within_17 rfl rfl rfl ?_
        refine j_callS (st' := [.ref a, vi ((tot (L.take k)))]) (As := [vi ((i : Int)), vi ((k : Int))]) C dL_within_18 rfl m_L_102 rfl rfl (c_at (kL κ) hfl (kD κ) (kc κ) σ (i : Int) (k : Int)) rfl (by omega) (by omega) (by omega) (fun _ _ hx => hx.elim) (fun v3 τ2 hp4 => ?_)
        obtain ⟨rfl, hs9⟩ := hp4
        replace hs9 := hs9.symm
        subst hs9
        show J κ σ [(0, .ref a), (1, vi ((i : Int))), (2, vi ((tot (L.take k)))), (3, vi ((k : Int)))] 21 [vi ((260 + 400 * (i : Int) + 4 * (k : Int))), .ref a, vi ((tot (L.take k)))] _ _
        refine j_iald C dL_within_21 rfl hA ⟨by omega, by omega⟩ (by omega) (hR.k0 (k := k) (by omega) (z := (260 + 400 * (i : Int) + 4 * (k : Int))) rfl) ?_
        refine j_iadd C dL_within_22 rfl ?_
        refine j_istore_n (lv' := [(0, .ref a), (1, vi ((i : Int))), (2, vi ((tot (L.take k)) + ((lyAt L (k : Int)).1))), (3, vi ((k : Int)))]) [1, 2, 0, 3] C dL_within_23 rfl rfl rfl rfl ?_
        refine j_iinc (y := (k : Int) + 1) (lv' := [(0, .ref a), (1, vi ((i : Int))), (2, vi ((tot (L.take k)) + ((lyAt L (k : Int)).1))), (3, vi ((k : Int) + 1))]) 3 [1, 2, 3, 0] C dL_within_24 rfl rfl rfl rfl rfl ?_
        refine j_goto (tgt := 4) C dL_within_27 rfl ?_
        have hs9 := tot_takeN (l := L) (k := k) (by omega)
        rw [← hs9]
        exact ih (k + 1) (by omega) (by omega)
  exact lp _ 0 (Nat.zero_le _) (Nat.lt_succ_self _)
/-- the season and the rules in the net -/
def RuN (g : Nat → Int) (ru : Nat → Int × Int) (se : Int) : Prop := g 1 = se ∧ (0 ≤ se ∧ se ≤ 3) ∧ ∀ i : Nat, i < 12 → (g (40 + 2 * i) = (ru i).1 ∧ g (41 + 2 * i) = (ru i).2) ∧ (80 ≤ (ru i).1 ∧ (ru i).1 ≤ 300) ∧ (0 ≤ (ru i).2 ∧ (ru i).2 ≤ 100)
theorem RuN.k1 {g : Nat → Int} {ru : Nat → Int × Int} {se : Int} (h : RuN g ru se) {k z : Int} (hk : 1 ≤ k ∧ k ≤ 3) (hz : z = 38 + 6 * se + 2 * k) : g z.toNat = (rAt ru se k).1 := by
  have hs := h.2.1
  have h2 := (h.2.2 (se * 3 + k - 1).toNat (by omega)).1.1
  rw [show z.toNat = 40 + 2 * (se * 3 + k - 1).toNat by omega]
  exact h2
theorem RuN.k2 {g : Nat → Int} {ru : Nat → Int × Int} {se : Int} (h : RuN g ru se) {k z : Int} (hk : 1 ≤ k ∧ k ≤ 3) (hz : z = 38 + 6 * se + 2 * k + 1) : g z.toNat = (rAt ru se k).2 := by
  have hs := h.2.1
  have h2 := (h.2.2 (se * 3 + k - 1).toNat (by omega)).1.2
  rw [show z.toNat = 41 + 2 * (se * 3 + k - 1).toNat by omega]
  exact h2
theorem RuN.in {g : Nat → Int} {ru : Nat → Int × Int} {se : Int} (h : RuN g ru se) {k : Int} (hk : 1 ≤ k ∧ k ≤ 3) : (80 ≤ (rAt ru se k).1 ∧ (rAt ru se k).1 ≤ 300) ∧ (0 ≤ (rAt ru se k).2 ∧ (rAt ru se k).2 ≤ 100) := (h.2.2 (se * 3 + k - 1).toNat (by have := h.2.1; omega)).2
set_option maxHeartbeats 4000000 in
set_option maxRecDepth 20000 in
theorem c_graded (l : Launch) (hfl : l.stackTraces = false) (D : va_G) (cy : Nat → Nat) (σ : Wd) (a : Nat) (g : Nat → Int) (hA : has σ a (iA cy 2700 g)) (ru : Nat → Int × Int) (se : Int) (hRu : RuN g ru se) (x y : Int) (hx : (-2147483648 ≤ x ∧ x < 2147483648)) (hy : (-2147483648 ≤ y ∧ y < 2147483648)) : Ct l yL_graded cL_graded 5 (some .int) 0 0 0 D cy [.ref a, vi (x), vi (y)] σ (fun v σ' => v = some (vi (gradeF ru se x y)) ∧ σ' = σ) noX := by
  refine ct_start (by decide +kernel) hfl rfl (fun κ e1 e2 e3 C E NH => ?_)
  subst e1 e2 e3
  have C : Cx κ cL_graded 5 RL "graded" 0 := C
  obtain ⟨-, -, -, -, hc, hs⟩ := id E
  show J κ σ [(0, .ref a), (1, vi (x)), (2, vi (y))] 0 [] 0 0
  have hse := hRu.2.1
  have hr1 := hRu.in (k := 1) ⟨by omega, by omega⟩
  have hr2 := hRu.in (k := 2) ⟨by omega, by omega⟩
  have hr3 := hRu.in (k := 3) ⟨by omega, by omega⟩
  refine j_iconst C dL_graded_0 rfl ?_
  refine j_istore_n (lv' := [(0, .ref a), (1, vi (x)), (2, vi (y)), (3, vi (1))]) [1, 2, 3, 0] C dL_graded_1 rfl rfl rfl rfl ?_
  refine j_iload_n 3 C dL_graded_2 rfl rfl rfl ?_
  refine j_iconst C dL_graded_3 rfl ?_
  refine j_icmp_ge (tgt := 48) C dL_graded_4 rfl rfl ⟨by omega, by omega⟩ ⟨by omega, by omega⟩ (fun cc1 => absurd cc1 (by decide)) (fun _ => ?_)
  refine j_bipush C dL_graded_7 rfl (by decide) ?_
  refine j_bipush C dL_graded_9 rfl (by decide) ?_
  refine j_aload_n 0 C dL_graded_11 rfl rfl rfl ?_
  refine j_iconst C dL_graded_12 rfl ?_
  refine j_iald C dL_graded_13 rfl hA ⟨by omega, by omega⟩ (by omega) hRu.1 ?_
  refine j_imul C dL_graded_14 rfl ?_
  refine j_iadd C dL_graded_15 rfl ?_
  refine j_iconst C dL_graded_16 rfl ?_
  refine j_iload_n 3 C dL_graded_17 rfl rfl rfl ?_
  refine j_imul C dL_graded_18 rfl ?_
  refine j_iadd C dL_graded_19 rfl ?_
  refine j_istore (lv' := [(0, .ref a), (1, vi (x)), (2, vi (y)), (3, vi (1)), (4, vi ((38 + (6 * se)) + (2 * 1)))]) [1, 2, 3, 4, 0] C dL_graded_20 rfl rfl rfl ?_
  refine j_iload_n 1 C dL_graded_22 rfl rfl rfl ?_
  refine j_aload_n 0 C dL_graded_23 rfl rfl rfl ?_
  refine j_iload 4 C dL_graded_24 rfl rfl ?_
  refine j_iald C dL_graded_26 rfl hA ⟨by omega, by omega⟩ (by omega) (hRu.k1 (k := 1) ⟨by omega, by omega⟩ (z := (38 + (6 * se)) + (2 * 1)) (by omega)) ?_
  refine j_icmp_gt (tgt := 42) C dL_graded_27 rfl rfl ⟨by omega, by omega⟩ ⟨by omega, by omega⟩ (fun cc2 => ?_) (fun cc2 => ?_)
  · refine j_iinc (y := 2) (lv' := [(0, .ref a), (1, vi (x)), (2, vi (y)), (3, vi (2)), (4, vi ((38 + (6 * se)) + (2 * 1)))]) 3 [1, 2, 3, 0, 4] C dL_graded_42 rfl rfl rfl rfl rfl ?_
    refine j_goto (tgt := 2) C dL_graded_45 rfl ?_
    refine j_iload_n 3 C dL_graded_2 rfl rfl rfl ?_
    refine j_iconst C dL_graded_3 rfl ?_
    refine j_icmp_ge (tgt := 48) C dL_graded_4 rfl rfl ⟨by omega, by omega⟩ ⟨by omega, by omega⟩ (fun cc3 => absurd cc3 (by decide)) (fun _ => ?_)
    refine j_bipush C dL_graded_7 rfl (by decide) ?_
    refine j_bipush C dL_graded_9 rfl (by decide) ?_
    refine j_aload_n 0 C dL_graded_11 rfl rfl rfl ?_
    refine j_iconst C dL_graded_12 rfl ?_
    refine j_iald C dL_graded_13 rfl hA ⟨by omega, by omega⟩ (by omega) hRu.1 ?_
    refine j_imul C dL_graded_14 rfl ?_
    refine j_iadd C dL_graded_15 rfl ?_
    refine j_iconst C dL_graded_16 rfl ?_
    refine j_iload_n 3 C dL_graded_17 rfl rfl rfl ?_
    refine j_imul C dL_graded_18 rfl ?_
    refine j_iadd C dL_graded_19 rfl ?_
    refine j_istore (lv' := [(0, .ref a), (1, vi (x)), (2, vi (y)), (3, vi (2)), (4, vi ((38 + (6 * se)) + (2 * 2)))]) [1, 2, 3, 4, 0] C dL_graded_20 rfl rfl rfl ?_
    refine j_iload_n 1 C dL_graded_22 rfl rfl rfl ?_
    refine j_aload_n 0 C dL_graded_23 rfl rfl rfl ?_
    refine j_iload 4 C dL_graded_24 rfl rfl ?_
    refine j_iald C dL_graded_26 rfl hA ⟨by omega, by omega⟩ (by omega) (hRu.k1 (k := 2) ⟨by omega, by omega⟩ (z := (38 + (6 * se)) + (2 * 2)) (by omega)) ?_
    refine j_icmp_gt (tgt := 42) C dL_graded_27 rfl rfl ⟨by omega, by omega⟩ ⟨by omega, by omega⟩ (fun cc4 => ?_) (fun cc4 => ?_)
    · refine j_iinc (y := 3) (lv' := [(0, .ref a), (1, vi (x)), (2, vi (y)), (3, vi (3)), (4, vi ((38 + (6 * se)) + (2 * 2)))]) 3 [1, 2, 3, 0, 4] C dL_graded_42 rfl rfl rfl rfl rfl ?_
      refine j_goto (tgt := 2) C dL_graded_45 rfl ?_
      refine j_iload_n 3 C dL_graded_2 rfl rfl rfl ?_
      refine j_iconst C dL_graded_3 rfl ?_
      refine j_icmp_ge (tgt := 48) C dL_graded_4 rfl rfl ⟨by omega, by omega⟩ ⟨by omega, by omega⟩ (fun cc5 => absurd cc5 (by decide)) (fun _ => ?_)
      refine j_bipush C dL_graded_7 rfl (by decide) ?_
      refine j_bipush C dL_graded_9 rfl (by decide) ?_
      refine j_aload_n 0 C dL_graded_11 rfl rfl rfl ?_
      refine j_iconst C dL_graded_12 rfl ?_
      refine j_iald C dL_graded_13 rfl hA ⟨by omega, by omega⟩ (by omega) hRu.1 ?_
      refine j_imul C dL_graded_14 rfl ?_
      refine j_iadd C dL_graded_15 rfl ?_
      refine j_iconst C dL_graded_16 rfl ?_
      refine j_iload_n 3 C dL_graded_17 rfl rfl rfl ?_
      refine j_imul C dL_graded_18 rfl ?_
      refine j_iadd C dL_graded_19 rfl ?_
      refine j_istore (lv' := [(0, .ref a), (1, vi (x)), (2, vi (y)), (3, vi (3)), (4, vi ((38 + (6 * se)) + (2 * 3)))]) [1, 2, 3, 4, 0] C dL_graded_20 rfl rfl rfl ?_
      refine j_iload_n 1 C dL_graded_22 rfl rfl rfl ?_
      refine j_aload_n 0 C dL_graded_23 rfl rfl rfl ?_
      refine j_iload 4 C dL_graded_24 rfl rfl ?_
      refine j_iald C dL_graded_26 rfl hA ⟨by omega, by omega⟩ (by omega) (hRu.k1 (k := 3) ⟨by omega, by omega⟩ (z := (38 + (6 * se)) + (2 * 3)) (by omega)) ?_
      refine j_icmp_gt (tgt := 42) C dL_graded_27 rfl rfl ⟨by omega, by omega⟩ ⟨by omega, by omega⟩ (fun cc6 => ?_) (fun cc6 => ?_)
      · refine j_iinc (y := 4) (lv' := [(0, .ref a), (1, vi (x)), (2, vi (y)), (3, vi (4)), (4, vi ((38 + (6 * se)) + (2 * 3)))]) 3 [1, 2, 3, 0, 4] C dL_graded_42 rfl rfl rfl rfl rfl ?_
        refine j_goto (tgt := 2) C dL_graded_45 rfl ?_
        refine j_iload_n 3 C dL_graded_2 rfl rfl rfl ?_
        refine j_iconst C dL_graded_3 rfl ?_
        refine j_icmp_ge (tgt := 48) C dL_graded_4 rfl rfl ⟨by omega, by omega⟩ ⟨by omega, by omega⟩ (fun _ => ?_) (fun cc7 => absurd cc7 (by decide))
        refine j_iconst C dL_graded_48 rfl ?_
        exact j_iret C E dL_graded_49 (by omega) (by omega) ⟨congrArg some (congrArg vi (show (4 : Int) = gradeF ru se x y by unfold gradeF; rw [if_neg (by omega), if_neg (by omega), if_neg (by omega)])), rfl⟩
      · refine j_iload_n 2 C dL_graded_30 rfl rfl rfl ?_
        refine j_aload_n 0 C dL_graded_31 rfl rfl rfl ?_
        refine j_iload 4 C dL_graded_32 rfl rfl ?_
        refine j_iconst C dL_graded_34 rfl ?_
        refine j_iadd C dL_graded_35 rfl ?_
        refine j_iald C dL_graded_36 rfl hA ⟨by omega, by omega⟩ (by omega) (hRu.k2 (k := 3) ⟨by omega, by omega⟩ (z := ((38 + (6 * se)) + (2 * 3)) + 1) (by omega)) ?_
        refine j_icmp_gt (tgt := 42) C dL_graded_37 rfl rfl ⟨by omega, by omega⟩ ⟨by omega, by omega⟩ (fun cc8 => ?_) (fun cc8 => ?_)
        · refine j_iinc (y := 4) (lv' := [(0, .ref a), (1, vi (x)), (2, vi (y)), (3, vi (4)), (4, vi ((38 + (6 * se)) + (2 * 3)))]) 3 [1, 2, 3, 0, 4] C dL_graded_42 rfl rfl rfl rfl rfl ?_
          refine j_goto (tgt := 2) C dL_graded_45 rfl ?_
          refine j_iload_n 3 C dL_graded_2 rfl rfl rfl ?_
          refine j_iconst C dL_graded_3 rfl ?_
          refine j_icmp_ge (tgt := 48) C dL_graded_4 rfl rfl ⟨by omega, by omega⟩ ⟨by omega, by omega⟩ (fun _ => ?_) (fun cc9 => absurd cc9 (by decide))
          refine j_iconst C dL_graded_48 rfl ?_
          exact j_iret C E dL_graded_49 (by omega) (by omega) ⟨congrArg some (congrArg vi (show (4 : Int) = gradeF ru se x y by unfold gradeF; rw [if_neg (by omega), if_neg (by omega), if_neg (by omega)])), rfl⟩
        · refine j_iload_n 3 C dL_graded_40 rfl rfl rfl ?_
          exact j_iret C E dL_graded_41 (by omega) (by omega) ⟨congrArg some (congrArg vi (show (3 : Int) = gradeF ru se x y by unfold gradeF; rw [if_neg (by omega), if_neg (by omega), if_pos ⟨by omega, by omega⟩])), rfl⟩
    · refine j_iload_n 2 C dL_graded_30 rfl rfl rfl ?_
      refine j_aload_n 0 C dL_graded_31 rfl rfl rfl ?_
      refine j_iload 4 C dL_graded_32 rfl rfl ?_
      refine j_iconst C dL_graded_34 rfl ?_
      refine j_iadd C dL_graded_35 rfl ?_
      refine j_iald C dL_graded_36 rfl hA ⟨by omega, by omega⟩ (by omega) (hRu.k2 (k := 2) ⟨by omega, by omega⟩ (z := ((38 + (6 * se)) + (2 * 2)) + 1) (by omega)) ?_
      refine j_icmp_gt (tgt := 42) C dL_graded_37 rfl rfl ⟨by omega, by omega⟩ ⟨by omega, by omega⟩ (fun cc10 => ?_) (fun cc10 => ?_)
      · refine j_iinc (y := 3) (lv' := [(0, .ref a), (1, vi (x)), (2, vi (y)), (3, vi (3)), (4, vi ((38 + (6 * se)) + (2 * 2)))]) 3 [1, 2, 3, 0, 4] C dL_graded_42 rfl rfl rfl rfl rfl ?_
        refine j_goto (tgt := 2) C dL_graded_45 rfl ?_
        refine j_iload_n 3 C dL_graded_2 rfl rfl rfl ?_
        refine j_iconst C dL_graded_3 rfl ?_
        refine j_icmp_ge (tgt := 48) C dL_graded_4 rfl rfl ⟨by omega, by omega⟩ ⟨by omega, by omega⟩ (fun cc11 => absurd cc11 (by decide)) (fun _ => ?_)
        refine j_bipush C dL_graded_7 rfl (by decide) ?_
        refine j_bipush C dL_graded_9 rfl (by decide) ?_
        refine j_aload_n 0 C dL_graded_11 rfl rfl rfl ?_
        refine j_iconst C dL_graded_12 rfl ?_
        refine j_iald C dL_graded_13 rfl hA ⟨by omega, by omega⟩ (by omega) hRu.1 ?_
        refine j_imul C dL_graded_14 rfl ?_
        refine j_iadd C dL_graded_15 rfl ?_
        refine j_iconst C dL_graded_16 rfl ?_
        refine j_iload_n 3 C dL_graded_17 rfl rfl rfl ?_
        refine j_imul C dL_graded_18 rfl ?_
        refine j_iadd C dL_graded_19 rfl ?_
        refine j_istore (lv' := [(0, .ref a), (1, vi (x)), (2, vi (y)), (3, vi (3)), (4, vi ((38 + (6 * se)) + (2 * 3)))]) [1, 2, 3, 4, 0] C dL_graded_20 rfl rfl rfl ?_
        refine j_iload_n 1 C dL_graded_22 rfl rfl rfl ?_
        refine j_aload_n 0 C dL_graded_23 rfl rfl rfl ?_
        refine j_iload 4 C dL_graded_24 rfl rfl ?_
        refine j_iald C dL_graded_26 rfl hA ⟨by omega, by omega⟩ (by omega) (hRu.k1 (k := 3) ⟨by omega, by omega⟩ (z := (38 + (6 * se)) + (2 * 3)) (by omega)) ?_
        refine j_icmp_gt (tgt := 42) C dL_graded_27 rfl rfl ⟨by omega, by omega⟩ ⟨by omega, by omega⟩ (fun cc12 => ?_) (fun cc12 => ?_)
        · refine j_iinc (y := 4) (lv' := [(0, .ref a), (1, vi (x)), (2, vi (y)), (3, vi (4)), (4, vi ((38 + (6 * se)) + (2 * 3)))]) 3 [1, 2, 3, 0, 4] C dL_graded_42 rfl rfl rfl rfl rfl ?_
          refine j_goto (tgt := 2) C dL_graded_45 rfl ?_
          refine j_iload_n 3 C dL_graded_2 rfl rfl rfl ?_
          refine j_iconst C dL_graded_3 rfl ?_
          refine j_icmp_ge (tgt := 48) C dL_graded_4 rfl rfl ⟨by omega, by omega⟩ ⟨by omega, by omega⟩ (fun _ => ?_) (fun cc13 => absurd cc13 (by decide))
          refine j_iconst C dL_graded_48 rfl ?_
          exact j_iret C E dL_graded_49 (by omega) (by omega) ⟨congrArg some (congrArg vi (show (4 : Int) = gradeF ru se x y by unfold gradeF; rw [if_neg (by omega), if_neg (by omega), if_neg (by omega)])), rfl⟩
        · refine j_iload_n 2 C dL_graded_30 rfl rfl rfl ?_
          refine j_aload_n 0 C dL_graded_31 rfl rfl rfl ?_
          refine j_iload 4 C dL_graded_32 rfl rfl ?_
          refine j_iconst C dL_graded_34 rfl ?_
          refine j_iadd C dL_graded_35 rfl ?_
          refine j_iald C dL_graded_36 rfl hA ⟨by omega, by omega⟩ (by omega) (hRu.k2 (k := 3) ⟨by omega, by omega⟩ (z := ((38 + (6 * se)) + (2 * 3)) + 1) (by omega)) ?_
          refine j_icmp_gt (tgt := 42) C dL_graded_37 rfl rfl ⟨by omega, by omega⟩ ⟨by omega, by omega⟩ (fun cc14 => ?_) (fun cc14 => ?_)
          · refine j_iinc (y := 4) (lv' := [(0, .ref a), (1, vi (x)), (2, vi (y)), (3, vi (4)), (4, vi ((38 + (6 * se)) + (2 * 3)))]) 3 [1, 2, 3, 0, 4] C dL_graded_42 rfl rfl rfl rfl rfl ?_
            refine j_goto (tgt := 2) C dL_graded_45 rfl ?_
            refine j_iload_n 3 C dL_graded_2 rfl rfl rfl ?_
            refine j_iconst C dL_graded_3 rfl ?_
            refine j_icmp_ge (tgt := 48) C dL_graded_4 rfl rfl ⟨by omega, by omega⟩ ⟨by omega, by omega⟩ (fun _ => ?_) (fun cc15 => absurd cc15 (by decide))
            refine j_iconst C dL_graded_48 rfl ?_
            exact j_iret C E dL_graded_49 (by omega) (by omega) ⟨congrArg some (congrArg vi (show (4 : Int) = gradeF ru se x y by unfold gradeF; rw [if_neg (by omega), if_neg (by omega), if_neg (by omega)])), rfl⟩
          · refine j_iload_n 3 C dL_graded_40 rfl rfl rfl ?_
            exact j_iret C E dL_graded_41 (by omega) (by omega) ⟨congrArg some (congrArg vi (show (3 : Int) = gradeF ru se x y by unfold gradeF; rw [if_neg (by omega), if_neg (by omega), if_pos ⟨by omega, by omega⟩])), rfl⟩
      · refine j_iload_n 3 C dL_graded_40 rfl rfl rfl ?_
        exact j_iret C E dL_graded_41 (by omega) (by omega) ⟨congrArg some (congrArg vi (show (2 : Int) = gradeF ru se x y by unfold gradeF; rw [if_neg (by omega), if_pos ⟨by omega, by omega⟩])), rfl⟩
  · refine j_iload_n 2 C dL_graded_30 rfl rfl rfl ?_
    refine j_aload_n 0 C dL_graded_31 rfl rfl rfl ?_
    refine j_iload 4 C dL_graded_32 rfl rfl ?_
    refine j_iconst C dL_graded_34 rfl ?_
    refine j_iadd C dL_graded_35 rfl ?_
    refine j_iald C dL_graded_36 rfl hA ⟨by omega, by omega⟩ (by omega) (hRu.k2 (k := 1) ⟨by omega, by omega⟩ (z := ((38 + (6 * se)) + (2 * 1)) + 1) (by omega)) ?_
    refine j_icmp_gt (tgt := 42) C dL_graded_37 rfl rfl ⟨by omega, by omega⟩ ⟨by omega, by omega⟩ (fun cc16 => ?_) (fun cc16 => ?_)
    · refine j_iinc (y := 2) (lv' := [(0, .ref a), (1, vi (x)), (2, vi (y)), (3, vi (2)), (4, vi ((38 + (6 * se)) + (2 * 1)))]) 3 [1, 2, 3, 0, 4] C dL_graded_42 rfl rfl rfl rfl rfl ?_
      refine j_goto (tgt := 2) C dL_graded_45 rfl ?_
      refine j_iload_n 3 C dL_graded_2 rfl rfl rfl ?_
      refine j_iconst C dL_graded_3 rfl ?_
      refine j_icmp_ge (tgt := 48) C dL_graded_4 rfl rfl ⟨by omega, by omega⟩ ⟨by omega, by omega⟩ (fun cc17 => absurd cc17 (by decide)) (fun _ => ?_)
      refine j_bipush C dL_graded_7 rfl (by decide) ?_
      refine j_bipush C dL_graded_9 rfl (by decide) ?_
      refine j_aload_n 0 C dL_graded_11 rfl rfl rfl ?_
      refine j_iconst C dL_graded_12 rfl ?_
      refine j_iald C dL_graded_13 rfl hA ⟨by omega, by omega⟩ (by omega) hRu.1 ?_
      refine j_imul C dL_graded_14 rfl ?_
      refine j_iadd C dL_graded_15 rfl ?_
      refine j_iconst C dL_graded_16 rfl ?_
      refine j_iload_n 3 C dL_graded_17 rfl rfl rfl ?_
      refine j_imul C dL_graded_18 rfl ?_
      refine j_iadd C dL_graded_19 rfl ?_
      refine j_istore (lv' := [(0, .ref a), (1, vi (x)), (2, vi (y)), (3, vi (2)), (4, vi ((38 + (6 * se)) + (2 * 2)))]) [1, 2, 3, 4, 0] C dL_graded_20 rfl rfl rfl ?_
      refine j_iload_n 1 C dL_graded_22 rfl rfl rfl ?_
      refine j_aload_n 0 C dL_graded_23 rfl rfl rfl ?_
      refine j_iload 4 C dL_graded_24 rfl rfl ?_
      refine j_iald C dL_graded_26 rfl hA ⟨by omega, by omega⟩ (by omega) (hRu.k1 (k := 2) ⟨by omega, by omega⟩ (z := (38 + (6 * se)) + (2 * 2)) (by omega)) ?_
      refine j_icmp_gt (tgt := 42) C dL_graded_27 rfl rfl ⟨by omega, by omega⟩ ⟨by omega, by omega⟩ (fun cc18 => ?_) (fun cc18 => ?_)
      · refine j_iinc (y := 3) (lv' := [(0, .ref a), (1, vi (x)), (2, vi (y)), (3, vi (3)), (4, vi ((38 + (6 * se)) + (2 * 2)))]) 3 [1, 2, 3, 0, 4] C dL_graded_42 rfl rfl rfl rfl rfl ?_
        refine j_goto (tgt := 2) C dL_graded_45 rfl ?_
        refine j_iload_n 3 C dL_graded_2 rfl rfl rfl ?_
        refine j_iconst C dL_graded_3 rfl ?_
        refine j_icmp_ge (tgt := 48) C dL_graded_4 rfl rfl ⟨by omega, by omega⟩ ⟨by omega, by omega⟩ (fun cc19 => absurd cc19 (by decide)) (fun _ => ?_)
        refine j_bipush C dL_graded_7 rfl (by decide) ?_
        refine j_bipush C dL_graded_9 rfl (by decide) ?_
        refine j_aload_n 0 C dL_graded_11 rfl rfl rfl ?_
        refine j_iconst C dL_graded_12 rfl ?_
        refine j_iald C dL_graded_13 rfl hA ⟨by omega, by omega⟩ (by omega) hRu.1 ?_
        refine j_imul C dL_graded_14 rfl ?_
        refine j_iadd C dL_graded_15 rfl ?_
        refine j_iconst C dL_graded_16 rfl ?_
        refine j_iload_n 3 C dL_graded_17 rfl rfl rfl ?_
        refine j_imul C dL_graded_18 rfl ?_
        refine j_iadd C dL_graded_19 rfl ?_
        refine j_istore (lv' := [(0, .ref a), (1, vi (x)), (2, vi (y)), (3, vi (3)), (4, vi ((38 + (6 * se)) + (2 * 3)))]) [1, 2, 3, 4, 0] C dL_graded_20 rfl rfl rfl ?_
        refine j_iload_n 1 C dL_graded_22 rfl rfl rfl ?_
        refine j_aload_n 0 C dL_graded_23 rfl rfl rfl ?_
        refine j_iload 4 C dL_graded_24 rfl rfl ?_
        refine j_iald C dL_graded_26 rfl hA ⟨by omega, by omega⟩ (by omega) (hRu.k1 (k := 3) ⟨by omega, by omega⟩ (z := (38 + (6 * se)) + (2 * 3)) (by omega)) ?_
        refine j_icmp_gt (tgt := 42) C dL_graded_27 rfl rfl ⟨by omega, by omega⟩ ⟨by omega, by omega⟩ (fun cc20 => ?_) (fun cc20 => ?_)
        · refine j_iinc (y := 4) (lv' := [(0, .ref a), (1, vi (x)), (2, vi (y)), (3, vi (4)), (4, vi ((38 + (6 * se)) + (2 * 3)))]) 3 [1, 2, 3, 0, 4] C dL_graded_42 rfl rfl rfl rfl rfl ?_
          refine j_goto (tgt := 2) C dL_graded_45 rfl ?_
          refine j_iload_n 3 C dL_graded_2 rfl rfl rfl ?_
          refine j_iconst C dL_graded_3 rfl ?_
          refine j_icmp_ge (tgt := 48) C dL_graded_4 rfl rfl ⟨by omega, by omega⟩ ⟨by omega, by omega⟩ (fun _ => ?_) (fun cc21 => absurd cc21 (by decide))
          refine j_iconst C dL_graded_48 rfl ?_
          exact j_iret C E dL_graded_49 (by omega) (by omega) ⟨congrArg some (congrArg vi (show (4 : Int) = gradeF ru se x y by unfold gradeF; rw [if_neg (by omega), if_neg (by omega), if_neg (by omega)])), rfl⟩
        · refine j_iload_n 2 C dL_graded_30 rfl rfl rfl ?_
          refine j_aload_n 0 C dL_graded_31 rfl rfl rfl ?_
          refine j_iload 4 C dL_graded_32 rfl rfl ?_
          refine j_iconst C dL_graded_34 rfl ?_
          refine j_iadd C dL_graded_35 rfl ?_
          refine j_iald C dL_graded_36 rfl hA ⟨by omega, by omega⟩ (by omega) (hRu.k2 (k := 3) ⟨by omega, by omega⟩ (z := ((38 + (6 * se)) + (2 * 3)) + 1) (by omega)) ?_
          refine j_icmp_gt (tgt := 42) C dL_graded_37 rfl rfl ⟨by omega, by omega⟩ ⟨by omega, by omega⟩ (fun cc22 => ?_) (fun cc22 => ?_)
          · refine j_iinc (y := 4) (lv' := [(0, .ref a), (1, vi (x)), (2, vi (y)), (3, vi (4)), (4, vi ((38 + (6 * se)) + (2 * 3)))]) 3 [1, 2, 3, 0, 4] C dL_graded_42 rfl rfl rfl rfl rfl ?_
            refine j_goto (tgt := 2) C dL_graded_45 rfl ?_
            refine j_iload_n 3 C dL_graded_2 rfl rfl rfl ?_
            refine j_iconst C dL_graded_3 rfl ?_
            refine j_icmp_ge (tgt := 48) C dL_graded_4 rfl rfl ⟨by omega, by omega⟩ ⟨by omega, by omega⟩ (fun _ => ?_) (fun cc23 => absurd cc23 (by decide))
            refine j_iconst C dL_graded_48 rfl ?_
            exact j_iret C E dL_graded_49 (by omega) (by omega) ⟨congrArg some (congrArg vi (show (4 : Int) = gradeF ru se x y by unfold gradeF; rw [if_neg (by omega), if_neg (by omega), if_neg (by omega)])), rfl⟩
          · refine j_iload_n 3 C dL_graded_40 rfl rfl rfl ?_
            exact j_iret C E dL_graded_41 (by omega) (by omega) ⟨congrArg some (congrArg vi (show (3 : Int) = gradeF ru se x y by unfold gradeF; rw [if_neg (by omega), if_neg (by omega), if_pos ⟨by omega, by omega⟩])), rfl⟩
      · refine j_iload_n 2 C dL_graded_30 rfl rfl rfl ?_
        refine j_aload_n 0 C dL_graded_31 rfl rfl rfl ?_
        refine j_iload 4 C dL_graded_32 rfl rfl ?_
        refine j_iconst C dL_graded_34 rfl ?_
        refine j_iadd C dL_graded_35 rfl ?_
        refine j_iald C dL_graded_36 rfl hA ⟨by omega, by omega⟩ (by omega) (hRu.k2 (k := 2) ⟨by omega, by omega⟩ (z := ((38 + (6 * se)) + (2 * 2)) + 1) (by omega)) ?_
        refine j_icmp_gt (tgt := 42) C dL_graded_37 rfl rfl ⟨by omega, by omega⟩ ⟨by omega, by omega⟩ (fun cc24 => ?_) (fun cc24 => ?_)
        · refine j_iinc (y := 3) (lv' := [(0, .ref a), (1, vi (x)), (2, vi (y)), (3, vi (3)), (4, vi ((38 + (6 * se)) + (2 * 2)))]) 3 [1, 2, 3, 0, 4] C dL_graded_42 rfl rfl rfl rfl rfl ?_
          refine j_goto (tgt := 2) C dL_graded_45 rfl ?_
          refine j_iload_n 3 C dL_graded_2 rfl rfl rfl ?_
          refine j_iconst C dL_graded_3 rfl ?_
          refine j_icmp_ge (tgt := 48) C dL_graded_4 rfl rfl ⟨by omega, by omega⟩ ⟨by omega, by omega⟩ (fun cc25 => absurd cc25 (by decide)) (fun _ => ?_)
          refine j_bipush C dL_graded_7 rfl (by decide) ?_
          refine j_bipush C dL_graded_9 rfl (by decide) ?_
          refine j_aload_n 0 C dL_graded_11 rfl rfl rfl ?_
          refine j_iconst C dL_graded_12 rfl ?_
          refine j_iald C dL_graded_13 rfl hA ⟨by omega, by omega⟩ (by omega) hRu.1 ?_
          refine j_imul C dL_graded_14 rfl ?_
          refine j_iadd C dL_graded_15 rfl ?_
          refine j_iconst C dL_graded_16 rfl ?_
          refine j_iload_n 3 C dL_graded_17 rfl rfl rfl ?_
          refine j_imul C dL_graded_18 rfl ?_
          refine j_iadd C dL_graded_19 rfl ?_
          refine j_istore (lv' := [(0, .ref a), (1, vi (x)), (2, vi (y)), (3, vi (3)), (4, vi ((38 + (6 * se)) + (2 * 3)))]) [1, 2, 3, 4, 0] C dL_graded_20 rfl rfl rfl ?_
          refine j_iload_n 1 C dL_graded_22 rfl rfl rfl ?_
          refine j_aload_n 0 C dL_graded_23 rfl rfl rfl ?_
          refine j_iload 4 C dL_graded_24 rfl rfl ?_
          refine j_iald C dL_graded_26 rfl hA ⟨by omega, by omega⟩ (by omega) (hRu.k1 (k := 3) ⟨by omega, by omega⟩ (z := (38 + (6 * se)) + (2 * 3)) (by omega)) ?_
          refine j_icmp_gt (tgt := 42) C dL_graded_27 rfl rfl ⟨by omega, by omega⟩ ⟨by omega, by omega⟩ (fun cc26 => ?_) (fun cc26 => ?_)
          · refine j_iinc (y := 4) (lv' := [(0, .ref a), (1, vi (x)), (2, vi (y)), (3, vi (4)), (4, vi ((38 + (6 * se)) + (2 * 3)))]) 3 [1, 2, 3, 0, 4] C dL_graded_42 rfl rfl rfl rfl rfl ?_
            refine j_goto (tgt := 2) C dL_graded_45 rfl ?_
            refine j_iload_n 3 C dL_graded_2 rfl rfl rfl ?_
            refine j_iconst C dL_graded_3 rfl ?_
            refine j_icmp_ge (tgt := 48) C dL_graded_4 rfl rfl ⟨by omega, by omega⟩ ⟨by omega, by omega⟩ (fun _ => ?_) (fun cc27 => absurd cc27 (by decide))
            refine j_iconst C dL_graded_48 rfl ?_
            exact j_iret C E dL_graded_49 (by omega) (by omega) ⟨congrArg some (congrArg vi (show (4 : Int) = gradeF ru se x y by unfold gradeF; rw [if_neg (by omega), if_neg (by omega), if_neg (by omega)])), rfl⟩
          · refine j_iload_n 2 C dL_graded_30 rfl rfl rfl ?_
            refine j_aload_n 0 C dL_graded_31 rfl rfl rfl ?_
            refine j_iload 4 C dL_graded_32 rfl rfl ?_
            refine j_iconst C dL_graded_34 rfl ?_
            refine j_iadd C dL_graded_35 rfl ?_
            refine j_iald C dL_graded_36 rfl hA ⟨by omega, by omega⟩ (by omega) (hRu.k2 (k := 3) ⟨by omega, by omega⟩ (z := ((38 + (6 * se)) + (2 * 3)) + 1) (by omega)) ?_
            refine j_icmp_gt (tgt := 42) C dL_graded_37 rfl rfl ⟨by omega, by omega⟩ ⟨by omega, by omega⟩ (fun cc28 => ?_) (fun cc28 => ?_)
            · refine j_iinc (y := 4) (lv' := [(0, .ref a), (1, vi (x)), (2, vi (y)), (3, vi (4)), (4, vi ((38 + (6 * se)) + (2 * 3)))]) 3 [1, 2, 3, 0, 4] C dL_graded_42 rfl rfl rfl rfl rfl ?_
              refine j_goto (tgt := 2) C dL_graded_45 rfl ?_
              refine j_iload_n 3 C dL_graded_2 rfl rfl rfl ?_
              refine j_iconst C dL_graded_3 rfl ?_
              refine j_icmp_ge (tgt := 48) C dL_graded_4 rfl rfl ⟨by omega, by omega⟩ ⟨by omega, by omega⟩ (fun _ => ?_) (fun cc29 => absurd cc29 (by decide))
              refine j_iconst C dL_graded_48 rfl ?_
              exact j_iret C E dL_graded_49 (by omega) (by omega) ⟨congrArg some (congrArg vi (show (4 : Int) = gradeF ru se x y by unfold gradeF; rw [if_neg (by omega), if_neg (by omega), if_neg (by omega)])), rfl⟩
            · refine j_iload_n 3 C dL_graded_40 rfl rfl rfl ?_
              exact j_iret C E dL_graded_41 (by omega) (by omega) ⟨congrArg some (congrArg vi (show (3 : Int) = gradeF ru se x y by unfold gradeF; rw [if_neg (by omega), if_neg (by omega), if_pos ⟨by omega, by omega⟩])), rfl⟩
        · refine j_iload_n 3 C dL_graded_40 rfl rfl rfl ?_
          exact j_iret C E dL_graded_41 (by omega) (by omega) ⟨congrArg some (congrArg vi (show (2 : Int) = gradeF ru se x y by unfold gradeF; rw [if_neg (by omega), if_pos ⟨by omega, by omega⟩])), rfl⟩
    · refine j_iload_n 3 C dL_graded_40 rfl rfl rfl ?_
      exact j_iret C E dL_graded_41 (by omega) (by omega) ⟨congrArg some (congrArg vi (show (1 : Int) = gradeF ru se x y by unfold gradeF; rw [if_pos ⟨by omega, by omega⟩])), rfl⟩
set_option maxHeartbeats 4000000 in
set_option maxRecDepth 20000 in
theorem c_come (l : Launch) (hfl : l.stackTraces = false) (D : va_G) (cy : Nat → Nat) (σ : Wd) (a : Nat) (g : Nat → Int) (hA : has σ a (iA cy 2700 g)) (bs : List Bn) (hNt : NetL g bs) (i : Nat) (hi : i < bs.length) (hl : (gB bs (i : Int)).2.2.length < 90) (n x f r : Int) (hx : lyOk (n, x, f, r)) : Ct l yL_come cL_come 9 none 1 0 0 D cy [.ref a, vi ((i : Int)), vi (n), vi (x), vi (f), vi (r)] σ (fun v σ' => v = none ∧ ∃ G : Nat → Int, has σ' a (iA cy 2700 G) ∧ NetL G (setL bs (i : Int) ((gB bs (i : Int)).2.2 ++ [(n, x, f, r)])) ∧ Oth g G i ∧ Keep σ σ' (fun y => y = a) ∧ σ'.1 = σ.1) noX := by
  refine ct_start (by decide +kernel) hfl rfl (fun κ e1 e2 e3 C E NH => ?_)
  subst e1 e2 e3
  have C : Cx κ cL_come 9 RL "come" 1 := C
  obtain ⟨-, -, -, -, hc, hs⟩ := id E
  show J κ σ [(0, .ref a), (1, vi ((i : Int))), (2, vi (n)), (3, vi (x)), (4, vi (f)), (5, vi (r))] 0 [] 0 0
  have h6 := hNt.2.1
  obtain ⟨⟨hcp, hmz⟩, ⟨hR, hl90⟩, hok⟩ := hNt.2.2.1 i hi
  have hle := fl_len (gB bs (i : Int))
  have hmi := b01_in (gB bs (i : Int)).2.1
  obtain ⟨m, hm⟩ : ∃ z, (gB bs (i : Int)).2.2.length = z := ⟨_, rfl⟩
  have hlm : m < 90 := by omega
  have hnm : g (30 + i) = (m : Int) := by rw [hR.1, hle, hm]
  have main : ∀ p : Nat, p ≤ m → (p = if (gB bs (i : Int)).2.1 then (gB bs (i : Int)).2.2.length else 0) → J κ σ [(0, .ref a), (1, vi ((i : Int))), (2, vi (n)), (3, vi (x)), (4, vi (f)), (5, vi (r))] 20 [vi (p : Int)] 0 0 := by
    intro p hpm hp
    have kp0 : Keep σ σ (fun y => y = a) := Keep.rf
    have dm0 : σ.1 = σ.1 := rfl
    refine j_istore (lv' := [(0, .ref a), (1, vi ((i : Int))), (2, vi (n)), (3, vi (x)), (4, vi (f)), (5, vi (r)), (6, vi ((p : Int)))]) [1, 2, 3, 4, 5, 6, 0] C dL_come_20 rfl rfl rfl ?_
    refine j_aload_n 0 C dL_come_22 rfl rfl rfl ?_
    refine j_bipush C dL_come_23 rfl (by decide) ?_
    refine j_iload_n 1 C dL_come_25 rfl rfl rfl ?_
    refine j_iadd C dL_come_26 rfl ?_
    refine j_iald C dL_come_27 rfl hA ⟨by omega, by omega⟩ (by omega) ((congrArg g (show (30 + (i : Int)).toNat = 30 + i by omega)).trans hnm) ?_
    refine j_istore (lv' := [(0, .ref a), (1, vi ((i : Int))), (2, vi (n)), (3, vi (x)), (4, vi (f)), (5, vi (r)), (6, vi ((p : Int))), (7, vi ((m : Int)))]) [1, 2, 3, 4, 5, 6, 7, 0] C dL_come_28 rfl rfl rfl ?_
    have lp : ∀ (N : Nat) (k : Nat) (σ1 : Wd), has σ1 a (iA (kc κ) 2700 (shj (260 + 400 * i) k m 0 g)) → p ≤ k ∧ k ≤ m → Keep σ σ1 (fun y => y = a) → σ1.1 = σ.1 → (k + 1) < N → J κ σ1 [(0, .ref a), (1, vi ((i : Int))), (2, vi (n)), (3, vi (x)), (4, vi (f)), (5, vi (r)), (6, vi ((p : Int))), (7, vi ((k : Int)))] 30 [] 0 0 := by
      intro N
      induction N with
      | zero => intro k σ1 hG hk hk1 hd1 hN; exact absurd hN (Nat.not_lt_zero _)
      | succ N ih =>
        intro k σ1 hG hk hk1 hd1 hN
        refine j_iload 7 C dL_come_30 rfl rfl ?_
        refine j_iload 6 C dL_come_32 rfl rfl ?_
        refine j_icmp_le (tgt := 82) C dL_come_34 rfl rfl ⟨by omega, by omega⟩ ⟨by omega, by omega⟩ (fun cc1 => ?_) (fun cc1 => ?_)
        · have hkp : k = p := by omega
          subst hkp
          refine j_aload_n 0 C dL_come_82 rfl rfl rfl ?_
          refine j_iload_n 1 C dL_come_83 rfl rfl rfl ?_
          refine j_iload 6 C dL_come_84 rfl rfl ?_
          refine j_callS (st' := [.ref a]) (As := [vi ((i : Int)), vi ((k : Int))]) C dL_come_86 rfl m_L_102 rfl rfl (c_at (kL κ) hfl (kD κ) (kc κ) σ1 (i : Int) (k : Int)) rfl (by omega) (by omega) (by omega) (fun _ _ hx => hx.elim) (fun v3 τ2 hp4 => ?_)
          obtain ⟨rfl, hs9⟩ := hp4
          replace hs9 := hs9.symm
          subst hs9
          show J κ σ1 [(0, .ref a), (1, vi ((i : Int))), (2, vi (n)), (3, vi (x)), (4, vi (f)), (5, vi (r)), (6, vi ((k : Int))), (7, vi ((k : Int)))] 89 [vi ((260 + 400 * (i : Int) + 4 * (k : Int))), .ref a] _ _
          refine j_iload_n 2 C dL_come_89 rfl rfl rfl ?_
          refine j_iast C dL_come_90 rfl hG ⟨by omega, by omega⟩ (by omega) (fun τ5 ee6 => ?_)
          have u7 : has τ5 a (iA (kc κ) 2700 (ups (shj (260 + 400 * i) k m 0 g) (260 + 400 * (i : Int) + 4 * (k : Int)).toNat n)) := hG.self' ee6
          have kp8 := hk1.put ee6 rfl
          have dm9 := (dom_put ee6).trans hd1
          refine j_aload_n 0 C dL_come_91 rfl rfl rfl ?_
          refine j_iload_n 1 C dL_come_92 rfl rfl rfl ?_
          refine j_iload 6 C dL_come_93 rfl rfl ?_
          refine j_callS (st' := [.ref a]) (As := [vi ((i : Int)), vi ((k : Int))]) C dL_come_95 rfl m_L_102 rfl rfl (c_at (kL κ) hfl (kD κ) (kc κ) τ5 (i : Int) (k : Int)) rfl (by omega) (by omega) (by omega) (fun _ _ hx => hx.elim) (fun v11 τ10 hp12 => ?_)
          obtain ⟨rfl, hs9⟩ := hp12
          replace hs9 := hs9.symm
          subst hs9
          show J κ τ5 [(0, .ref a), (1, vi ((i : Int))), (2, vi (n)), (3, vi (x)), (4, vi (f)), (5, vi (r)), (6, vi ((k : Int))), (7, vi ((k : Int)))] 98 [vi ((260 + 400 * (i : Int) + 4 * (k : Int))), .ref a] _ _
          refine j_iconst C dL_come_98 rfl ?_
          refine j_iadd C dL_come_99 rfl ?_
          refine j_iload_n 3 C dL_come_100 rfl rfl rfl ?_
          refine j_iast C dL_come_101 rfl u7 ⟨by omega, by omega⟩ (by omega) (fun τ13 ee14 => ?_)
          have u15 : has τ13 a (iA (kc κ) 2700 (ups (ups (shj (260 + 400 * i) k m 0 g) (260 + 400 * (i : Int) + 4 * (k : Int)).toNat n) ((260 + 400 * (i : Int) + 4 * (k : Int)) + 1).toNat x)) := u7.self' ee14
          have kp16 := kp8.put ee14 rfl
          have dm17 := (dom_put ee14).trans dm9
          refine j_aload_n 0 C dL_come_102 rfl rfl rfl ?_
          refine j_iload_n 1 C dL_come_103 rfl rfl rfl ?_
          refine j_iload 6 C dL_come_104 rfl rfl ?_
          refine j_callS (st' := [.ref a]) (As := [vi ((i : Int)), vi ((k : Int))]) C dL_come_106 rfl m_L_102 rfl rfl (c_at (kL κ) hfl (kD κ) (kc κ) τ13 (i : Int) (k : Int)) rfl (by omega) (by omega) (by omega) (fun _ _ hx => hx.elim) (fun v19 τ18 hp20 => ?_)
          obtain ⟨rfl, hs9⟩ := hp20
          replace hs9 := hs9.symm
          subst hs9
          show J κ τ13 [(0, .ref a), (1, vi ((i : Int))), (2, vi (n)), (3, vi (x)), (4, vi (f)), (5, vi (r)), (6, vi ((k : Int))), (7, vi ((k : Int)))] 109 [vi ((260 + 400 * (i : Int) + 4 * (k : Int))), .ref a] _ _
          refine j_iconst C dL_come_109 rfl ?_
          refine j_iadd C dL_come_110 rfl ?_
          refine j_iload 4 C dL_come_111 rfl rfl ?_
          refine j_iast C dL_come_113 rfl u15 ⟨by omega, by omega⟩ (by omega) (fun τ21 ee22 => ?_)
          have u23 : has τ21 a (iA (kc κ) 2700 (ups (ups (ups (shj (260 + 400 * i) k m 0 g) (260 + 400 * (i : Int) + 4 * (k : Int)).toNat n) ((260 + 400 * (i : Int) + 4 * (k : Int)) + 1).toNat x) ((260 + 400 * (i : Int) + 4 * (k : Int)) + 2).toNat f)) := u15.self' ee22
          have kp24 := kp16.put ee22 rfl
          have dm25 := (dom_put ee22).trans dm17
          refine j_aload_n 0 C dL_come_114 rfl rfl rfl ?_
          refine j_iload_n 1 C dL_come_115 rfl rfl rfl ?_
          refine j_iload 6 C dL_come_116 rfl rfl ?_
          refine j_callS (st' := [.ref a]) (As := [vi ((i : Int)), vi ((k : Int))]) C dL_come_118 rfl m_L_102 rfl rfl (c_at (kL κ) hfl (kD κ) (kc κ) τ21 (i : Int) (k : Int)) rfl (by omega) (by omega) (by omega) (fun _ _ hx => hx.elim) (fun v27 τ26 hp28 => ?_)
          obtain ⟨rfl, hs9⟩ := hp28
          replace hs9 := hs9.symm
          subst hs9
          show J κ τ21 [(0, .ref a), (1, vi ((i : Int))), (2, vi (n)), (3, vi (x)), (4, vi (f)), (5, vi (r)), (6, vi ((k : Int))), (7, vi ((k : Int)))] 121 [vi ((260 + 400 * (i : Int) + 4 * (k : Int))), .ref a] _ _
          refine j_iconst C dL_come_121 rfl ?_
          refine j_iadd C dL_come_122 rfl ?_
          refine j_iload 5 C dL_come_123 rfl rfl ?_
          refine j_iast C dL_come_125 rfl u23 ⟨by omega, by omega⟩ (by omega) (fun τ29 ee30 => ?_)
          have u31 : has τ29 a (iA (kc κ) 2700 (ups (ups (ups (ups (shj (260 + 400 * i) k m 0 g) (260 + 400 * (i : Int) + 4 * (k : Int)).toNat n) ((260 + 400 * (i : Int) + 4 * (k : Int)) + 1).toNat x) ((260 + 400 * (i : Int) + 4 * (k : Int)) + 2).toNat f) ((260 + 400 * (i : Int) + 4 * (k : Int)) + 3).toNat r)) := u23.self' ee30
          have kp32 := kp24.put ee30 rfl
          have dm33 := (dom_put ee30).trans dm25
          refine j_aload_n 0 C dL_come_126 rfl rfl rfl ?_
          refine j_bipush C dL_come_127 rfl (by decide) ?_
          refine j_iload_n 1 C dL_come_129 rfl rfl rfl ?_
          refine j_iadd C dL_come_130 rfl ?_
          refine j_dup2 C dL_come_131 rfl rfl rfl ?_
          obtain ⟨y34, hy34⟩ : ∃ y : Int, (ups (ups (ups (ups (shj (260 + 400 * i) k m 0 g) (260 + 400 * (i : Int) + 4 * (k : Int)).toNat n) ((260 + 400 * (i : Int) + 4 * (k : Int)) + 1).toNat x) ((260 + 400 * (i : Int) + 4 * (k : Int)) + 2).toNat f) ((260 + 400 * (i : Int) + 4 * (k : Int)) + 3).toNat r) (30 + (i : Int)).toNat = y := ⟨_, rfl⟩
          refine j_iald C dL_come_132 rfl u31 ⟨by omega, by omega⟩ (by omega) hy34 ?_
          refine j_iconst C dL_come_133 rfl ?_
          refine j_iadd C dL_come_134 rfl ?_
          refine j_iast C dL_come_135 rfl u31 ⟨by omega, by omega⟩ (by omega) (fun τ35 ee36 => ?_)
          have u37 : has τ35 a (iA (kc κ) 2700 (ups (ups (ups (ups (ups (shj (260 + 400 * i) k m 0 g) (260 + 400 * (i : Int) + 4 * (k : Int)).toNat n) ((260 + 400 * (i : Int) + 4 * (k : Int)) + 1).toNat x) ((260 + 400 * (i : Int) + 4 * (k : Int)) + 2).toNat f) ((260 + 400 * (i : Int) + 4 * (k : Int)) + 3).toNat r) (30 + (i : Int)).toNat (y34 + 1))) := u31.self' ee36
          have kp38 := kp32.put ee36 rfl
          have dm39 := (dom_put ee36).trans dm33
          obtain ⟨G9, hG9⟩ : ∃ G : Nat → Int, (ups (ups (ups (ups (ups (shj (260 + 400 * i) k m 0 g) (260 + 400 * (i : Int) + 4 * (k : Int)).toNat n) ((260 + 400 * (i : Int) + 4 * (k : Int)) + 1).toNat x) ((260 + 400 * (i : Int) + 4 * (k : Int)) + 2).toNat f) ((260 + 400 * (i : Int) + 4 * (k : Int)) + 3).toNat r) (30 + (i : Int)).toNat (y34 + 1)) = G := ⟨_, rfl⟩
          have hAA := u37
          rw [hG9] at hAA
          have hcn := come_net (G := G9) hNt hi (by omega) hp (x := (n, x, f, r)) hx (by rw [hm, ← hG9]; exact (ups_u (by omega)).trans (by rw [← hy34, ups_n (by omega), ups_n (by omega), ups_n (by omega), ups_n (by omega)]; unfold shj; rw [if_neg (by omega), show (30 + (i : Int)).toNat = 30 + i by omega, hnm])) (rowN_4 (by rw [← hG9, ups_n (by omega), ups_n (by omega), ups_n (by omega), ups_n (by omega)]; exact ups_u (by omega)) (by rw [← hG9, ups_n (by omega), ups_n (by omega), ups_n (by omega)]; exact ups_u (by omega)) (by rw [← hG9, ups_n (by omega), ups_n (by omega)]; exact ups_u (by omega)) (by rw [← hG9, ups_n (by omega)]; exact ups_u (by omega))) (fun q hq1 hq2 => by rw [hm, ← hG9, ups_n (by omega), ups_n (by omega), ups_n (by omega), ups_n (by omega), ups_n (by omega)])
          exact j_vret C E dL_come_136 (by omega) (by omega) ⟨rfl, G9, hAA, hcn.1, hcn.2, kp38, dm39⟩
        · refine j_iconst C dL_come_37 rfl ?_
          refine j_istore (lv' := [(0, .ref a), (1, vi ((i : Int))), (2, vi (n)), (3, vi (x)), (4, vi (f)), (5, vi (r)), (6, vi ((p : Int))), (7, vi ((k : Int))), (8, vi (0))]) [1, 2, 3, 4, 5, 6, 7, 8, 0] C dL_come_38 rfl rfl rfl ?_
          have lp2 : ∀ (N : Nat) (j : Nat) (σ2 : Wd), has σ2 a (iA (kc κ) 2700 (shj (260 + 400 * i) k m j g)) → j ≤ 4 → Keep σ σ2 (fun y => y = a) → σ2.1 = σ.1 → (5 - j) < N → J κ σ2 [(0, .ref a), (1, vi ((i : Int))), (2, vi (n)), (3, vi (x)), (4, vi (f)), (5, vi (r)), (6, vi ((p : Int))), (7, vi ((k : Int))), (8, vi ((j : Int)))] 40 [] 0 0 := by
            intro N2
            induction N2 with
            | zero => intro j σ2 hG2 hj hk2 hd2 hN2; exact absurd hN2 (Nat.not_lt_zero _)
            | succ N2 ih2 =>
              intro j σ2 hG2 hj hk2 hd2 hN2
              refine j_iload 8 C dL_come_40 rfl rfl ?_
              refine j_iconst C dL_come_42 rfl ?_
              refine j_icmp_ge (tgt := 76) C dL_come_43 rfl rfl ⟨by omega, by omega⟩ ⟨by omega, by omega⟩ (fun cc40 => ?_) (fun cc40 => ?_)
              · refine j_locals (lv' := [(0, .ref a), (1, vi ((i : Int))), (2, vi (n)), (3, vi (x)), (4, vi (f)), (5, vi (r)), (6, vi ((p : Int))), (7, vi ((k : Int)))]) [0, 1, 2, 3, 4, 5, 6, 7] rfl ?_
                have hj4 : j = 4 := by omega
                subst hj4
                obtain ⟨k9, rfl⟩ : ∃ k9, k = k9 + 1 := ⟨k - 1, by omega⟩
                rw [shj_4 g (by omega)] at hG2
                refine j_iinc (y := ((k9 + 1 : Nat) : Int) + (-1)) (lv' := [(0, .ref a), (1, vi ((i : Int))), (2, vi (n)), (3, vi (x)), (4, vi (f)), (5, vi (r)), (6, vi ((p : Int))), (7, vi (((k9 + 1 : Nat) : Int) + (-1)))]) 7 [1, 2, 3, 4, 5, 6, 7, 0] C dL_come_76 rfl rfl rfl rfl rfl ?_
                refine j_goto (tgt := 30) C dL_come_79 rfl ?_
                refine j_locals (lv' := [(0, .ref a), (1, vi ((i : Int))), (2, vi (n)), (3, vi (x)), (4, vi (f)), (5, vi (r)), (6, vi ((p : Int))), (7, vi ((k9 : Int)))]) [0, 1, 2, 3, 4, 5, 6, 7] (by rw [show ((k9 + 1 : Nat) : Int) + (-1) = (k9 : Int) by omega]; rfl) ?_
                exact ih k9 σ2 hG2 (by omega) hk2 hd2 (by omega)
              · refine j_aload_n 0 C dL_come_46 rfl rfl rfl ?_
                refine j_iload_n 1 C dL_come_47 rfl rfl rfl ?_
                refine j_iload 7 C dL_come_48 rfl rfl ?_
                refine j_callS (st' := [.ref a]) (As := [vi ((i : Int)), vi ((k : Int))]) C dL_come_50 rfl m_L_102 rfl rfl (c_at (kL κ) hfl (kD κ) (kc κ) σ2 (i : Int) (k : Int)) rfl (by omega) (by omega) (by omega) (fun _ _ hx => hx.elim) (fun v42 τ41 hp43 => ?_)
                obtain ⟨rfl, hs9⟩ := hp43
                replace hs9 := hs9.symm
                subst hs9
                show J κ σ2 [(0, .ref a), (1, vi ((i : Int))), (2, vi (n)), (3, vi (x)), (4, vi (f)), (5, vi (r)), (6, vi ((p : Int))), (7, vi ((k : Int))), (8, vi ((j : Int)))] 53 [vi ((260 + 400 * (i : Int) + 4 * (k : Int))), .ref a] _ _
                refine j_iload 8 C dL_come_53 rfl rfl ?_
                refine j_iadd C dL_come_55 rfl ?_
                refine j_aload_n 0 C dL_come_56 rfl rfl rfl ?_
                refine j_iload_n 1 C dL_come_57 rfl rfl rfl ?_
                refine j_iload 7 C dL_come_58 rfl rfl ?_
                refine j_iconst C dL_come_60 rfl ?_
                refine j_isub C dL_come_61 rfl ?_
                refine j_callS (st' := [.ref a, vi ((260 + 400 * (i : Int) + 4 * (k : Int)) + (j : Int)), .ref a]) (As := [vi ((i : Int)), vi ((k : Int) - 1)]) C dL_come_62 rfl m_L_102 rfl rfl (c_at (kL κ) hfl (kD κ) (kc κ) σ2 (i : Int) ((k : Int) - 1)) rfl (by omega) (by omega) (by omega) (fun _ _ hx => hx.elim) (fun v45 τ44 hp46 => ?_)
                obtain ⟨rfl, hs9⟩ := hp46
                replace hs9 := hs9.symm
                subst hs9
                show J κ σ2 [(0, .ref a), (1, vi ((i : Int))), (2, vi (n)), (3, vi (x)), (4, vi (f)), (5, vi (r)), (6, vi ((p : Int))), (7, vi ((k : Int))), (8, vi ((j : Int)))] 65 [vi ((260 + 400 * (i : Int) + 4 * ((k : Int) - 1))), .ref a, vi ((260 + 400 * (i : Int) + 4 * (k : Int)) + (j : Int)), .ref a] _ _
                refine j_iload 8 C dL_come_65 rfl rfl ?_
                refine j_iadd C dL_come_67 rfl ?_
                obtain ⟨y47, hy47⟩ : ∃ y : Int, (shj (260 + 400 * i) k m j g) ((260 + 400 * (i : Int) + 4 * ((k : Int) - 1)) + (j : Int)).toNat = y := ⟨_, rfl⟩
                refine j_iald C dL_come_68 rfl hG2 ⟨by omega, by omega⟩ (by omega) hy47 ?_
                refine j_iast C dL_come_69 rfl hG2 ⟨by omega, by omega⟩ (by omega) (fun τ48 ee49 => ?_)
                have u50 : has τ48 a (iA (kc κ) 2700 (ups (shj (260 + 400 * i) k m j g) ((260 + 400 * (i : Int) + 4 * (k : Int)) + (j : Int)).toNat y47)) := hG2.self' ee49
                have kp51 := hk2.put ee49 rfl
                have dm52 := (dom_put ee49).trans hd2
                refine j_iinc (y := (j : Int) + 1) (lv' := [(0, .ref a), (1, vi ((i : Int))), (2, vi (n)), (3, vi (x)), (4, vi (f)), (5, vi (r)), (6, vi ((p : Int))), (7, vi ((k : Int))), (8, vi ((j : Int) + 1))]) 8 [1, 2, 3, 4, 5, 6, 7, 8, 0] C dL_come_70 rfl rfl rfl rfl rfl ?_
                refine j_goto (tgt := 40) C dL_come_73 rfl ?_
                have hst := shj_step (A := 260 + 400 * i) (k := k) (m := m) (j := j) (g := g) (z1 := (260 + 400 * (i : Int) + 4 * (k : Int)) + (j : Int)) (z2 := (260 + 400 * (i : Int) + 4 * ((k : Int) - 1)) + (j : Int)) ⟨by omega, by omega⟩ (by omega) (by omega) (by omega) hy47
                have hG3 := u50
                rw [hst] at hG3
                exact ih2 (j + 1) τ48 hG3 (by omega) kp51 dm52 (by omega)
          exact lp2 _ 0 σ1 hG (by omega) hk1 hd1 (Nat.lt_succ_self _)
    exact lp _ m σ (by rw [shj_0]; exact hA) ⟨hpm, Nat.le_refl _⟩ Keep.rf rfl (Nat.lt_succ_self _)
  refine j_aload_n 0 C dL_come_0 rfl rfl rfl ?_
  refine j_bipush C dL_come_1 rfl (by decide) ?_
  refine j_iload_n 1 C dL_come_3 rfl rfl rfl ?_
  refine j_iadd C dL_come_4 rfl ?_
  refine j_iald C dL_come_5 rfl hA ⟨by omega, by omega⟩ (by omega) ((congrArg g (show (20 + (i : Int)).toNat = 20 + i by omega)).trans hmz) ?_
  refine j_iconst C dL_come_6 rfl ?_
  refine j_icmp_ne (tgt := 19) C dL_come_7 rfl rfl ⟨by omega, by omega⟩ ⟨by omega, by omega⟩ (fun cc53 => ?_) (fun cc53 => ?_)
  · refine j_iconst C dL_come_19 rfl ?_
    exact main 0 (Nat.zero_le _) (by rw [if_neg (hmi.elim (fun z => by rw [z.2]; exact Bool.false_ne_true) (fun z => by omega))])
  · refine j_aload_n 0 C dL_come_10 rfl rfl rfl ?_
    refine j_bipush C dL_come_11 rfl (by decide) ?_
    refine j_iload_n 1 C dL_come_13 rfl rfl rfl ?_
    refine j_iadd C dL_come_14 rfl ?_
    refine j_iald C dL_come_15 rfl hA ⟨by omega, by omega⟩ (by omega) ((congrArg g (show (30 + (i : Int)).toNat = 30 + i by omega)).trans hnm) ?_
    refine j_goto (tgt := 20) C dL_come_16 rfl ?_
    exact main m (Nat.le_refl _) (by rw [if_pos (hmi.elim (fun z => by omega) (fun z => z.2)), hm])
set_option maxHeartbeats 4000000 in
set_option maxRecDepth 20000 in
theorem c_dropFirst (l : Launch) (hfl : l.stackTraces = false) (D : va_G) (cy : Nat → Nat) (σ : Wd) (a : Nat) (g : Nat → Int) (hA : has σ a (iA cy 2700 g)) (i : Nat) (hi : i < 6) (m p : Nat) (hm : g (30 + i) = (m : Int) + 1) (hp : p ≤ m ∧ m ≤ 90) : Ct l yL_dropFirst cL_dropFirst 4 none 1 0 0 D cy [.ref a, vi ((i : Int)), vi ((p : Int))] σ (fun v σ' => v = none ∧ has σ' a (iA cy 2700 (drp (260 + 400 * i + 4 * p) (260 + 400 * i + 4 * m) (ups g (30 + i) (m : Int)))) ∧ Keep σ σ' (fun y => y = a) ∧ σ'.1 = σ.1) noX := by
  refine ct_start (by decide +kernel) hfl rfl (fun κ e1 e2 e3 C E NH => ?_)
  subst e1 e2 e3
  have C : Cx κ cL_dropFirst 4 RL "dropFirst" 1 := C
  obtain ⟨-, -, -, -, hc, hs⟩ := id E
  show J κ σ [(0, .ref a), (1, vi ((i : Int))), (2, vi ((p : Int)))] 0 [] 0 0
  have kp0 : Keep σ σ (fun y => y = a) := Keep.rf
  have dm0 : σ.1 = σ.1 := rfl
  refine j_aload_n 0 C dL_dropFirst_0 rfl rfl rfl ?_
  refine j_bipush C dL_dropFirst_1 rfl (by decide) ?_
  refine j_iload_n 1 C dL_dropFirst_3 rfl rfl rfl ?_
  refine j_iadd C dL_dropFirst_4 rfl ?_
  refine j_dup2 C dL_dropFirst_5 rfl rfl rfl ?_
  refine j_iald C dL_dropFirst_6 rfl hA ⟨by omega, by omega⟩ (by omega) ((congrArg g (show (30 + (i : Int)).toNat = 30 + i by omega)).trans hm) ?_
  refine j_iconst C dL_dropFirst_7 rfl ?_
  refine j_isub C dL_dropFirst_8 rfl ?_
  refine j_iast C dL_dropFirst_9 rfl hA ⟨by omega, by omega⟩ (by omega) (fun τ1 ee2 => ?_)
  have u3 : has τ1 a (iA (kc κ) 2700 (ups g (30 + (i : Int)).toNat (((m : Int) + 1) - 1))) := hA.self' ee2
  have kp4 := kp0.put ee2 rfl
  have dm5 := (dom_put ee2).trans dm0
  refine j_iload_n 1 C dL_dropFirst_10 rfl rfl rfl ?_
  refine j_iload_n 2 C dL_dropFirst_11 rfl rfl rfl ?_
  refine j_callS (st' := []) (As := [vi ((i : Int)), vi ((p : Int))]) C dL_dropFirst_12 rfl m_L_102 rfl rfl (c_at (kL κ) hfl (kD κ) (kc κ) τ1 (i : Int) (p : Int)) rfl (by omega) (by omega) (by omega) (fun _ _ hx => hx.elim) (fun v7 τ6 hp8 => ?_)
  obtain ⟨rfl, hs9⟩ := hp8
  replace hs9 := hs9.symm
  subst hs9
  show J κ τ1 [(0, .ref a), (1, vi ((i : Int))), (2, vi ((p : Int)))] 15 [vi ((260 + 400 * (i : Int) + 4 * (p : Int)))] _ _
  refine j_istore_n (lv' := [(0, .ref a), (1, vi ((i : Int))), (2, vi ((p : Int))), (3, vi ((260 + 400 * (i : Int) + 4 * (p : Int))))]) [1, 2, 3, 0] C dL_dropFirst_15 rfl rfl rfl rfl ?_
  have hA1 := u3
  rw [show ((m : Int) + 1) - 1 = (m : Int) by omega, show (30 + (i : Int)).toNat = 30 + i by omega] at hA1
  have lp : ∀ (N : Nat) (k : Nat) (σ1 : Wd), has σ1 a (iA (kc κ) 2700 (drp (260 + 400 * i + 4 * p) k (ups g (30 + i) (m : Int)))) → 260 + 400 * i + 4 * p ≤ k ∧ k ≤ 260 + 400 * i + 4 * m → Keep σ σ1 (fun y => y = a) → σ1.1 = σ.1 → (260 + 400 * i + 4 * m + 1 - k) < N → J κ σ1 [(0, .ref a), (1, vi ((i : Int))), (2, vi ((p : Int))), (3, vi ((k : Int)))] 16 [] 0 0 := by
    intro N
    induction N with
    | zero => intro k σ1 hG hk hk1 hd1 hN; exact absurd hN (Nat.not_lt_zero _)
    | succ N ih =>
      intro k σ1 hG hk hk1 hd1 hN
      refine j_iload_n 3 C dL_dropFirst_16 rfl rfl rfl ?_
      refine j_iload_n 1 C dL_dropFirst_17 rfl rfl rfl ?_
      refine j_aload_n 0 C dL_dropFirst_18 rfl rfl rfl ?_
      refine j_bipush C dL_dropFirst_19 rfl (by decide) ?_
      refine j_iload_n 1 C dL_dropFirst_21 rfl rfl rfl ?_
      refine j_iadd C dL_dropFirst_22 rfl ?_
      refine j_iald C dL_dropFirst_23 rfl hG ⟨by omega, by omega⟩ (by omega) (show _ = (m : Int) by unfold drp; rw [if_neg (by omega)]; exact ups_u (by omega)) ?_
      refine j_callS (st' := [vi ((k : Int))]) (As := [vi ((i : Int)), vi ((m : Int))]) C dL_dropFirst_24 rfl m_L_102 rfl rfl (c_at (kL κ) hfl (kD κ) (kc κ) σ1 (i : Int) (m : Int)) rfl (by omega) (by omega) (by omega) (fun _ _ hx => hx.elim) (fun v10 τ9 hp11 => ?_)
      obtain ⟨rfl, hs9⟩ := hp11
      replace hs9 := hs9.symm
      subst hs9
      show J κ σ1 [(0, .ref a), (1, vi ((i : Int))), (2, vi ((p : Int))), (3, vi ((k : Int)))] 27 [vi ((260 + 400 * (i : Int) + 4 * (m : Int))), vi ((k : Int))] _ _
      refine j_icmp_ge (tgt := 44) C dL_dropFirst_27 rfl rfl ⟨by omega, by omega⟩ ⟨by omega, by omega⟩ (fun cc12 => ?_) (fun cc12 => ?_)
      · have hkm : k = 260 + 400 * i + 4 * m := by omega
        subst hkm
        exact j_vret C E dL_dropFirst_44 (by omega) (by omega) ⟨rfl, hG, hk1, hd1⟩
      · refine j_aload_n 0 C dL_dropFirst_30 rfl rfl rfl ?_
        refine j_iload_n 3 C dL_dropFirst_31 rfl rfl rfl ?_
        refine j_aload_n 0 C dL_dropFirst_32 rfl rfl rfl ?_
        refine j_iload_n 3 C dL_dropFirst_33 rfl rfl rfl ?_
        refine j_iconst C dL_dropFirst_34 rfl ?_
        refine j_iadd C dL_dropFirst_35 rfl ?_
        obtain ⟨y13, hy13⟩ : ∃ y : Int, (drp (260 + 400 * i + 4 * p) k (ups g (30 + i) (m : Int))) ((k : Int) + 4).toNat = y := ⟨_, rfl⟩
        refine j_iald C dL_dropFirst_36 rfl hG ⟨by omega, by omega⟩ (by omega) hy13 ?_
        refine j_iast C dL_dropFirst_37 rfl hG ⟨by omega, by omega⟩ (by omega) (fun τ14 ee15 => ?_)
        have u16 : has τ14 a (iA (kc κ) 2700 (ups (drp (260 + 400 * i + 4 * p) k (ups g (30 + i) (m : Int))) (k : Int).toNat y13)) := hG.self' ee15
        have kp17 := hk1.put ee15 rfl
        have dm18 := (dom_put ee15).trans hd1
        refine j_iinc (y := (k : Int) + 1) (lv' := [(0, .ref a), (1, vi ((i : Int))), (2, vi ((p : Int))), (3, vi ((k : Int) + 1))]) 3 [1, 2, 3, 0] C dL_dropFirst_38 rfl rfl rfl rfl rfl ?_
        refine j_goto (tgt := 16) C dL_dropFirst_41 rfl ?_
        have hst := drp_step (A := 260 + 400 * i + 4 * p) (k := k) (g := ups g (30 + i) (m : Int)) (z1 := (k : Int)) (z2 := (k : Int) + 4) (by omega) (by omega) (by omega) hy13
        have hG3 := u16
        rw [hst] at hG3
        exact ih (k + 1) τ14 hG3 (by omega) kp17 dm18 (by omega)
  refine j_locals (lv' := [(0, .ref a), (1, vi ((i : Int))), (2, vi ((p : Int))), (3, vi (((260 + 400 * i + 4 * p : Nat) : Int)))]) [0, 1, 2, 3] (by rw [show ((260 + 400 * i + 4 * p : Nat) : Int) = 260 + 400 * (i : Int) + 4 * (p : Int) by omega]; rfl) ?_
  exact lp _ (260 + 400 * i + 4 * p) τ1 (by rw [drp_0]; exact hA1) ⟨Nat.le_refl _, by omega⟩ kp4 dm5 (Nat.lt_succ_self _)
