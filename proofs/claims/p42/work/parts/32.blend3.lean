/-! GrainElevator: selling a blend, the search by trying -/
set_option maxHeartbeats 4000000 in
set_option maxRecDepth 20000 in
theorem c_goodBlendB0 (l : Launch) (hfl : l.stackTraces = false) (D : va_G) (cy : Nat → Nat) (σ : Wd) (tg ad : Nat → Nat) (bs : List Bn) (ru : Nat → Int × Int) (se : Int) (pf : Nat → Int) (hd : Hd) (ca : Int) (evs : List Evt) (ln : List Int) (hX0 : RX cy σ tg ad bs ru se pf hd ca evs ln) (a b : Int) (ha9 : (-2147483648 ≤ a ∧ a < 2147483648)) (hb9 : (-2147483648 ≤ b ∧ b < 2147483648)) (n x : Int) (hn9 : (-2147483648 ≤ n ∧ n < 2147483648)) (hx8 : (-2147483648 ≤ x ∧ x < 2147483648)) (h : ¬ ((0 ≤ a ∧ a < (bs.length : Int)) ∧ (0 ≤ b ∧ b < (bs.length : Int)))) : Ct l yX6_goodBlend cX6_goodBlend 6 (some (.object "GrainElevator$Blend")) 6 1 6 D cy [.ref (ad 0), vi (a), vi (b), vi (n), vi (x)] σ (fun v σ' => False) (fun E9 σ' => E9 = "java/lang/IndexOutOfBoundsException" ∧ σ' = σ) := by
  refine ct_start (by decide +kernel) hfl rfl (fun κ e1 e2 e3 C E NH => ?_)
  subst e1 e2 e3
  have C : Cx κ cX6_goodBlend 6 RX6 "goodBlend" 6 := C
  obtain ⟨-, -, -, -, hc, hs⟩ := id E
  show J κ σ [(0, .ref (ad 0)), (1, vi (a)), (2, vi (b)), (3, vi (n)), (4, vi (x))] 0 [] 0 0
  have hXX := hX0
  obtain ⟨⟨x1, x2⟩, hB, ⟨bsA, hA, hAe⟩, hEv, hX, hO⟩ := hXX
  obtain ⟨⟨hR, t7, t8, t9⟩, ⟨hPr, t10⟩, ⟨hH, t11, t12⟩, cap0, hSb, t13, t14⟩ := id hX
  have hL1 := hB.1.1
  have hL5 := hEv.1.1
  have hbl := bins_len ad 100 bs.length
  have hel9 := evl_len ad evs.length
  have h6 := hB.2.1
  obtain ⟨⟨hc1, hc2⟩, hc3, hc4⟩ := hO.2.2.2.1
  have hev80 := hO.2.2.1.2
  have hpr := hO.2.2.2.2.1
  have hRo := hR.1
  have hHo := hH.1
  obtain ⟨ml0, g0, hSc, -⟩ := id hSb
  have hSo := hSc.1
  have hTb := totB_in hO.2.1
  obtain ⟨m91, hl91, -⟩ := id hL1
  obtain ⟨m92, hl92, -⟩ := id hL5
  refine j_aload_n 0 C dX6_goodBlend_0 rfl rfl rfl ?_
  refine j_iload_n 1 C dX6_goodBlend_1 rfl rfl rfl ?_
  refine j_iload_n 2 C dX6_goodBlend_2 rfl rfl rfl ?_
  refine j_iload_n 3 C dX6_goodBlend_3 rfl rfl rfl ?_
  refine j_iload 4 C dX6_goodBlend_4 rfl rfl ?_
  refine j_callV (st' := []) (As := [vi (a), vi (b), vi (n), vi (x)]) C dX6_goodBlend_6 rfl m_X6_205 x1 rfl rfl rfl (c_cbB0 (kL κ) hfl (kD κ) (kc κ) σ tg ad bs ru se pf hd ca evs ln hX0 a b ha9 hb9 n x hn9 hx8 h) rfl (by omega) (by omega) (by omega) (fun E9 σ9 hx => jx_out C E NH (by omega) (by omega) hx) (fun v2 τ1 hp3 => ?_)
  exact hp3.elim
set_option maxHeartbeats 4000000 in
set_option maxRecDepth 20000 in
theorem c_goodBlendB1 (l : Launch) (hfl : l.stackTraces = false) (D : va_G) (cy : Nat → Nat) (σ : Wd) (tg ad : Nat → Nat) (bs : List Bn) (ru : Nat → Int × Int) (se : Int) (pf : Nat → Int) (hd : Hd) (ca : Int) (evs : List Evt) (ln : List Int) (hX0 : RX cy σ tg ad bs ru se pf hd ca evs ln) (i : Nat) (hi : i < bs.length) (j : Nat) (hj : j < bs.length) (n x : Int) (hn9 : (-2147483648 ≤ n ∧ n < 2147483648)) (hx8 : (-2147483648 ≤ x ∧ x < 2147483648)) (h : ¬ (i ≠ j ∧ (1 ≤ n ∧ n ≤ 500) ∧ (80 ≤ x ∧ x ≤ 300))) : Ct l yX6_goodBlend cX6_goodBlend 6 (some (.object "GrainElevator$Blend")) 6 1 6 D cy [.ref (ad 0), vi ((i : Int)), vi ((j : Int)), vi (n), vi (x)] σ (fun v σ' => False) (fun E9 σ' => E9 = "java/lang/IllegalArgumentException" ∧ σ' = σ) := by
  refine ct_start (by decide +kernel) hfl rfl (fun κ e1 e2 e3 C E NH => ?_)
  subst e1 e2 e3
  have C : Cx κ cX6_goodBlend 6 RX6 "goodBlend" 6 := C
  obtain ⟨-, -, -, -, hc, hs⟩ := id E
  show J κ σ [(0, .ref (ad 0)), (1, vi ((i : Int))), (2, vi ((j : Int))), (3, vi (n)), (4, vi (x))] 0 [] 0 0
  have hXX := hX0
  obtain ⟨⟨x1, x2⟩, hB, ⟨bsA, hA, hAe⟩, hEv, hX, hO⟩ := hXX
  obtain ⟨⟨hR, t7, t8, t9⟩, ⟨hPr, t10⟩, ⟨hH, t11, t12⟩, cap0, hSb, t13, t14⟩ := id hX
  have hL1 := hB.1.1
  have hL5 := hEv.1.1
  have hbl := bins_len ad 100 bs.length
  have hel9 := evl_len ad evs.length
  have h6 := hB.2.1
  obtain ⟨⟨hc1, hc2⟩, hc3, hc4⟩ := hO.2.2.2.1
  have hev80 := hO.2.2.1.2
  have hpr := hO.2.2.2.2.1
  have hRo := hR.1
  have hHo := hH.1
  obtain ⟨ml0, g0, hSc, -⟩ := id hSb
  have hSo := hSc.1
  have hTb := totB_in hO.2.1
  obtain ⟨m91, hl91, -⟩ := id hL1
  obtain ⟨m92, hl92, -⟩ := id hL5
  refine j_aload_n 0 C dX6_goodBlend_0 rfl rfl rfl ?_
  refine j_iload_n 1 C dX6_goodBlend_1 rfl rfl rfl ?_
  refine j_iload_n 2 C dX6_goodBlend_2 rfl rfl rfl ?_
  refine j_iload_n 3 C dX6_goodBlend_3 rfl rfl rfl ?_
  refine j_iload 4 C dX6_goodBlend_4 rfl rfl ?_
  refine j_callV (st' := []) (As := [vi ((i : Int)), vi ((j : Int)), vi (n), vi (x)]) C dX6_goodBlend_6 rfl m_X6_205 x1 rfl rfl rfl (c_cbB1 (kL κ) hfl (kD κ) (kc κ) σ tg ad bs ru se pf hd ca evs ln hX0 i hi j hj n x hn9 hx8 h) rfl (by omega) (by omega) (by omega) (fun E9 σ9 hx => jx_out C E NH (by omega) (by omega) hx) (fun v2 τ1 hp3 => ?_)
  exact hp3.elim
set_option maxHeartbeats 4000000 in
set_option maxRecDepth 20000 in
theorem c_sellBlendB0 (l : Launch) (hfl : l.stackTraces = false) (D : va_G) (cy : Nat → Nat) (σ : Wd) (tg ad : Nat → Nat) (bs : List Bn) (ru : Nat → Int × Int) (se : Int) (pf : Nat → Int) (hd : Hd) (ca : Int) (evs : List Evt) (ln : List Int) (hX0 : RX cy σ tg ad bs ru se pf hd ca evs ln) (a b : Int) (ha9 : (-2147483648 ≤ a ∧ a < 2147483648)) (hb9 : (-2147483648 ≤ b ∧ b < 2147483648)) (n x : Int) (hn9 : (-2147483648 ≤ n ∧ n < 2147483648)) (hx8 : (-2147483648 ≤ x ∧ x < 2147483648)) (h : ¬ ((0 ≤ a ∧ a < (bs.length : Int)) ∧ (0 ≤ b ∧ b < (bs.length : Int)))) : Ct l yX6_sellBlend cX6_sellBlend 8 (some .int) 7 1 6 D cy [.ref (ad 0), vi (a), vi (b), vi (n), vi (x)] σ (fun v σ' => False) (fun E9 σ' => E9 = "java/lang/IndexOutOfBoundsException" ∧ σ' = σ) := by
  refine ct_start (by decide +kernel) hfl rfl (fun κ e1 e2 e3 C E NH => ?_)
  subst e1 e2 e3
  have C : Cx κ cX6_sellBlend 8 RX6 "sellBlend" 7 := C
  obtain ⟨-, -, -, -, hc, hs⟩ := id E
  show J κ σ [(0, .ref (ad 0)), (1, vi (a)), (2, vi (b)), (3, vi (n)), (4, vi (x))] 0 [] 0 0
  have hXX := hX0
  obtain ⟨⟨x1, x2⟩, hB, ⟨bsA, hA, hAe⟩, hEv, hX, hO⟩ := hXX
  obtain ⟨⟨hR, t7, t8, t9⟩, ⟨hPr, t10⟩, ⟨hH, t11, t12⟩, cap0, hSb, t13, t14⟩ := id hX
  have hL1 := hB.1.1
  have hL5 := hEv.1.1
  have hbl := bins_len ad 100 bs.length
  have hel9 := evl_len ad evs.length
  have h6 := hB.2.1
  obtain ⟨⟨hc1, hc2⟩, hc3, hc4⟩ := hO.2.2.2.1
  have hev80 := hO.2.2.1.2
  have hpr := hO.2.2.2.2.1
  have hRo := hR.1
  have hHo := hH.1
  obtain ⟨ml0, g0, hSc, -⟩ := id hSb
  have hSo := hSc.1
  have hTb := totB_in hO.2.1
  obtain ⟨m91, hl91, -⟩ := id hL1
  obtain ⟨m92, hl92, -⟩ := id hL5
  refine j_aload_n 0 C dX6_sellBlend_0 rfl rfl rfl ?_
  refine j_iload_n 1 C dX6_sellBlend_1 rfl rfl rfl ?_
  refine j_iload_n 2 C dX6_sellBlend_2 rfl rfl rfl ?_
  refine j_iload_n 3 C dX6_sellBlend_3 rfl rfl rfl ?_
  refine j_iload 4 C dX6_sellBlend_4 rfl rfl ?_
  refine j_callV (st' := []) (As := [vi (a), vi (b), vi (n), vi (x)]) C dX6_sellBlend_6 rfl m_X6_198 x1 rfl rfl rfl (c_goodBlendB0 (kL κ) hfl (kD κ) (kc κ) σ tg ad bs ru se pf hd ca evs ln hX0 a b ha9 hb9 n x hn9 hx8 h) rfl (by omega) (by omega) (by omega) (fun E9 σ9 hx => jx_out C E NH (by omega) (by omega) hx) (fun v2 τ1 hp3 => ?_)
  exact hp3.elim
set_option maxHeartbeats 4000000 in
set_option maxRecDepth 20000 in
theorem c_sellBlendB1 (l : Launch) (hfl : l.stackTraces = false) (D : va_G) (cy : Nat → Nat) (σ : Wd) (tg ad : Nat → Nat) (bs : List Bn) (ru : Nat → Int × Int) (se : Int) (pf : Nat → Int) (hd : Hd) (ca : Int) (evs : List Evt) (ln : List Int) (hX0 : RX cy σ tg ad bs ru se pf hd ca evs ln) (i : Nat) (hi : i < bs.length) (j : Nat) (hj : j < bs.length) (n x : Int) (hn9 : (-2147483648 ≤ n ∧ n < 2147483648)) (hx8 : (-2147483648 ≤ x ∧ x < 2147483648)) (h : ¬ (i ≠ j ∧ (1 ≤ n ∧ n ≤ 500) ∧ (80 ≤ x ∧ x ≤ 300))) : Ct l yX6_sellBlend cX6_sellBlend 8 (some .int) 7 1 6 D cy [.ref (ad 0), vi ((i : Int)), vi ((j : Int)), vi (n), vi (x)] σ (fun v σ' => False) (fun E9 σ' => E9 = "java/lang/IllegalArgumentException" ∧ σ' = σ) := by
  refine ct_start (by decide +kernel) hfl rfl (fun κ e1 e2 e3 C E NH => ?_)
  subst e1 e2 e3
  have C : Cx κ cX6_sellBlend 8 RX6 "sellBlend" 7 := C
  obtain ⟨-, -, -, -, hc, hs⟩ := id E
  show J κ σ [(0, .ref (ad 0)), (1, vi ((i : Int))), (2, vi ((j : Int))), (3, vi (n)), (4, vi (x))] 0 [] 0 0
  have hXX := hX0
  obtain ⟨⟨x1, x2⟩, hB, ⟨bsA, hA, hAe⟩, hEv, hX, hO⟩ := hXX
  obtain ⟨⟨hR, t7, t8, t9⟩, ⟨hPr, t10⟩, ⟨hH, t11, t12⟩, cap0, hSb, t13, t14⟩ := id hX
  have hL1 := hB.1.1
  have hL5 := hEv.1.1
  have hbl := bins_len ad 100 bs.length
  have hel9 := evl_len ad evs.length
  have h6 := hB.2.1
  obtain ⟨⟨hc1, hc2⟩, hc3, hc4⟩ := hO.2.2.2.1
  have hev80 := hO.2.2.1.2
  have hpr := hO.2.2.2.2.1
  have hRo := hR.1
  have hHo := hH.1
  obtain ⟨ml0, g0, hSc, -⟩ := id hSb
  have hSo := hSc.1
  have hTb := totB_in hO.2.1
  obtain ⟨m91, hl91, -⟩ := id hL1
  obtain ⟨m92, hl92, -⟩ := id hL5
  refine j_aload_n 0 C dX6_sellBlend_0 rfl rfl rfl ?_
  refine j_iload_n 1 C dX6_sellBlend_1 rfl rfl rfl ?_
  refine j_iload_n 2 C dX6_sellBlend_2 rfl rfl rfl ?_
  refine j_iload_n 3 C dX6_sellBlend_3 rfl rfl rfl ?_
  refine j_iload 4 C dX6_sellBlend_4 rfl rfl ?_
  refine j_callV (st' := []) (As := [vi ((i : Int)), vi ((j : Int)), vi (n), vi (x)]) C dX6_sellBlend_6 rfl m_X6_198 x1 rfl rfl rfl (c_goodBlendB1 (kL κ) hfl (kD κ) (kc κ) σ tg ad bs ru se pf hd ca evs ln hX0 i hi j hj n x hn9 hx8 h) rfl (by omega) (by omega) (by omega) (fun E9 σ9 hx => jx_out C E NH (by omega) (by omega) hx) (fun v2 τ1 hp3 => ?_)
  exact hp3.elim
theorem bestK_share (pf : Nat → Int) (L1 L2 : List Ly) (n mw lo : Int) : ∀ k, (bestK pf L1 L2 n mw lo k).1 = true → lo ≤ (bestK pf L1 L2 n mw lo k).2.1 ∧ (bestK pf L1 L2 n mw lo k).2.1 < lo + (k : Int)
  | 0 => fun h => absurd h (by simp [bestK])
  | k + 1 => fun h => by
    have ih := bestK_share pf L1 L2 n mw lo k
    unfold bestK offF at h ⊢
    split at h
    · rename_i hc
      rw [if_pos hc]
      show lo ≤ lo + (k : Int) ∧ lo + (k : Int) < lo + ((k + 1 : Nat) : Int)
      omega
    · rename_i hc
      rw [if_neg hc]
      have := ih h
      omega
theorem bestF_share {pf : Nat → Int} {L1 L2 : List Ly} {n mw : Int} (h1 : 0 ≤ tot L1) (h2 : 0 ≤ tot L2) (hn : 1 ≤ n) (h : (bestF pf L1 L2 n mw).1 = true) : (0 ≤ (bestF pf L1 L2 n mw).2.1 ∧ (bestF pf L1 L2 n mw).2.1 ≤ tot L1 ∧ (bestF pf L1 L2 n mw).2.1 ≤ n) ∧ n - (bestF pf L1 L2 n mw).2.1 ≤ tot L2 := by
  have h3 := bestK_share pf L1 L2 n mw (loS L2 n) _ h
  unfold bestF
  generalize (bestK pf L1 L2 n mw (loS L2 n) (hiS L1 n + 1 - loS L2 n).toNat).2.1 = z at h3
  have e1 : loS L2 n = max 0 (n - tot L2) := rfl
  have e2 : hiS L1 n = min (tot L1) n := rfl
  omega
theorem blend_ev {bs : List Bn} {ru : Nat → Int × Int} {se : Int} {pf : Nat → Int} {hd : Hd} {evs : List Evt} {ln : List Int} (h : Ok bs ru se pf hd evs ln) (hl : evs.length < 80) {i j : Nat} (hi : i < bs.length) (hj : j < bs.length) (hij : i ≠ j) {s r : Int} (hs : 0 ≤ s ∧ s ≤ tot (gB bs i).2.2) (hr : 0 ≤ r ∧ r ≤ tot (gB bs j).2.2) : evOk bs (98, (i : Int), (j : Int), s, r, 0, 0) ∧ apB (gradeF ru se) bs (98, (i : Int), (j : Int), s, r, 0, 0) = outB (outB bs i s) j r ∧ Ok (apB (gradeF ru se) bs (98, (i : Int), (j : Int), s, r, 0, 0)) ru se pf (hdF hd (totB (apB (gradeF ru se) bs (98, (i : Int), (j : Int), s, r, 0, 0)))) (evs ++ [(98, (i : Int), (j : Int), s, r, 0, 0)]) ln := by
  obtain ⟨b1, b2, b3⟩ := h.2.1 _ (gB_mem (bs := bs) (i := (i : Int)) (by omega) (by omega))
  obtain ⟨c1, c2, c3⟩ := h.2.1 _ (gB_mem (bs := bs) (i := (j : Int)) (by omega) (by omega))
  have hgo : gB (outB bs i s) j = gB bs j := by
    unfold outB
    rw [gB_set (by omega) (by omega) (by omega), if_neg (by omega)]
  have hev : evOk bs (98, (i : Int), (j : Int), s, r, 0, 0) := evOk.mk ⟨by omega, by omega⟩ ⟨by omega, by omega⟩ ⟨by omega, by omega⟩ ⟨by omega, by omega⟩ (fun c => absurd c (by decide)) (fun c => absurd c (by decide)) (fun c => absurd c (by decide)) (Or.inr (Or.inr (Or.inr (Or.inr rfl))))
  have ea : apB (gradeF ru se) bs (98, (i : Int), (j : Int), s, r, 0, 0) = outB (outB bs i s) j r := by
    unfold apB
    rw [if_neg (show ¬ (98 : Int) = 108 by decide), if_neg (show ¬ (98 : Int) = 116 by decide), if_neg (show ¬ (98 : Int) = 100 by decide)]
  refine ⟨hev, ea, h.ev hl hev _ ?_ ?_⟩
  · rw [ea]
    exact outB_ok (outB_ok h.2.1 (by omega) (by omega) hs.1 hs.2) (by omega) (by rw [outB_len]; omega) hr.1 (by rw [hgo]; exact hr.2)
  · rw [ea]
    have q1 := outB_lenB_le (bs := bs) (i := (i : Int)) (by omega) (by omega) s
    have q2 := outB_lenB_le (bs := outB bs i s) (i := (j : Int)) (by omega) (by rw [outB_len]; omega) r
    have h3 := h.2.2.1
    omega
set_option maxHeartbeats 8000000 in
set_option maxRecDepth 20000 in
theorem c_sellBlend (l : Launch) (hfl : l.stackTraces = false) (D : va_G) (cy : Nat → Nat) (σ : Wd) (tg ad : Nat → Nat) (bs : List Bn) (ru : Nat → Int × Int) (se : Int) (pf : Nat → Int) (hd : Hd) (ca : Int) (evs : List Evt) (ln : List Int) (hX0 : RX cy σ tg ad bs ru se pf hd ca evs ln) (i : Nat) (hi : i < bs.length) (j : Nat) (hj : j < bs.length) (hij : i ≠ j) (n x : Int) (hn9 : (-2147483648 ≤ n ∧ n < 2147483648)) (hx8 : (-2147483648 ≤ x ∧ x < 2147483648)) (hn : 1 ≤ n ∧ n ≤ 500) (hx9 : 80 ≤ x ∧ x ≤ 300) (hfound : (bestF pf (fl (gB bs i)) (fl (gB bs j)) n (n * x)).1 = true) (hl : evs.length < 80) : Ct l yX6_sellBlend cX6_sellBlend 8 (some .int) 7 7 288 D cy [.ref (ad 0), vi ((i : Int)), vi ((j : Int)), vi (n), vi (x)] σ (fun v σ' => v = some (vi (n * pf (gradeM ru se (fl (gB bs i)) (fl (gB bs j)) (bestF pf (fl (gB bs i)) (fl (gB bs j)) n (n * x)).2.1 (n - (bestF pf (fl (gB bs i)) (fl (gB bs j)) n (n * x)).2.1)).toNat)) ∧ ∃ tg' ad' : Nat → Nat, RX cy σ' tg' ad' (apB (gradeF ru se) bs (98, (i : Int), (j : Int), (bestF pf (fl (gB bs i)) (fl (gB bs j)) n (n * x)).2.1, n - (bestF pf (fl (gB bs i)) (fl (gB bs j)) n (n * x)).2.1, 0, 0)) ru se pf (hdF hd (totB (apB (gradeF ru se) bs (98, (i : Int), (j : Int), (bestF pf (fl (gB bs i)) (fl (gB bs j)) n (n * x)).2.1, n - (bestF pf (fl (gB bs i)) (fl (gB bs j)) n (n * x)).2.1, 0, 0)))) (ca + n * pf (gradeM ru se (fl (gB bs i)) (fl (gB bs j)) (bestF pf (fl (gB bs i)) (fl (gB bs j)) n (n * x)).2.1 (n - (bestF pf (fl (gB bs i)) (fl (gB bs j)) n (n * x)).2.1)).toNat) (evs ++ [(98, (i : Int), (j : Int), (bestF pf (fl (gB bs i)) (fl (gB bs j)) n (n * x)).2.1, n - (bestF pf (fl (gB bs i)) (fl (gB bs j)) n (n * x)).2.1, 0, 0)]) ln ∧ (∀ y, y ∈ σ.1 → tg' y = tg y) ∧ ad' 0 = ad 0 ∧ Keep σ σ' (fun y => tg y < 1000) ∧ ∀ y, y ∈ σ.1 → y ∈ σ'.1) noX := by
  refine ct_start (by decide +kernel) hfl rfl (fun κ e1 e2 e3 C E NH => ?_)
  subst e1 e2 e3
  have C : Cx κ cX6_sellBlend 8 RX6 "sellBlend" 7 := C
  obtain ⟨-, -, -, -, hc, hs⟩ := id E
  show J κ σ [(0, .ref (ad 0)), (1, vi ((i : Int))), (2, vi ((j : Int))), (3, vi (n)), (4, vi (x))] 0 [] 0 0
  have hXX := hX0
  obtain ⟨⟨x1, x2⟩, hB, ⟨bsA, hA, hAe⟩, hEv, hX, hO⟩ := hXX
  obtain ⟨⟨hR, t7, t8, t9⟩, ⟨hPr, t10⟩, ⟨hH, t11, t12⟩, cap0, hSb, t13, t14⟩ := id hX
  have hL1 := hB.1.1
  have hL5 := hEv.1.1
  have hbl := bins_len ad 100 bs.length
  have hel9 := evl_len ad evs.length
  have h6 := hB.2.1
  obtain ⟨⟨hc1, hc2⟩, hc3, hc4⟩ := hO.2.2.2.1
  have hev80 := hO.2.2.1.2
  have hpr := hO.2.2.2.2.1
  have hRo := hR.1
  have hHo := hH.1
  obtain ⟨ml0, g0, hSc, -⟩ := id hSb
  have hSo := hSc.1
  have hTb := totB_in hO.2.1
  obtain ⟨m91, hl91, -⟩ := id hL1
  obtain ⟨m92, hl92, -⟩ := id hL5
  obtain ⟨bb, hbb⟩ : ∃ z, bestF pf (fl (gB bs i)) (fl (gB bs j)) n (n * x) = z := ⟨_, rfl⟩
  have hmi := hO.2.1 _ (gB_mem (bs := bs) (i := (i : Int)) (by omega) (by omega))
  have hmj := hO.2.1 _ (gB_mem (bs := bs) (i := (j : Int)) (by omega) (by omega))
  have hti : tot (fl (gB bs i)) = tot (gB bs i).2.2 := sum_fl _ _
  have htj : tot (fl (gB bs j)) = tot (gB bs j).2.2 := sum_fl _ _
  have h0i := tot_0 hmi.2.1
  have h0j := tot_0 hmj.2.1
  have hsh := bestF_share (pf := pf) (mw := n * x) (L1 := fl (gB bs i)) (L2 := fl (gB bs j)) (n := n) (by omega) (by omega) hn.1 hfound
  have hfo := hfound
  rw [hbb] at hsh hfo E
  obtain ⟨bf, s, bc⟩ := bb
  dsimp only at hsh hfo E
  subst hfo
  obtain ⟨r, hr9⟩ : ∃ z, n - s = z := ⟨_, rfl⟩
  rw [hr9] at hsh E
  have hev5 := blend_ev hO hl hi hj hij (s := s) (r := r) ⟨by omega, by omega⟩ ⟨by omega, by omega⟩
  refine j_aload_n 0 C dX6_sellBlend_0 rfl rfl rfl ?_
  refine j_iload_n 1 C dX6_sellBlend_1 rfl rfl rfl ?_
  refine j_iload_n 2 C dX6_sellBlend_2 rfl rfl rfl ?_
  refine j_iload_n 3 C dX6_sellBlend_3 rfl rfl rfl ?_
  refine j_iload 4 C dX6_sellBlend_4 rfl rfl ?_
  refine j_callV (st' := []) (As := [vi ((i : Int)), vi ((j : Int)), vi (n), vi (x)]) C dX6_sellBlend_6 rfl m_X6_198 x1 rfl rfl rfl (c_goodBlend (kL κ) hfl (kD κ) (kc κ) σ tg ad bs ru se pf hd ca evs ln hX0 i hi j hj hij n x hn9 hx8 hn hx9 hfound) rfl (by omega) (by omega) (by omega) (fun _ _ hx => hx.elim) (fun v2 τ1 hp3 => ?_)
  obtain ⟨bl, rfl, hBl, hk1⟩ := hp3
  show J κ τ1 [(0, .ref (ad 0)), (1, vi ((i : Int))), (2, vi ((j : Int))), (3, vi (n)), (4, vi (x))] 9 [.ref bl] 3 17
  rw [hbb] at hBl
  have hXn := hX0.keep hk1 (fun _ _ z => z.elim)
  have hXX := hXn
  obtain ⟨⟨x1, x2⟩, hB, ⟨bsA, hA, hAe⟩, hEv, hX, hO⟩ := hXX
  obtain ⟨⟨hR, t7, t8, t9⟩, ⟨hPr, t10⟩, ⟨hH, t11, t12⟩, cap0, hSb, t13, t14⟩ := id hX
  have hL1 := hB.1.1
  have hL5 := hEv.1.1
  have hbl := bins_len ad 100 bs.length
  have hel9 := evl_len ad evs.length
  have h6 := hB.2.1
  obtain ⟨⟨hc1, hc2⟩, hc3, hc4⟩ := hO.2.2.2.1
  have hev80 := hO.2.2.1.2
  have hpr := hO.2.2.2.2.1
  have hRo := hR.1
  have hHo := hH.1
  obtain ⟨ml0, g0, hSc, -⟩ := id hSb
  have hSo := hSc.1
  have hTb := totB_in hO.2.1
  obtain ⟨m91, hl91, -⟩ := id hL1
  obtain ⟨m92, hl92, -⟩ := id hL5
  obtain ⟨⟨cap, mf, ly⟩, hg7⟩ : ∃ z, gB bs (i : Int) = z := ⟨_, rfl⟩
  have hb7 := hB.at hi hg7
  have hbk7 := hO.2.1 _ (gB_mem (bs := bs) (i := (i : Int)) (by omega) (by omega))
  rw [hg7] at hbk7
  obtain ⟨hcp7, hly7, htc7⟩ := hbk7
  dsimp only at hcp7 hly7 htc7
  have ht07 := tot_0 hly7
  obtain ⟨old7, ga7, gb7, gc7, gd7, ⟨hh7, -, -⟩, -, hcn7, -, hok7⟩ := id hb7
  dsimp only at hh7 hcn7 hok7
  obtain ⟨⟨cap', mf', lz⟩, hg8⟩ : ∃ z, gB bs (j : Int) = z := ⟨_, rfl⟩
  have hb8 := hB.at hj hg8
  have hbk8 := hO.2.1 _ (gB_mem (bs := bs) (i := (j : Int)) (by omega) (by omega))
  rw [hg8] at hbk8
  obtain ⟨hcp8, hly8, htc8⟩ := hbk8
  dsimp only at hcp8 hly8 htc8
  have ht08 := tot_0 hly8
  obtain ⟨old8, ga8, gb8, gc8, gd8, ⟨hh8, -, -⟩, -, hcn8, -, hok8⟩ := id hb8
  dsimp only at hh8 hcn8 hok8
  dsimp only [BlR] at hBl
  refine j_get C dX6_sellBlend_9 rfl fg_X6_217 hBl rfl ?_
  refine j_istore (lv' := [(0, .ref (ad 0)), (1, vi ((i : Int))), (2, vi ((j : Int))), (3, vi (n)), (4, vi (x)), (5, vi (s))]) [1, 2, 3, 4, 5, 0] C dX6_sellBlend_12 rfl rfl rfl ?_
  refine j_aload_n 0 C dX6_sellBlend_14 rfl rfl rfl ?_
  refine j_callV (st' := []) (As := []) C dX6_sellBlend_15 rfl m_X6_102 x1 rfl rfl rfl (c_ceG (kL κ) hfl (kD κ) (kc κ) τ1 (ad 0) (ad 1) (ad 3) (ad 5) (ad 7) (ad 10) (ad 11) (ad 13) ca x1 (ad 6) _ hL5 (by rw [hel9]; exact hl)) rfl (by omega) (by omega) (by omega) (fun _ _ hx => hx.elim) (fun v5 τ4 hp6 => ?_)
  obtain ⟨rfl, hs9⟩ := hp6
  replace hs9 := hs9.symm
  subst hs9
  show J κ τ1 [(0, .ref (ad 0)), (1, vi ((i : Int))), (2, vi ((j : Int))), (3, vi (n)), (4, vi (x)), (5, vi (s))] 18 [] _ _
  refine j_iload_n 3 C dX6_sellBlend_18 rfl rfl rfl ?_
  refine j_iload 5 C dX6_sellBlend_19 rfl rfl ?_
  refine j_isub C dX6_sellBlend_21 rfl ?_
  refine j_istore (lv' := [(0, .ref (ad 0)), (1, vi ((i : Int))), (2, vi ((j : Int))), (3, vi (n)), (4, vi (x)), (5, vi (s)), (6, vi (n - s))]) [1, 2, 3, 4, 5, 6, 0] C dX6_sellBlend_22 rfl rfl rfl ?_
  refine j_iload_n 3 C dX6_sellBlend_24 rfl rfl rfl ?_
  refine j_aload_n 0 C dX6_sellBlend_25 rfl rfl rfl ?_
  refine j_get C dX6_sellBlend_26 rfl fg_X6_29 x1 rfl ?_
  refine j_aload_n 0 C dX6_sellBlend_29 rfl rfl rfl ?_
  refine j_aload_n 0 C dX6_sellBlend_30 rfl rfl rfl ?_
  refine j_get C dX6_sellBlend_31 rfl fg_X6_12 x1 rfl ?_
  refine j_iload_n 1 C dX6_sellBlend_34 rfl rfl rfl ?_
  refine j_callS (st' := [.ref (ad 0), .ref (ad 10), vi (n)]) (As := [.ref (ad 1), vi ((i : Int))]) C dX6_sellBlend_35 rfl m_X6_75 rfl rfl (c_biG (kL κ) hfl (kD κ) (kc κ) τ1 (ad 1) (ad 2) _ hL1 i _ (bins_at hi) _ hh7) rfl (by omega) (by omega) (by omega) (fun _ _ hx => hx.elim) (fun v8 τ7 hp9 => ?_)
  obtain ⟨rfl, hs9⟩ := hp9
  replace hs9 := hs9.symm
  subst hs9
  show J κ τ1 [(0, .ref (ad 0)), (1, vi ((i : Int))), (2, vi ((j : Int))), (3, vi (n)), (4, vi (x)), (5, vi (s)), (6, vi (n - s))] 38 [.ref (bq ad 100 i 0), .ref (ad 0), .ref (ad 10), vi (n)] _ _
  refine j_aload_n 0 C dX6_sellBlend_38 rfl rfl rfl ?_
  refine j_get C dX6_sellBlend_39 rfl fg_X6_12 x1 rfl ?_
  refine j_iload_n 2 C dX6_sellBlend_42 rfl rfl rfl ?_
  refine j_callS (st' := [.ref (bq ad 100 i 0), .ref (ad 0), .ref (ad 10), vi (n)]) (As := [.ref (ad 1), vi ((j : Int))]) C dX6_sellBlend_43 rfl m_X6_75 rfl rfl (c_biG (kL κ) hfl (kD κ) (kc κ) τ1 (ad 1) (ad 2) _ hL1 j _ (bins_at hj) _ hh8) rfl (by omega) (by omega) (by omega) (fun _ _ hx => hx.elim) (fun v11 τ10 hp12 => ?_)
  obtain ⟨rfl, hs9⟩ := hp12
  replace hs9 := hs9.symm
  subst hs9
  show J κ τ1 [(0, .ref (ad 0)), (1, vi ((i : Int))), (2, vi ((j : Int))), (3, vi (n)), (4, vi (x)), (5, vi (s)), (6, vi (n - s))] 46 [.ref (bq ad 100 j 0), .ref (bq ad 100 i 0), .ref (ad 0), .ref (ad 10), vi (n)] _ _
  refine j_iload 5 C dX6_sellBlend_46 rfl rfl ?_
  refine j_iload 6 C dX6_sellBlend_48 rfl rfl ?_
  rw [hr9]
  refine j_callV (st' := [.ref (ad 10), vi (n)]) (As := [.ref (bq ad 100 i 0), .ref (bq ad 100 j 0), vi (s), vi (r)]) C dX6_sellBlend_50 rfl m_X6_220 x1 rfl rfl rfl (c_gradeOf (kL κ) hfl (kD κ) (kc κ) τ1 tg ad bs ru se pf hd ca evs ln hXn i hi j hj s r ⟨by omega, by omega⟩ ⟨by omega, by omega⟩ (by omega)) rfl (by omega) (by omega) (by omega) (fun _ _ hx => hx.elim) (fun v14 τ13 hp15 => ?_)
  obtain ⟨rfl, hk2⟩ := hp15
  obtain ⟨gm, hgm⟩ : ∃ z, gradeM ru se (fl (gB bs i)) (fl (gB bs j)) s r = z := ⟨_, rfl⟩
  have hgi : 1 ≤ gm ∧ gm ≤ 4 := by rw [← hgm]; exact gradeF_in _ _ _ _
  rw [hgm]
  rw [hgm] at E
  show J κ τ13 [(0, .ref (ad 0)), (1, vi ((i : Int))), (2, vi ((j : Int))), (3, vi (n)), (4, vi (x)), (5, vi (s)), (6, vi (r))] 53 [vi (gm), .ref (ad 10), vi (n)] 5 31
  have hXm := hXn.keep hk2 (fun _ _ z => z.elim)
  have x15 := hk2 _ _ x1 (fun z => z)
  have hP15 := hk2 _ _ hPr (fun z => z)
  obtain ⟨y16, hy16⟩ : ∃ y : Int, pf gm.toNat = y := ⟨_, rfl⟩
  refine j_iald C dX6_sellBlend_53 rfl hP15 ⟨by omega, by omega⟩ (by omega) hy16 ?_
  refine j_imul C dX6_sellBlend_54 rfl ?_
  refine j_istore (lv' := [(0, .ref (ad 0)), (1, vi ((i : Int))), (2, vi ((j : Int))), (3, vi (n)), (4, vi (x)), (5, vi (s)), (6, vi (r)), (7, vi (n * y16))]) [1, 2, 3, 4, 5, 6, 7, 0] C dX6_sellBlend_55 rfl rfl rfl ?_
  refine j_aload_n 0 C dX6_sellBlend_57 rfl rfl rfl ?_
  refine j_iload_n 1 C dX6_sellBlend_58 rfl rfl rfl ?_
  refine j_iload_n 2 C dX6_sellBlend_59 rfl rfl rfl ?_
  refine j_iload 5 C dX6_sellBlend_60 rfl rfl ?_
  refine j_iload 6 C dX6_sellBlend_62 rfl rfl ?_
  have hpy := hpr gm.toNat (by omega)
  rw [hy16] at hpy
  have m1 : 0 ≤ n * y16 := Int.mul_nonneg (by omega) hpy.1
  have m2 : n * y16 ≤ 2000 * y16 := Int.mul_le_mul_of_nonneg_right (by omega) hpy.1
  refine j_callS (st' := [.ref (ad 0)]) (As := [vi ((i : Int)), vi ((j : Int)), vi (s), vi (r)]) C dX6_sellBlend_64 rfl m_X6_224 rfl rfl (c_ofBlend (kL κ) hfl (kD κ) (kc κ) τ13 (i : Int) (j : Int) s r) rfl (by omega) (by omega) (by omega) (fun _ _ hx => hx.elim) (fun v18 τ17 hp19 => ?_)
  obtain ⟨e, rfl, hE1, hE2, hE3, hE4⟩ := hp19
  show J κ τ17 [(0, .ref (ad 0)), (1, vi ((i : Int))), (2, vi ((j : Int))), (3, vi (n)), (4, vi (x)), (5, vi (s)), (6, vi (r)), (7, vi (n * y16))] 67 [.ref e, .ref (ad 0)] 6 38
  obtain ⟨ad1, ha1⟩ : ∃ f, updN ad (300 + evs.length) e = f := ⟨_, rfl⟩
  obtain ⟨tg1, htg1⟩ : ∃ f, updN tg e (300 + evs.length) = f := ⟨_, rfl⟩
  have hadn1 : ∀ k, k ≠ 300 + evs.length → ad1 k = ad k := fun k hk => by rw [← ha1]; exact updN_n hk
  have hade : ad1 (300 + evs.length) = e := by rw [← ha1]; exact updN_s
  have htge : tg1 e = 300 + evs.length := by rw [← htg1]; exact updN_s
  have hT1 : ∀ y, y ∈ τ13.1 → tg1 y = tg y := fun y hy => by rw [← htg1]; exact updN_n (fun z => hE2 (by rw [← z]; exact hy))
  have hX1 := (hXm.retag hT1 hadn1).keep hE3 (fun _ _ z => z.elim)
  refine j_iload 7 C dX6_sellBlend_67 rfl rfl ?_
  refine j_eq_st (st' := [vi (n * y16), .ref (ad1 (300 + evs.length)), .ref (ad1 0)]) (by rw [hade, hadn1 0 (by omega)]) ?_
  have hx1o := hX1.1.1
  refine j_callV (st' := []) (As := [.ref (ad1 (300 + evs.length)), vi (n * y16)]) C dX6_sellBlend_69 rfl m_X6_111 hx1o rfl rfl rfl (c_happen (kL κ) hfl (kD κ) (kc κ) τ17 tg1 ad1 bs ru se pf hd ca evs ln hX1 (98, (i : Int), (j : Int), s, r, 0, 0) (by rw [hade]; exact hE1) (by rw [hade]; exact htge) hl hev5.1 (n * y16) ⟨by omega, by omega⟩ hev5.2.2) rfl (by omega) (by omega) (by omega) (fun _ _ hx => hx.elim) (fun v21 τ20 hp22 => ?_)
  obtain ⟨rfl, tg', ad', hR9, hT9, hA9, hK9, hM9⟩ := hp22
  show J κ τ20 [(0, .ref (ad 0)), (1, vi ((i : Int))), (2, vi ((j : Int))), (3, vi (n)), (4, vi (x)), (5, vi (s)), (6, vi (r)), (7, vi (n * y16))] 72 [] 7 288
  have hm0 : ∀ y, y ∈ τ13.1 → y ∈ τ17.1 := fun y hy => by rw [hE4]; exact List.mem_append_left _ hy
  have hT8 : ∀ y, y ∈ τ13.1 → tg' y = tg y := fun y hy => (hT9 y (hm0 y hy)).trans (hT1 y hy)
  have hK8 : Keep τ13 τ20 (fun y => tg y < 1000) := (hE3.mono (fun _ z => z.elim)).tr2 hK9 (fun y z => (Classical.em (y ∈ τ13.1)).elim (fun hy => Or.inl (by show tg y < 1000; rw [← hT1 y hy]; exact z)) Or.inr)
  have hk12 := hk1.tr hk2
  have hm5 : ∀ y, y ∈ σ.1 → y ∈ τ13.1 := fun y hy => hk12.mem hy (fun z => z)
  refine j_iload 7 C dX6_sellBlend_72 rfl rfl ?_
  exact j_iret C E dX6_sellBlend_74 (by omega) (by omega) ⟨by rw [hy16], tg', ad', (by rw [hy16]; exact hR9), fun y hy => hT8 y (hm5 y hy), (hA9 0 (by decide)).trans (hadn1 0 (by omega)), (hk12.mono (fun _ z => z.elim)).tr2 hK8 (fun y z => Or.inl z), fun y hy => hM9 y (hm0 y (hm5 y hy))⟩
