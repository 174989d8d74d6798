/-! GrainElevatorModel: drying, isWet, flows -/
theorem dryC_inM {w : Int} {x : Ly} (hx : lyOk x) (hw : 80 ≤ w ∧ w ≤ 300) : 0 ≤ x.1 * (x.2.1 - w) ∧ x.1 * (x.2.1 - w) ≤ 440000 ∨ x.2.1 < w := by
  obtain ⟨⟨a1, a2⟩, ⟨b1, b2⟩, -⟩ := hx
  by_cases c : x.2.1 < w
  · exact Or.inr c
  · have p1 : 0 ≤ x.1 * (x.2.1 - w) := Int.mul_nonneg (by omega) (by omega)
    have p2 : x.1 * (x.2.1 - w) ≤ 2000 * (x.2.1 - w) := Int.mul_le_mul_of_nonneg_right a2 (by omega)
    exact Or.inl ⟨p1, by omega⟩
theorem dryC_T {w : Int} {x : Ly} (h : w < x.2.1) : dryC w x = x.1 * (x.2.1 - w) / 10 := if_pos (by omega)
theorem dryC_F {w : Int} {x : Ly} (h : x.2.1 ≤ w) : dryC w x = 0 := if_neg (by omega)
theorem wetF_T {w : Int} {x : Ly} (h : w < x.2.1) : wetF w x = x.1 := if_pos h
theorem wetF_F {w : Int} {x : Ly} (h : x.2.1 ≤ w) : wetF w x = 0 := if_neg (by omega)
/-- 1: some layer is wetter -/
def isW (w : Int) (l : List Ly) : Int := if sumL (wetF w) l = 0 then 0 else 1
theorem isW_b (w : Int) (l : List Ly) : isW w l = 0 ∨ isW w l = 1 := by unfold isW; split; exact Or.inl rfl; exact Or.inr rfl
theorem or_1 {x : Int} (h : x = 0 ∨ x = 1) : Int32.ofInt x ||| Int32.ofInt 1 = Int32.ofInt 1 := by rcases h with rfl | rfl <;> decide
theorem or_0 {x : Int} (h : x = 0 ∨ x = 1) : Int32.ofInt x ||| Int32.ofInt 0 = Int32.ofInt x := by rcases h with rfl | rfl <;> decide
theorem wet0 {w : Int} {l : List Ly} (h : lysOk l) : 0 ≤ sumL (wetF w) l := sumL_0 (fun x hx => by
  have := (h x hx).1
  unfold wetF
  split <;> omega)
theorem lysOk.takeN {l : List Ly} (h : lysOk l) (k : Nat) : lysOk (l.take k) := fun x hx => h x (List.mem_of_mem_take hx)
set_option maxHeartbeats 4000000 in
set_option maxRecDepth 20000 in
theorem c_drying (l : Launch) (hfl : l.stackTraces = false) (D : va_G) (cy : Nat → Nat) (σ : Wd) (am : Nat → Nat) (bs : List Bn) (ru : Nat → Int × Int) (se : Int) (pf : Nat → Int) (hd : Hd) (ca : Int) (evs : List Evt) (ln : List Int) (bl : Int × Int × Int) (th : Int) (hM : RM cy σ am bs ru se pf hd ca evs ln bl th) (b : Nat) (hb : b < bs.length) (hok : lysOk (gB bs b).2.2) (m : Int) (hm : 80 ≤ m ∧ m ≤ 300) : Ct l yX7_drying cX7_drying 5 (some .int) 0 0 0 D cy [.ref (am 0), vi ((b : Int)), vi (m)] σ (fun v σ' => v = some (vi (sumL (dryC m) (gB bs b).2.2)) ∧ σ' = σ) noX := by
  refine ct_start (by decide +kernel) hfl rfl (fun κ e1 e2 e3 C E NH => ?_)
  subst e1 e2 e3
  have C : Cx κ cX7_drying 5 RX7 "drying" 0 := C
  obtain ⟨-, -, -, -, hc, hs⟩ := id E
  show J κ σ [(0, .ref (am 0)), (1, vi ((b : Int))), (2, vi (m))] 0 [] 0 0
  obtain ⟨hI1, gc1, gm1, gr1, gp1, gb1, go1, gf1, gg1, gt1, gz1, gk1, gl1, _, _, _, h01, ⟨hgc1, hgm1, hgr1, hgp1, hgb1, hgo1, hgf1, hgg1, hgt1, hgz1, hgk1, hgl1⟩, ⟨rfl, rfl, rfl⟩, hBn1, hRu1, hPr1, hTr1, hKi1, hLi1⟩ := id hM
  have hI := hI1
  have hnb61 := hBn1.1
  obtain ⟨⟨cap, mf, ly⟩, hg⟩ : ∃ z, gB bs (b : Int) = z := ⟨_, rfl⟩
  have hbk_1 := hBn1.2.2 b hb
  rw [hg] at hbk_1
  obtain ⟨⟨hcp_1, hmz_1⟩, ⟨hmn_1, hl9_1⟩, hrw_1⟩ := hbk_1
  dsimp only at hcp_1 hmz_1 hmn_1 hl9_1 hrw_1
  rw [hg] at hok
  dsimp only at hok
  refine j_iconst C dX7_drying_0 rfl ?_
  refine j_istore_n (lv' := [(0, .ref (am 0)), (1, vi ((b : Int))), (2, vi (m)), (3, vi (0))]) [1, 2, 3, 0] C dX7_drying_1 rfl rfl rfl rfl ?_
  refine j_bipush C dX7_drying_2 rfl (by decide) ?_
  refine j_iload_n 1 C dX7_drying_4 rfl rfl rfl ?_
  refine j_imul C dX7_drying_5 rfl ?_
  refine j_istore (lv' := [(0, .ref (am 0)), (1, vi ((b : Int))), (2, vi (m)), (3, vi (0)), (4, vi (90 * (b : Int)))]) [1, 2, 3, 4, 0] C dX7_drying_6 rfl rfl rfl ?_
  have lp : ∀ (N : Nat) (k : Nat), k ≤ ly.length → (ly.length + 1 - k) < N → J κ σ [(0, .ref (am 0)), (1, vi ((b : Int))), (2, vi (m)), (3, vi ((sumL (dryC m) (ly.take k)))), (4, vi ((90 * (b : Int) + (k : Int))))] 8 [] 0 0 := by
    intro N
    induction N with
    | zero => intro k hk hN; exact absurd hN (Nat.not_lt_zero _)
    | succ N ih =>
      intro k hk hN
      refine j_iload 4 C dX7_drying_8 rfl rfl ?_
      refine j_bipush C dX7_drying_10 rfl (by decide) ?_
      refine j_iload_n 1 C dX7_drying_12 rfl rfl rfl ?_
      refine j_imul C dX7_drying_13 rfl ?_
      refine j_aload_n 0 C dX7_drying_14 rfl rfl rfl ?_
      refine j_get C dX7_drying_15 rfl fg_X7_13 h01 rfl ?_
      refine j_iload_n 1 C dX7_drying_18 rfl rfl rfl ?_
      refine j_iald C dX7_drying_19 rfl hgm1 ⟨by omega, by omega⟩ (by omega) hmn_1 ?_
      refine j_iadd C dX7_drying_20 rfl ?_
      refine j_icmp_ge (tgt := 68) C dX7_drying_21 rfl rfl ⟨by omega, by omega⟩ ⟨by omega, by omega⟩ (fun cc2 => ?_) (fun cc2 => ?_)
      · refine j_iload_n 3 C dX7_drying_68 rfl rfl rfl ?_
        exact j_iret C E dX7_drying_69 (by omega) (by omega) ⟨congrArg some (congrArg vi (by rw [hg, List.take_of_length_le (by omega)])), rfl⟩
      · have hly9 := hok _ (lyAt_mem (l := ly) (k := k) (by omega))
        have hd9 := dryC_inM hly9 hm
        obtain ⟨⟨a1, a2⟩, ⟨b1, b2⟩, -⟩ := id hly9
        have hs9 := sum_takeN (dryC m) (l := ly) (k := k) (by omega)
        refine j_iload_n 3 C dX7_drying_24 rfl rfl rfl ?_
        refine j_aload_n 0 C dX7_drying_25 rfl rfl rfl ?_
        refine j_get C dX7_drying_26 rfl fg_X7_25 h01 rfl ?_
        refine j_iload 4 C dX7_drying_29 rfl rfl ?_
        refine j_iald C dX7_drying_31 rfl hgo1 ⟨by omega, by omega⟩ (by omega) (rowK hrw_1 (k := k) (by omega) (z := (90 * (b : Int) + (k : Int))) (by omega)).2.1 ?_
        refine j_iload_n 2 C dX7_drying_32 rfl rfl rfl ?_
        refine j_icmp_le (tgt := 59) C dX7_drying_33 rfl rfl ⟨by omega, by omega⟩ ⟨by omega, by omega⟩ (fun cc3 => ?_) (fun cc3 => ?_)
        · refine j_iconst C dX7_drying_59 rfl ?_
          refine j_iadd C dX7_drying_60 rfl ?_
          refine j_istore_n (lv' := [(0, .ref (am 0)), (1, vi ((b : Int))), (2, vi (m)), (3, vi ((sumL (dryC m) (ly.take k)) + 0)), (4, vi ((90 * (b : Int) + (k : Int))))]) [1, 2, 3, 0, 4] C dX7_drying_61 rfl rfl rfl rfl ?_
          refine j_iinc (y := (90 * (b : Int) + (k : Int)) + 1) (lv' := [(0, .ref (am 0)), (1, vi ((b : Int))), (2, vi (m)), (3, vi ((sumL (dryC m) (ly.take k)) + 0)), (4, vi ((90 * (b : Int) + (k : Int)) + 1))]) 4 [1, 2, 3, 4, 0] C dX7_drying_62 rfl rfl rfl rfl rfl ?_
          refine j_goto (tgt := 8) C dX7_drying_65 rfl ?_
          rw [dryC_F (by omega)] at hs9
          rw [← hs9]
          refine j_locals (lv' := [(0, .ref (am 0)), (1, vi ((b : Int))), (2, vi (m)), (3, vi (sumL (dryC m) (ly.take (k + 1)))), (4, vi (90 * (b : Int) + ((k + 1 : Nat) : Int)))]) [0, 1, 2, 3, 4] (by rw [show 90 * (b : Int) + ((k + 1 : Nat) : Int) = (90 * (b : Int) + (k : Int)) + 1 by omega]; rfl) ?_
          exact ih (k + 1) (by omega) (by omega)
        · refine j_aload_n 0 C dX7_drying_36 rfl rfl rfl ?_
          refine j_get C dX7_drying_37 rfl fg_X7_22 h01 rfl ?_
          refine j_iload 4 C dX7_drying_40 rfl rfl ?_
          refine j_iald C dX7_drying_42 rfl hgb1 ⟨by omega, by omega⟩ (by omega) (rowK hrw_1 (k := k) (by omega) (z := (90 * (b : Int) + (k : Int))) (by omega)).1 ?_
          refine j_aload_n 0 C dX7_drying_43 rfl rfl rfl ?_
          refine j_get C dX7_drying_44 rfl fg_X7_25 h01 rfl ?_
          refine j_iload 4 C dX7_drying_47 rfl rfl ?_
          refine j_iald C dX7_drying_49 rfl hgo1 ⟨by omega, by omega⟩ (by omega) (rowK hrw_1 (k := k) (by omega) (z := (90 * (b : Int) + (k : Int))) (by omega)).2.1 ?_
          refine j_iload_n 2 C dX7_drying_50 rfl rfl rfl ?_
          refine j_isub C dX7_drying_51 rfl ?_
          refine j_imul C dX7_drying_52 rfl ?_
          refine j_bipush C dX7_drying_53 rfl (by decide) ?_
          refine j_idiv C dX7_drying_55 rfl ⟨by omega, by omega⟩ ⟨by omega, by omega⟩ ?_
          refine j_goto (tgt := 60) C dX7_drying_56 rfl ?_
          refine j_iadd C dX7_drying_60 rfl ?_
          refine j_istore_n (lv' := [(0, .ref (am 0)), (1, vi ((b : Int))), (2, vi (m)), (3, vi ((sumL (dryC m) (ly.take k)) + ((((lyAt ly (k : Int)).1) * (((lyAt ly (k : Int)).2.1) - m)) / 10))), (4, vi ((90 * (b : Int) + (k : Int))))]) [1, 2, 3, 0, 4] C dX7_drying_61 rfl rfl rfl rfl ?_
          refine j_iinc (y := (90 * (b : Int) + (k : Int)) + 1) (lv' := [(0, .ref (am 0)), (1, vi ((b : Int))), (2, vi (m)), (3, vi ((sumL (dryC m) (ly.take k)) + ((((lyAt ly (k : Int)).1) * (((lyAt ly (k : Int)).2.1) - m)) / 10))), (4, vi ((90 * (b : Int) + (k : Int)) + 1))]) 4 [1, 2, 3, 4, 0] C dX7_drying_62 rfl rfl rfl rfl rfl ?_
          refine j_goto (tgt := 8) C dX7_drying_65 rfl ?_
          rw [dryC_T (by omega)] at hs9
          rw [← hs9]
          refine j_locals (lv' := [(0, .ref (am 0)), (1, vi ((b : Int))), (2, vi (m)), (3, vi (sumL (dryC m) (ly.take (k + 1)))), (4, vi (90 * (b : Int) + ((k + 1 : Nat) : Int)))]) [0, 1, 2, 3, 4] (by rw [show 90 * (b : Int) + ((k + 1 : Nat) : Int) = (90 * (b : Int) + (k : Int)) + 1 by omega]; rfl) ?_
          exact ih (k + 1) (by omega) (by omega)
  refine j_locals (lv' := [(0, .ref (am 0)), (1, vi ((b : Int))), (2, vi (m)), (3, vi (sumL (dryC m) (ly.take 0))), (4, vi (90 * (b : Int) + ((0 : Nat) : Int)))]) [0, 1, 2, 3, 4] (by rw [show 90 * (b : Int) + ((0 : Nat) : Int) = 90 * (b : Int) by omega]; rfl) ?_
  exact lp _ 0 (Nat.zero_le _) (Nat.lt_succ_self _)
set_option maxHeartbeats 4000000 in
set_option maxRecDepth 20000 in
theorem c_isWet (l : Launch) (hfl : l.stackTraces = false) (D : va_G) (cy : Nat → Nat) (σ : Wd) (am : Nat → Nat) (bs : List Bn) (ru : Nat → Int × Int) (se : Int) (pf : Nat → Int) (hd : Hd) (ca : Int) (evs : List Evt) (ln : List Int) (bl : Int × Int × Int) (th : Int) (hM : RM cy σ am bs ru se pf hd ca evs ln bl th) (b : Nat) (hb : b < bs.length) (hok : lysOk (gB bs b).2.2) (m : Int) (hm : (-2147483648 ≤ m ∧ m < 2147483648)) : Ct l yX7_isWet cX7_isWet 5 (some .boolean) 0 0 0 D cy [.ref (am 0), vi ((b : Int)), vi (m)] σ (fun v σ' => v = some (vi (isW m (gB bs b).2.2)) ∧ σ' = σ) noX := by
  refine ct_start (by decide +kernel) hfl rfl (fun κ e1 e2 e3 C E NH => ?_)
  subst e1 e2 e3
  have C : Cx κ cX7_isWet 5 RX7 "isWet" 0 := C
  obtain ⟨-, -, -, -, hc, hs⟩ := id E
  show J κ σ [(0, .ref (am 0)), (1, vi ((b : Int))), (2, vi (m))] 0 [] 0 0
  obtain ⟨hI1, gc1, gm1, gr1, gp1, gb1, go1, gf1, gg1, gt1, gz1, gk1, gl1, _, _, _, h01, ⟨hgc1, hgm1, hgr1, hgp1, hgb1, hgo1, hgf1, hgg1, hgt1, hgz1, hgk1, hgl1⟩, ⟨rfl, rfl, rfl⟩, hBn1, hRu1, hPr1, hTr1, hKi1, hLi1⟩ := id hM
  have hI := hI1
  have hnb61 := hBn1.1
  obtain ⟨⟨cap, mf, ly⟩, hg⟩ : ∃ z, gB bs (b : Int) = z := ⟨_, rfl⟩
  have hbk_1 := hBn1.2.2 b hb
  rw [hg] at hbk_1
  obtain ⟨⟨hcp_1, hmz_1⟩, ⟨hmn_1, hl9_1⟩, hrw_1⟩ := hbk_1
  dsimp only at hcp_1 hmz_1 hmn_1 hl9_1 hrw_1
  rw [hg] at hok
  dsimp only at hok
  refine j_iconst C dX7_isWet_0 rfl ?_
  refine j_istore_n (lv' := [(0, .ref (am 0)), (1, vi ((b : Int))), (2, vi (m)), (3, vi (0))]) [1, 2, 3, 0] C dX7_isWet_1 rfl rfl rfl rfl ?_
  refine j_iconst C dX7_isWet_2 rfl ?_
  refine j_istore (lv' := [(0, .ref (am 0)), (1, vi ((b : Int))), (2, vi (m)), (3, vi (0)), (4, vi (0))]) [1, 2, 3, 4, 0] C dX7_isWet_3 rfl rfl rfl ?_
  have lp : ∀ (N : Nat) (k : Nat), k ≤ ly.length → (ly.length + 1 - k) < N → J κ σ [(0, .ref (am 0)), (1, vi ((b : Int))), (2, vi (m)), (3, vi ((isW m (ly.take k)))), (4, vi ((k : Int)))] 5 [] 0 0 := by
    intro N
    induction N with
    | zero => intro k hk hN; exact absurd hN (Nat.not_lt_zero _)
    | succ N ih =>
      intro k hk hN
      refine j_iload 4 C dX7_isWet_5 rfl rfl ?_
      refine j_aload_n 0 C dX7_isWet_7 rfl rfl rfl ?_
      refine j_get C dX7_isWet_8 rfl fg_X7_13 h01 rfl ?_
      refine j_iload_n 1 C dX7_isWet_11 rfl rfl rfl ?_
      refine j_iald C dX7_isWet_12 rfl hgm1 ⟨by omega, by omega⟩ (by omega) hmn_1 ?_
      refine j_icmp_ge (tgt := 46) C dX7_isWet_13 rfl rfl ⟨by omega, by omega⟩ ⟨by omega, by omega⟩ (fun cc2 => ?_) (fun cc2 => ?_)
      · refine j_iload_n 3 C dX7_isWet_46 rfl rfl rfl ?_
        exact j_zret C E dX7_isWet_47 (nar_z (isW_b _ _)) (by omega) (by omega) ⟨congrArg some (congrArg vi (by rw [hg, List.take_of_length_le (by omega)])), rfl⟩
      · have hly9 := hok _ (lyAt_mem (l := ly) (k := k) (by omega))
        obtain ⟨⟨a1, a2⟩, ⟨b1, b2⟩, -⟩ := id hly9
        have hs9 := sum_takeN (wetF m) (l := ly) (k := k) (by omega)
        have hw9 := wet0 (w := m) (hok.takeN k)
        refine j_iload_n 3 C dX7_isWet_16 rfl rfl rfl ?_
        refine j_aload_n 0 C dX7_isWet_17 rfl rfl rfl ?_
        refine j_get C dX7_isWet_18 rfl fg_X7_25 h01 rfl ?_
        refine j_bipush C dX7_isWet_21 rfl (by decide) ?_
        refine j_iload_n 1 C dX7_isWet_23 rfl rfl rfl ?_
        refine j_imul C dX7_isWet_24 rfl ?_
        refine j_iload 4 C dX7_isWet_25 rfl rfl ?_
        refine j_iadd C dX7_isWet_27 rfl ?_
        refine j_iald C dX7_isWet_28 rfl hgo1 ⟨by omega, by omega⟩ (by omega) (rowK hrw_1 (k := k) (by omega) (z := (90 * (b : Int)) + (k : Int)) (by omega)).2.1 ?_
        refine j_iload_n 2 C dX7_isWet_29 rfl rfl rfl ?_
        refine j_icmp_le (tgt := 37) C dX7_isWet_30 rfl rfl ⟨by omega, by omega⟩ ⟨by omega, by omega⟩ (fun cc3 => ?_) (fun cc3 => ?_)
        · refine j_iconst C dX7_isWet_37 rfl ?_
          refine j_ior (z := (isW m (ly.take k))) C dX7_isWet_38 rfl (or_0 (isW_b _ _)) ?_
          refine j_istore_n (lv' := [(0, .ref (am 0)), (1, vi ((b : Int))), (2, vi (m)), (3, vi ((isW m (ly.take k)))), (4, vi ((k : Int)))]) [1, 2, 3, 0, 4] C dX7_isWet_39 rfl rfl rfl rfl ?_
          refine j_iinc (y := (k : Int) + 1) (lv' := [(0, .ref (am 0)), (1, vi ((b : Int))), (2, vi (m)), (3, vi ((isW m (ly.take k)))), (4, vi ((k : Int) + 1))]) 4 [1, 2, 3, 4, 0] C dX7_isWet_40 rfl rfl rfl rfl rfl ?_
          refine j_goto (tgt := 5) C dX7_isWet_43 rfl ?_
          rw [wetF_F (by omega)] at hs9
          have e9 : isW m (ly.take (k + 1)) = isW m (ly.take k) := by unfold isW; rw [hs9, Int.add_zero]
          refine j_locals (lv' := [(0, .ref (am 0)), (1, vi ((b : Int))), (2, vi (m)), (3, vi (isW m (ly.take (k + 1)))), (4, vi ((k : Int) + 1))]) [0, 1, 2, 3, 4] (by rw [e9]; rfl) ?_
          exact ih (k + 1) (by omega) (by omega)
        · refine j_iconst C dX7_isWet_33 rfl ?_
          refine j_goto (tgt := 38) C dX7_isWet_34 rfl ?_
          refine j_ior (z := 1) C dX7_isWet_38 rfl (or_1 (isW_b _ _)) ?_
          refine j_istore_n (lv' := [(0, .ref (am 0)), (1, vi ((b : Int))), (2, vi (m)), (3, vi (1)), (4, vi ((k : Int)))]) [1, 2, 3, 0, 4] C dX7_isWet_39 rfl rfl rfl rfl ?_
          refine j_iinc (y := (k : Int) + 1) (lv' := [(0, .ref (am 0)), (1, vi ((b : Int))), (2, vi (m)), (3, vi (1)), (4, vi ((k : Int) + 1))]) 4 [1, 2, 3, 4, 0] C dX7_isWet_40 rfl rfl rfl rfl rfl ?_
          refine j_goto (tgt := 5) C dX7_isWet_43 rfl ?_
          rw [wetF_T (by omega)] at hs9
          have e9 : isW m (ly.take (k + 1)) = 1 := if_neg (by omega)
          refine j_locals (lv' := [(0, .ref (am 0)), (1, vi ((b : Int))), (2, vi (m)), (3, vi (isW m (ly.take (k + 1)))), (4, vi ((k : Int) + 1))]) [0, 1, 2, 3, 4] (by rw [e9]; rfl) ?_
          exact ih (k + 1) (by omega) (by omega)
  exact lp _ 0 (Nat.zero_le _) (Nat.lt_succ_self _)
/-- the layers after n bushels have flowed out, those without bushels still there -/
def zrL : Int → List Ly → List Ly
  | _, [] => []
  | n, x :: l => if n ≤ 0 then x :: l else (x.1 - min n x.1, x.2) :: zrL (n - min n x.1) l
theorem zr_0 {n : Int} (h : n ≤ 0) : ∀ l : List Ly, zrL n l = l
  | [] => rfl
  | x :: l => by rw [zrL, if_pos h]
theorem zr_step {n : Int} (h : 0 < n) (x : Ly) (l : List Ly) : zrL n (x :: l) = (x.1 - min n x.1, x.2) :: zrL (n - min n x.1) l := by rw [zrL, if_neg (by omega)]
theorem tk_step {n : Int} (h : 0 < n) {x : Ly} (hx : 1 ≤ x.1) (l : List Ly) : takeL n (x :: l) = (min n x.1, x.2) :: takeL (n - min n x.1) l := by
  rw [takeL, if_neg (by omega)]
  by_cases c : n < x.1
  · rw [if_pos c, show min n x.1 = n by omega, takeL_0 (by omega)]
  · rw [if_neg c, show min n x.1 = x.1 by omega]
theorem zr_end {r : Int} {L : List Ly} {i : Nat} (h : L.length ≤ i ∨ r ≤ 0) : zrL r (L.drop i) = L.drop i ∧ takeL r (L.drop i) = [] := by
  rcases h with h | h
  · rw [List.drop_eq_nil_of_le h]
    exact ⟨rfl, rfl⟩
  · exact ⟨zr_0 h _, takeL_0 h _⟩
theorem fpos_ok {l : List Ly} (h : lysOk l) : fpos l = l := by
  unfold fpos
  rw [List.filter_eq_self]
  intro x hx
  have := (h x hx).1.1
  exact decide_eq_true (by omega)
theorem fpos_zr : ∀ {l : List Ly} (n : Int), lysOk l → fpos (zrL n l) = dropL n l
  | [], n, _ => rfl
  | x :: l, n, h => by
    have hx := (h x List.mem_cons_self).1
    have hl : lysOk l := fun y hy => h y (List.mem_cons_of_mem _ hy)
    by_cases c : n ≤ 0
    · rw [zr_0 c, dropL_0 c, fpos_ok h]
    · rw [zrL, if_neg c, dropL, if_neg c]
      by_cases c2 : n < x.1
      · rw [if_pos c2, show min n x.1 = n by omega, zr_0 (by omega)]
        have e : fpos ((x.1 - n, x.2) :: l) = (x.1 - n, x.2) :: fpos l := by
          unfold fpos
          exact List.filter_cons_of_pos (decide_eq_true (show 0 < x.1 - n by omega))
        rw [e, fpos_ok hl]
      · rw [if_neg c2, show min n x.1 = x.1 by omega]
        have e : fpos ((x.1 - x.1, x.2) :: zrL (n - x.1) l) = fpos (zrL (n - x.1) l) := by
          unfold fpos
          exact List.filter_cons_of_neg (by show ¬ decide (0 < x.1 - x.1) = true; simp)
        rw [e, fpos_zr (n - x.1) hl]
theorem zr_in : ∀ {l : List Ly} (n : Int), lysOk l → ∀ y ∈ zrL n l, 0 ≤ y.1 ∧ y.1 ≤ 2000
  | [], n, _, y, hy => by cases hy
  | x :: l, n, h, y, hy => by
    have hx := (h x List.mem_cons_self).1
    rw [zrL] at hy
    split at hy
    · have := (h y hy).1; omega
    · rcases List.mem_cons.mp hy with rfl | hy
      · show 0 ≤ x.1 - min n x.1 ∧ x.1 - min n x.1 ≤ 2000
        omega
      · exact zr_in _ (fun z hz => h z (List.mem_cons_of_mem _ hz)) y hy
theorem mem_ofl {m : Bool} {l : List Ly} {x : Ly} (h : x ∈ ofl m l) : x ∈ l := by
  unfold ofl at h
  split at h
  · exact h
  · exact List.mem_reverse.mp h
theorem lyAt_mid {P L : List Ly} {i : Nat} (hP : P.length = i) (hi : i < L.length) : lyAt (P ++ L.drop i) (i : Int) = lyAt L (i : Int) := by
  unfold lyAt
  rw [Int.toNat_natCast, List.getD_eq_getElem?_getD, List.getD_eq_getElem?_getD, List.getElem?_append_right (by omega), List.getElem?_drop, hP, Nat.sub_self, Nat.add_zero]
theorem drop_ly {L : List Ly} {i : Nat} (hi : i < L.length) : L.drop i = lyAt L (i : Int) :: L.drop (i + 1) := lyAt_drop (l := L) (i := (i : Int)) (by omega) (by omega)
theorem set_rev {l : List Ly} {i : Nat} (h : i < l.length) (y : Ly) : (l.reverse.set i y).reverse = l.set (l.length - 1 - i) y := by
  apply List.ext_getElem?
  intro k
  by_cases c : k < l.length
  · rw [List.getElem?_reverse (by rw [List.length_set, List.length_reverse]; exact c), List.length_set, List.length_reverse, List.getElem?_set, List.getElem?_set, List.length_reverse]
    by_cases d : l.length - 1 - i = k
    · rw [if_pos d, if_pos (by omega), if_pos (by omega), if_pos (by omega)]
    · rw [if_neg d, if_neg (by omega), List.getElem?_reverse (by omega)]
      congr 1
      omega
  · rw [List.getElem?_eq_none (by rw [List.length_reverse, List.length_set, List.length_reverse]; omega), List.getElem?_eq_none (by rw [List.length_set]; omega)]
theorem fl_set {c : Int} {m : Bool} {ly : List Ly} {i : Int} (h : 0 ≤ i ∧ i < (ly.length : Int)) (y : Ly) : ly.set (pl m ly.length i).toNat y = ofl m ((fl (c, m, ly)).set i.toNat y) := by
  unfold fl ofl pl
  cases m
  · simp only [Bool.false_eq_true, if_false]
    rw [set_rev (by omega)]
    congr 1
    omega
  · simp only [if_true]
theorem set_mid {P : List Ly} {i : Nat} (hP : P.length = i) (x y : Ly) (S : List Ly) : (P ++ x :: S).set i y = P ++ y :: S := by
  rw [List.set_append_right _ _ (by omega), hP, Nat.sub_self]
  rfl
theorem row_upd {gb go gf gg : Nat → Int} {s j : Nat} {ly : List Ly} (h : ly = rowL (G4 gb go gf gg) s ly.length) (hj : j < ly.length) {k : Nat} (hk : k = s + j) (v : Int) : ly.set j (v, (lyAt ly j).2) = rowL (G4 (ups gb k v) go gf gg) s (ly.set j (v, (lyAt ly j).2)).length := by
  subst hk
  have e : lyAt ly j = G4 gb go gf gg (s + j) := by rw [h]; exact rowL_ly hj
  rw [List.length_set]
  apply List.ext_getElem?
  intro q
  by_cases c : q < ly.length
  · rw [rowL_at c, List.getElem?_set]
    by_cases d : j = q
    · subst d
      rw [if_pos rfl, if_pos c, e]
      unfold G4
      rw [ups_s]
    · rw [if_neg d]
      have e2 : ly[q]? = some (G4 gb go gf gg (s + q)) := by rw [h]; exact rowL_at c
      rw [e2]
      unfold G4
      rw [ups_n (by omega)]
  · rw [List.getElem?_eq_none (by rw [List.length_set]; omega), List.getElem?_eq_none (by rw [rowL_len]; omega)]
theorem G4_b1 {gb go gf gg : Nat → Int} {k b : Nat} (hk : 90 * b ≤ k ∧ k < 90 * b + 90) (v : Int) : ∀ s : Nat, (s < 90 * b ∨ 90 * b + 90 ≤ s) → G4 (ups gb k v) go gf gg s = G4 gb go gf gg s := fun s hs => by
  unfold G4
  rw [ups_n (by omega)]
theorem cost_step (pf : Nat → Int) {r : Int} (h : 0 < r) {x : Ly} (hx : 1 ≤ x.1) (l : List Ly) : sumL (cf pf) (takeL r (x :: l)) = min r x.1 * pf x.2.2.2.toNat + sumL (cf pf) (takeL (r - min r x.1) l) := by
  rw [tk_step h hx]
  rfl
set_option maxHeartbeats 8000000 in
set_option maxRecDepth 20000 in
theorem c_flowsN (l : Launch) (hfl : l.stackTraces = false) (D : va_G) (cy : Nat → Nat) (σ : Wd) (am : Nat → Nat) (bs : List Bn) (ru : Nat → Int × Int) (se : Int) (pf : Nat → Int) (hd : Hd) (ca : Int) (evs : List Evt) (ln : List Int) (bl : Int × Int × Int) (th : Int) (hM : RM cy σ am bs ru se pf hd ca evs ln bl th) (b : Nat) (hb : b < bs.length) (hok : lysOk (gB bs b).2.2) (n : Int) (hn : 0 ≤ n ∧ n ≤ 1000000) : Ct l yX7_flows cX7_flows 10 (some .int) 1 0 0 D cy [.ref (am 0), vi ((b : Int)), vi (n), vi (-1)] σ (fun v σ' => v = some (vi (sumL (cf pf) (takeL n (fl (gB bs b))))) ∧ RM cy σ' am (outB bs b n) ru se pf hd ca evs ln bl th ∧ Keep σ σ' (inM am) ∧ σ'.1 = σ.1) noX := by
  refine ct_start (by decide +kernel) hfl rfl (fun κ e1 e2 e3 C E NH => ?_)
  subst e1 e2 e3
  have C : Cx κ cX7_flows 10 RX7 "flows" 1 := C
  obtain ⟨-, -, -, -, hc, hs⟩ := id E
  show J κ σ [(0, .ref (am 0)), (1, vi ((b : Int))), (2, vi (n)), (3, vi (-1))] 0 [] 0 0
  obtain ⟨hI1, gc1, gm1, gr1, gp1, gb1, go1, gf1, gg1, gt1, gz1, gk1, gl1, _, _, _, h01, ⟨hgc1, hgm1, hgr1, hgp1, hgb1, hgo1, hgf1, hgg1, hgt1, hgz1, hgk1, hgl1⟩, ⟨rfl, rfl, rfl⟩, hBn1, hRu1, hPr1, hTr1, hKi1, hLi1⟩ := id hM
  have hI := hI1
  have hnb61 := hBn1.1
  have kp0 : Keep σ σ (inM am) := Keep.rf
  have dm0 : σ.1 = σ.1 := rfl
  obtain ⟨⟨cap, mf, ly⟩, hg⟩ : ∃ z, gB bs (b : Int) = z := ⟨_, rfl⟩
  have hbk_1 := hBn1.2.2 b hb
  rw [hg] at hbk_1
  obtain ⟨⟨hcp_1, hmz_1⟩, ⟨hmn_1, hl9_1⟩, hrw_1⟩ := hbk_1
  dsimp only at hcp_1 hmz_1 hmn_1 hl9_1 hrw_1
  rw [hg] at hok
  dsimp only at hok
  obtain ⟨L, hLe⟩ : ∃ L, fl (cap, mf, ly) = L := ⟨_, rfl⟩
  have hokL : lysOk L := by rw [← hLe]; exact fl_ok (b := (cap, mf, ly)) hok
  have hlL : L.length = ly.length := by rw [← hLe, fl_len]
  have hlyL : ofl mf L = ly := by rw [← hLe]; exact ofl_fl (cap, mf, ly)
  have hout : outB bs b n = setL bs b (ofl mf (dropL n L)) := by unfold outB; rw [hg]; show setL bs b (ofl mf (dropL n (fl (cap, mf, ly)))) = _; rw [hLe]
  refine j_iload_n 2 C dX7_flows_0 rfl rfl rfl ?_
  refine j_istore (lv' := [(0, .ref (am 0)), (1, vi ((b : Int))), (2, vi (n)), (3, vi (-1)), (4, vi (n))]) [1, 2, 3, 4, 0] C dX7_flows_1 rfl rfl rfl ?_
  refine j_iconst C dX7_flows_3 rfl ?_
  refine j_istore (lv' := [(0, .ref (am 0)), (1, vi ((b : Int))), (2, vi (n)), (3, vi (-1)), (4, vi (n)), (5, vi (0))]) [1, 2, 3, 4, 5, 0] C dX7_flows_4 rfl rfl rfl ?_
  refine j_aload_n 0 C dX7_flows_6 rfl rfl rfl ?_
  refine j_get C dX7_flows_7 rfl fg_X7_13 h01 rfl ?_
  refine j_iload_n 1 C dX7_flows_10 rfl rfl rfl ?_
  refine j_iald C dX7_flows_11 rfl hgm1 ⟨by omega, by omega⟩ (by omega) hmn_1 ?_
  refine j_istore (lv' := [(0, .ref (am 0)), (1, vi ((b : Int))), (2, vi (n)), (3, vi (-1)), (4, vi (n)), (5, vi (0)), (6, vi ((ly.length : Int)))]) [1, 2, 3, 4, 5, 6, 0] C dX7_flows_12 rfl rfl rfl ?_
  refine j_iconst C dX7_flows_14 rfl ?_
  refine j_istore (lv' := [(0, .ref (am 0)), (1, vi ((b : Int))), (2, vi (n)), (3, vi (-1)), (4, vi (n)), (5, vi (0)), (6, vi ((ly.length : Int))), (7, vi (0))]) [1, 2, 3, 4, 5, 6, 7, 0] C dX7_flows_15 rfl rfl rfl ?_
  have lp : ∀ (N : Nat) (i : Nat) (r : Int) (P : List Ly) (pd : Int) (σ1 : Wd), RM (kc κ) σ1 am (setL bs b (ofl mf (P ++ L.drop i))) ru se pf hd ca evs ln bl th → Keep σ σ1 (inM am) → σ1.1 = σ.1 → P ++ zrL r (L.drop i) = zrL n L → pd + sumL (cf pf) (takeL r (L.drop i)) = sumL (cf pf) (takeL n L) → P.length = i → i ≤ L.length → (0 ≤ r ∧ r ≤ 1000000) → (L.length + 1 - i) < N → J κ σ1 [(0, .ref (am 0)), (1, vi ((b : Int))), (2, vi (n)), (3, vi (-1)), (4, vi (r)), (5, vi (pd)), (6, vi ((ly.length : Int))), (7, vi ((i : Int)))] 17 [] 0 0 := by
    intro N
    induction N with
    | zero => intro i r P pd σ1 hM1 hk1 hd1 hz hc hPl hi hr hN; exact absurd hN (Nat.not_lt_zero _)
    | succ N ih =>
      intro i r P pd σ1 hM1 hk1 hd1 hz hc hPl hi hr hN
      obtain ⟨bs1, hb1⟩ : ∃ z, setL bs b (ofl mf (P ++ L.drop i)) = z := ⟨_, rfl⟩
      rw [hb1] at hM1
      have hlX : (ofl mf (P ++ L.drop i)).length = ly.length := by rw [ofl_len, List.length_append, List.length_drop, hPl]; omega
      obtain ⟨X, hX⟩ : ∃ z, ofl mf (P ++ L.drop i) = z := ⟨_, rfl⟩
      rw [hX] at hb1 hlX
      have hbl1 : bs1.length = bs.length := by rw [← hb1, setL_len]
      have hb9 : b < bs1.length := by omega
      have hg1 : gB bs1 b = (cap, mf, X) := by rw [← hb1, gB_setS hb, hg]
      obtain ⟨hI2, gc2, gm2, gr2, gp2, gb2, go2, gf2, gg2, gt2, gz2, gk2, gl2, _, _, _, h02, ⟨hgc2, hgm2, hgr2, hgp2, hgb2, hgo2, hgf2, hgg2, hgt2, hgz2, hgk2, hgl2⟩, ⟨rfl, rfl, rfl⟩, hBn2, hRu2, hPr2, hTr2, hKi2, hLi2⟩ := id hM1
      have hI := hI2
      have hnb62 := hBn2.1
      have hbk_2 := hBn2.2.2 b hb9
      rw [hg1] at hbk_2
      obtain ⟨⟨hcp_2, hmz_2⟩, ⟨hmn_2, hl9_2⟩, hrw_2⟩ := hbk_2
      dsimp only at hcp_2 hmz_2 hmn_2 hl9_2 hrw_2
      refine j_iload 7 C dX7_flows_17 rfl rfl ?_
      refine j_iload 6 C dX7_flows_19 rfl rfl ?_
      refine j_icmp_ge (tgt := 131) C dX7_flows_21 rfl rfl ⟨by omega, by omega⟩ ⟨by omega, by omega⟩ (fun cc3 => ?_) (fun cc3 => ?_)
      · have he := zr_end (L := L) (i := i) (r := r) (by omega)
        rw [he.1] at hz
        rw [he.2] at hc
        have hfX : fpos X = ofl mf (dropL n L) := by rw [← hX, hz, fpos_ofl, fpos_zr n hokL]
        have h09 : ∀ x ∈ (gB bs1 b).2.2, 0 ≤ x.1 ∧ x.1 ≤ 2000 := by rw [hg1]; show ∀ x ∈ X, 0 ≤ x.1 ∧ x.1 ≤ 2000; rw [← hX, hz]; exact fun x hx => zr_in n hokL x (mem_ofl hx)
        have hfin : setL bs1 b (fpos (gB bs1 b).2.2) = outB bs b n := by rw [hout, hg1]; show setL bs1 b (fpos X) = _; rw [hfX, ← hb1, setL_same hb]
        refine j_aload_n 0 C dX7_flows_131 rfl rfl rfl ?_
        refine j_iload_n 1 C dX7_flows_132 rfl rfl rfl ?_
        refine j_callV (st' := []) (As := [vi ((b : Int))]) C dX7_flows_133 rfl m_X7_117 h02 rfl rfl rfl (c_clears (kL κ) hfl (kD κ) (kc κ) σ1 am bs1 ru se pf hd ca evs ln bl th hM1 b hb9 h09) rfl (by omega) (by omega) (by omega) (fun _ _ hx => hx.elim) (fun v5 τ4 hp6 => ?_)
        obtain ⟨rfl, hN, hNk, hNd⟩ := hp6
        rw [hfin] at hN
        show J κ τ4 [(0, .ref (am 0)), (1, vi ((b : Int))), (2, vi (n)), (3, vi (-1)), (4, vi (r)), (5, vi (pd)), (6, vi ((ly.length : Int))), (7, vi ((i : Int)))] 136 [] _ _
        refine j_iload 5 C dX7_flows_136 rfl rfl ?_
        exact j_iret C E dX7_flows_138 (by omega) (by omega) ⟨congrArg some (congrArg vi (by rw [hg, hLe, ← hc]; exact (Int.add_zero _).symm)), hN, hk1.tr hNk, hNd.trans hd1⟩
      · refine j_iload 4 C dX7_flows_24 rfl rfl ?_
        refine j_if_le (tgt := 131) C dX7_flows_26 rfl rfl ⟨by omega, by omega⟩ (fun cc7 => ?_) (fun cc7 => ?_)
        · have he := zr_end (L := L) (i := i) (r := r) (by omega)
          rw [he.1] at hz
          rw [he.2] at hc
          have hfX : fpos X = ofl mf (dropL n L) := by rw [← hX, hz, fpos_ofl, fpos_zr n hokL]
          have h09 : ∀ x ∈ (gB bs1 b).2.2, 0 ≤ x.1 ∧ x.1 ≤ 2000 := by rw [hg1]; show ∀ x ∈ X, 0 ≤ x.1 ∧ x.1 ≤ 2000; rw [← hX, hz]; exact fun x hx => zr_in n hokL x (mem_ofl hx)
          have hfin : setL bs1 b (fpos (gB bs1 b).2.2) = outB bs b n := by rw [hout, hg1]; show setL bs1 b (fpos X) = _; rw [hfX, ← hb1, setL_same hb]
          refine j_aload_n 0 C dX7_flows_131 rfl rfl rfl ?_
          refine j_iload_n 1 C dX7_flows_132 rfl rfl rfl ?_
          refine j_callV (st' := []) (As := [vi ((b : Int))]) C dX7_flows_133 rfl m_X7_117 h02 rfl rfl rfl (c_clears (kL κ) hfl (kD κ) (kc κ) σ1 am bs1 ru se pf hd ca evs ln bl th hM1 b hb9 h09) rfl (by omega) (by omega) (by omega) (fun _ _ hx => hx.elim) (fun v9 τ8 hp10 => ?_)
          obtain ⟨rfl, hN, hNk, hNd⟩ := hp10
          rw [hfin] at hN
          show J κ τ8 [(0, .ref (am 0)), (1, vi ((b : Int))), (2, vi (n)), (3, vi (-1)), (4, vi (r)), (5, vi (pd)), (6, vi ((ly.length : Int))), (7, vi ((i : Int)))] 136 [] _ _
          refine j_iload 5 C dX7_flows_136 rfl rfl ?_
          exact j_iret C E dX7_flows_138 (by omega) (by omega) ⟨congrArg some (congrArg vi (by rw [hg, hLe, ← hc]; exact (Int.add_zero _).symm)), hN, hk1.tr hNk, hNd.trans hd1⟩
        · have hi9 : i < L.length := by omega
          have hx0 := hokL _ (lyAt_mem hi9)
          have hdr := drop_ly hi9
          have hflX : fl (cap, mf, X) = P ++ L.drop i := by rw [← hX]; exact fl_ofl cap mf _
          have hxX : lyAt (fl (cap, mf, X)) (i : Int) = lyAt L (i : Int) := by rw [hflX]; exact lyAt_mid hPl hi9
          obtain ⟨x, hxe⟩ : ∃ x, lyAt L (i : Int) = x := ⟨_, rfl⟩
          rw [hxe] at hx0 hdr hxX
          obtain ⟨⟨a1, a2⟩, ⟨b1, b2⟩, ⟨f1, f2⟩, g1, g2⟩ := id hx0
          rw [hdr, zr_step (by omega)] at hz
          rw [hdr, cost_step pf (by omega) a1] at hc
          have hpl := pl_in (m := mf) (n := (X.length : Int)) (i := (i : Int)) ⟨by omega, by omega⟩
          obtain ⟨p, hp9⟩ : ∃ p, pl mf X.length (i : Int) = p := ⟨_, rfl⟩
          rw [hp9] at hpl
          refine j_aload_n 0 C dX7_flows_29 rfl rfl rfl ?_
          refine j_iload_n 1 C dX7_flows_30 rfl rfl rfl ?_
          refine j_iload 7 C dX7_flows_31 rfl rfl ?_
          refine j_callV (st' := []) (As := [vi ((b : Int)), vi ((i : Int))]) C dX7_flows_33 rfl m_X7_109 h02 rfl rfl rfl (c_at (kL κ) hfl (kD κ) (kc κ) σ1 am bs1 ru se pf hd ca evs ln bl th hM1 b hb9 (i : Int)) rfl (by omega) (by omega) (by omega) (fun _ _ hx => hx.elim) (fun v12 τ11 hp13 => ?_)
          obtain ⟨rfl, hs9⟩ := hp13
          replace hs9 := hs9.symm
          subst hs9
          show J κ σ1 [(0, .ref (am 0)), (1, vi ((b : Int))), (2, vi (n)), (3, vi (-1)), (4, vi (r)), (5, vi (pd)), (6, vi ((ly.length : Int))), (7, vi ((i : Int)))] 36 [vi ((90 * (b : Int) + pl (gB bs1 b).2.1 (gB bs1 b).2.2.length (i : Int)))] _ _
          rw [hg1]
          have hsh : ∀ z9 : Int, pl mf X.length (i : Int) = z9 → J κ σ1 [(0, .ref (am 0)), (1, vi ((b : Int))), (2, vi (n)), (3, vi (-1)), (4, vi (r)), (5, vi (pd)), (6, vi ((ly.length : Int))), (7, vi ((i : Int)))] 36 [vi (90 * (b : Int) + z9)] 0 0 := ?_
          · exact hsh _ rfl
          intro z9 hz9
          have hz8 : z9 = p := hz9.symm.trans hp9
          subst hz8
          show J κ σ1 [(0, .ref (am 0)), (1, vi ((b : Int))), (2, vi (n)), (3, vi (-1)), (4, vi (r)), (5, vi (pd)), (6, vi ((ly.length : Int))), (7, vi ((i : Int)))] 36 [vi (90 * (b : Int) + z9)] _ _
          have hpz : z9 = z9 := rfl
          have hmn : 1 ≤ min r x.1 ∧ min r x.1 ≤ 2000 ∧ min r x.1 ≤ r := by omega
          refine j_istore (lv' := [(0, .ref (am 0)), (1, vi ((b : Int))), (2, vi (n)), (3, vi (-1)), (4, vi (r)), (5, vi (pd)), (6, vi ((ly.length : Int))), (7, vi ((i : Int))), (8, vi (90 * (b : Int) + z9))]) [1, 2, 3, 4, 5, 6, 7, 8, 0] C dX7_flows_36 rfl rfl rfl ?_
          refine j_iload 4 C dX7_flows_38 rfl rfl ?_
          refine j_aload_n 0 C dX7_flows_40 rfl rfl rfl ?_
          refine j_get C dX7_flows_41 rfl fg_X7_22 h02 rfl ?_
          refine j_iload 8 C dX7_flows_44 rfl rfl ?_
          refine j_iald C dX7_flows_46 rfl hgb2 ⟨by omega, by omega⟩ (by omega) ((rowF hrw_2 (c := cap) (m := mf) (i := (i : Int)) ⟨by omega, by omega⟩ (z := 90 * (b : Int) + z9) (by rw [hp9]; omega)).1.trans (by rw [hxX])) ?_
          refine j_min (z := (min r x.1)) C dX7_flows_47 rfl mm_X7_112 ms_min mi_math mc_min (Nat.le_of_ble_eq_true rfl) (by omega) (by omega) ⟨by omega, by omega⟩ ⟨by omega, by omega⟩ rfl ?_
          refine j_istore (lv' := [(0, .ref (am 0)), (1, vi ((b : Int))), (2, vi (n)), (3, vi (-1)), (4, vi (r)), (5, vi (pd)), (6, vi ((ly.length : Int))), (7, vi ((i : Int))), (8, vi (90 * (b : Int) + z9)), (9, vi ((min r x.1)))]) [1, 2, 3, 4, 5, 6, 7, 8, 9, 0] C dX7_flows_50 rfl rfl rfl ?_
          refine j_iload_n 3 C dX7_flows_52 rfl rfl rfl ?_
          refine j_if_lt (tgt := 84) C dX7_flows_53 rfl rfl ⟨by omega, by omega⟩ (fun _ => ?_) (fun cc14 => absurd cc14 (by decide))
          refine j_aload_n 0 C dX7_flows_84 rfl rfl rfl ?_
          refine j_get C dX7_flows_85 rfl fg_X7_22 h02 rfl ?_
          refine j_iload 8 C dX7_flows_88 rfl rfl ?_
          refine j_dup2 C dX7_flows_90 rfl rfl rfl ?_
          refine j_iald C dX7_flows_91 rfl hgb2 ⟨by omega, by omega⟩ (by omega) ((rowF hrw_2 (c := cap) (m := mf) (i := (i : Int)) ⟨by omega, by omega⟩ (z := 90 * (b : Int) + z9) (by rw [hp9]; omega)).1.trans (by rw [hxX])) ?_
          refine j_iload 9 C dX7_flows_92 rfl rfl ?_
          refine j_isub C dX7_flows_94 rfl ?_
          refine j_iast C dX7_flows_95 rfl hgb2 ⟨by omega, by omega⟩ (by omega) (fun τ15 ee16 => ?_)
          have u17 := h02.ne' ee16 (hI 0 5 (by decide) (by decide) (by decide))
          have u18 := hgc2.ne' ee16 (hI 1 5 (by decide) (by decide) (by decide))
          have u19 := hgm2.ne' ee16 (hI 2 5 (by decide) (by decide) (by decide))
          have u20 := hgr2.ne' ee16 (hI 3 5 (by decide) (by decide) (by decide))
          have u21 := hgp2.ne' ee16 (hI 4 5 (by decide) (by decide) (by decide))
          have u22 : has τ15 (am 5) (iA (kc κ) 540 (ups gb2 (90 * (b : Int) + z9).toNat (x.1 - (min r x.1)))) := hgb2.self' ee16
          have u23 := hgo2.ne' ee16 (hI 6 5 (by decide) (by decide) (by decide))
          have u24 := hgf2.ne' ee16 (hI 7 5 (by decide) (by decide) (by decide))
          have u25 := hgg2.ne' ee16 (hI 8 5 (by decide) (by decide) (by decide))
          have u26 := hgt2.ne' ee16 (hI 9 5 (by decide) (by decide) (by decide))
          have u27 := hgz2.ne' ee16 (hI 10 5 (by decide) (by decide) (by decide))
          have u28 := hgk2.ne' ee16 (hI 11 5 (by decide) (by decide) (by decide))
          have u29 := hgl2.ne' ee16 (hI 12 5 (by decide) (by decide) (by decide))
          have kp30 := hk1.put ee16 ⟨5, by decide, rfl⟩
          have dm31 := (dom_put ee16).trans hd1
          refine j_iload 5 C dX7_flows_96 rfl rfl ?_
          refine j_iload 9 C dX7_flows_98 rfl rfl ?_
          refine j_aload_n 0 C dX7_flows_100 rfl rfl rfl ?_
          refine j_get C dX7_flows_101 rfl fg_X7_19 u17 rfl ?_
          refine j_aload_n 0 C dX7_flows_104 rfl rfl rfl ?_
          refine j_get C dX7_flows_105 rfl fg_X7_31 u17 rfl ?_
          refine j_iload 8 C dX7_flows_108 rfl rfl ?_
          refine j_iald C dX7_flows_110 rfl u25 ⟨by omega, by omega⟩ (by omega) ((rowF hrw_2 (c := cap) (m := mf) (i := (i : Int)) ⟨by omega, by omega⟩ (z := 90 * (b : Int) + z9) (by rw [hp9]; omega)).2.2.2.trans (by rw [hxX])) ?_
          refine j_iconst C dX7_flows_111 rfl ?_
          refine j_isub C dX7_flows_112 rfl ?_
          refine j_iald C dX7_flows_113 rfl u21 ⟨by omega, by omega⟩ (by omega) (prK hPr2 (g := x.2.2.2) ⟨by omega, by omega⟩ (z := x.2.2.2 - 1) (by omega)) ?_
          refine j_imul C dX7_flows_114 rfl ?_
          refine j_iadd C dX7_flows_115 rfl ?_
          refine j_istore (lv' := [(0, .ref (am 0)), (1, vi ((b : Int))), (2, vi (n)), (3, vi (-1)), (4, vi (r)), (5, vi (pd + ((min r x.1) * (pf x.2.2.2.toNat)))), (6, vi ((ly.length : Int))), (7, vi ((i : Int))), (8, vi (90 * (b : Int) + z9)), (9, vi ((min r x.1)))]) [1, 2, 3, 4, 5, 0, 6, 7, 8, 9] C dX7_flows_116 rfl rfl rfl ?_
          refine j_iload 4 C dX7_flows_118 rfl rfl ?_
          refine j_iload 9 C dX7_flows_120 rfl rfl ?_
          refine j_isub C dX7_flows_122 rfl ?_
          refine j_istore (lv' := [(0, .ref (am 0)), (1, vi ((b : Int))), (2, vi (n)), (3, vi (-1)), (4, vi (r - (min r x.1))), (5, vi (pd + ((min r x.1) * (pf x.2.2.2.toNat)))), (6, vi ((ly.length : Int))), (7, vi ((i : Int))), (8, vi (90 * (b : Int) + z9)), (9, vi ((min r x.1)))]) [1, 2, 3, 4, 0, 5, 6, 7, 8, 9] C dX7_flows_123 rfl rfl rfl ?_
          refine j_iinc (y := (i : Int) + 1) (lv' := [(0, .ref (am 0)), (1, vi ((b : Int))), (2, vi (n)), (3, vi (-1)), (4, vi (r - (min r x.1))), (5, vi (pd + ((min r x.1) * (pf x.2.2.2.toNat)))), (6, vi ((ly.length : Int))), (7, vi ((i : Int) + 1)), (8, vi (90 * (b : Int) + z9)), (9, vi ((min r x.1)))]) 7 [1, 2, 3, 4, 5, 6, 7, 0, 8, 9] C dX7_flows_125 rfl rfl rfl rfl rfl ?_
          refine j_goto (tgt := 17) C dX7_flows_128 rfl ?_
          have hk9 : (90 * (b : Int) + z9).toNat = 90 * b + z9.toNat := by omega
          have hlyX : lyAt X (z9.toNat : Int) = x := by rw [← hxX, lyAt_fl ⟨by omega, by omega⟩, hp9, show ((z9.toNat : Nat) : Int) = z9 by omega]
          have hset : X.set z9.toNat (x.1 - min r x.1, x.2) = ofl mf ((P ++ [(x.1 - min r x.1, x.2)]) ++ L.drop (i + 1)) := by have e := fl_set (c := cap) (m := mf) (ly := X) (i := (i : Int)) ⟨by omega, by omega⟩ (x.1 - min r x.1, x.2); rw [hp9, hflX, hdr, Int.toNat_natCast, set_mid hPl] at e; rw [e, List.append_assoc]; rfl
          have hru := row_upd hrw_2 (j := z9.toNat) (by omega) hk9 (x.1 - min r x.1)
          rw [hlyX] at hru
          have hM3 : RM (kc κ) τ15 am (setL bs1 b (X.set z9.toNat (x.1 - min r x.1, x.2))) ru se pf hd ca evs ln bl th := ⟨hI, _, _, _, _, _, _, _, _, _, _, _, _, _, _, _, u17, ⟨u18, u19, u20, u21, u22, u23, u24, u25, u26, u27, u28, u29⟩, ⟨by rw [setL_len], rfl, rfl⟩, (hBn2.set hb9 (by rw [List.length_set]; omega) (by rw [List.length_set]; exact hmn_2) (fun _ _ => rfl) (G4_b1 (by omega) _) hru), hRu2, hPr2, hTr2, hKi2, hLi2⟩
          have he3 : setL bs1 b (X.set z9.toNat (x.1 - min r x.1, x.2)) = setL bs b (ofl mf ((P ++ [(x.1 - min r x.1, x.2)]) ++ L.drop (i + 1))) := by rw [hset, ← hb1, setL_same hb]
          rw [he3] at hM3
          refine j_locals (lv' := [(0, .ref (am 0)), (1, vi ((b : Int))), (2, vi (n)), (3, vi (-1)), (4, vi (r - (min r x.1))), (5, vi (pd + ((min r x.1) * (pf x.2.2.2.toNat)))), (6, vi ((ly.length : Int))), (7, vi ((i : Int) + 1))]) [0, 1, 2, 3, 4, 5, 6, 7] rfl ?_
          exact ih (i + 1) (r - min r x.1) (P ++ [(x.1 - min r x.1, x.2)]) _ τ15 hM3 kp30 dm31 (by rw [List.append_assoc]; exact hz) (by rw [Int.add_assoc]; exact hc) (by rw [List.length_append, hPl]; rfl) (by omega) (by omega) (by omega)
  exact lp _ 0 n [] 0 σ (by show RM _ _ _ (setL bs b (ofl mf L)) _ _ _ _ _ _ _ _ _; rw [hlyL, show setL bs b ly = bs by have e := setL_self hb; rw [hg] at e; exact e]; exact hM) Keep.rf rfl rfl (Int.zero_add _) rfl (Nat.zero_le _) hn (Nat.lt_succ_self _)
set_option maxHeartbeats 8000000 in
set_option maxRecDepth 20000 in
theorem c_flowsT (l : Launch) (hfl : l.stackTraces = false) (D : va_G) (cy : Nat → Nat) (σ : Wd) (am : Nat → Nat) (bs : List Bn) (ru : Nat → Int × Int) (se : Int) (pf : Nat → Int) (hd : Hd) (ca : Int) (evs : List Evt) (ln : List Int) (bl : Int × Int × Int) (th : Int) (hM : RM cy σ am bs ru se pf hd ca evs ln bl th) (b : Nat) (hb : b < bs.length) (hok : lysOk (gB bs b).2.2) (n : Int) (hn : 0 ≤ n ∧ n ≤ 1000000) (to : Nat) (hto : to < bs.length) (hbt : b ≠ to) (h9 : (gB bs to).2.2.length + (takeL n (fl (gB bs b))).length ≤ 90) : Ct l yX7_flows cX7_flows 10 (some .int) 1 0 0 D cy [.ref (am 0), vi ((b : Int)), vi (n), vi ((to : Int))] σ (fun v σ' => v = some (vi (sumL (cf pf) (takeL n (fl (gB bs b))))) ∧ RM cy σ' am (setL (outB bs b n) to ((gB bs to).2.2 ++ takeL n (fl (gB bs b)))) ru se pf hd ca evs ln bl th ∧ Keep σ σ' (inM am) ∧ σ'.1 = σ.1) noX := by
  refine ct_start (by decide +kernel) hfl rfl (fun κ e1 e2 e3 C E NH => ?_)
  subst e1 e2 e3
  have C : Cx κ cX7_flows 10 RX7 "flows" 1 := C
  obtain ⟨-, -, -, -, hc, hs⟩ := id E
  show J κ σ [(0, .ref (am 0)), (1, vi ((b : Int))), (2, vi (n)), (3, vi ((to : Int)))] 0 [] 0 0
  obtain ⟨hI1, gc1, gm1, gr1, gp1, gb1, go1, gf1, gg1, gt1, gz1, gk1, gl1, _, _, _, h01, ⟨hgc1, hgm1, hgr1, hgp1, hgb1, hgo1, hgf1, hgg1, hgt1, hgz1, hgk1, hgl1⟩, ⟨rfl, rfl, rfl⟩, hBn1, hRu1, hPr1, hTr1, hKi1, hLi1⟩ := id hM
  have hI := hI1
  have hnb61 := hBn1.1
  have kp0 : Keep σ σ (inM am) := Keep.rf
  have dm0 : σ.1 = σ.1 := rfl
  obtain ⟨⟨cap, mf, ly⟩, hg⟩ : ∃ z, gB bs (b : Int) = z := ⟨_, rfl⟩
  have hbk_1 := hBn1.2.2 b hb
  rw [hg] at hbk_1
  obtain ⟨⟨hcp_1, hmz_1⟩, ⟨hmn_1, hl9_1⟩, hrw_1⟩ := hbk_1
  dsimp only at hcp_1 hmz_1 hmn_1 hl9_1 hrw_1
  rw [hg] at hok
  dsimp only at hok
  obtain ⟨L, hLe⟩ : ∃ L, fl (cap, mf, ly) = L := ⟨_, rfl⟩
  have hokL : lysOk L := by rw [← hLe]; exact fl_ok (b := (cap, mf, ly)) hok
  have hlL : L.length = ly.length := by rw [← hLe, fl_len]
  have hlyL : ofl mf L = ly := by rw [← hLe]; exact ofl_fl (cap, mf, ly)
  have hout : outB bs b n = setL bs b (ofl mf (dropL n L)) := by unfold outB; rw [hg]; show setL bs b (ofl mf (dropL n (fl (cap, mf, ly)))) = _; rw [hLe]
  obtain ⟨⟨cp2, mf2, T⟩, hgT⟩ : ∃ z, gB bs (to : Int) = z := ⟨_, rfl⟩
  rw [hgT, hg, hLe] at h9
  dsimp only at h9
  refine j_iload_n 2 C dX7_flows_0 rfl rfl rfl ?_
  refine j_istore (lv' := [(0, .ref (am 0)), (1, vi ((b : Int))), (2, vi (n)), (3, vi ((to : Int))), (4, vi (n))]) [1, 2, 3, 4, 0] C dX7_flows_1 rfl rfl rfl ?_
  refine j_iconst C dX7_flows_3 rfl ?_
  refine j_istore (lv' := [(0, .ref (am 0)), (1, vi ((b : Int))), (2, vi (n)), (3, vi ((to : Int))), (4, vi (n)), (5, vi (0))]) [1, 2, 3, 4, 5, 0] C dX7_flows_4 rfl rfl rfl ?_
  refine j_aload_n 0 C dX7_flows_6 rfl rfl rfl ?_
  refine j_get C dX7_flows_7 rfl fg_X7_13 h01 rfl ?_
  refine j_iload_n 1 C dX7_flows_10 rfl rfl rfl ?_
  refine j_iald C dX7_flows_11 rfl hgm1 ⟨by omega, by omega⟩ (by omega) hmn_1 ?_
  refine j_istore (lv' := [(0, .ref (am 0)), (1, vi ((b : Int))), (2, vi (n)), (3, vi ((to : Int))), (4, vi (n)), (5, vi (0)), (6, vi ((ly.length : Int)))]) [1, 2, 3, 4, 5, 6, 0] C dX7_flows_12 rfl rfl rfl ?_
  refine j_iconst C dX7_flows_14 rfl ?_
  refine j_istore (lv' := [(0, .ref (am 0)), (1, vi ((b : Int))), (2, vi (n)), (3, vi ((to : Int))), (4, vi (n)), (5, vi (0)), (6, vi ((ly.length : Int))), (7, vi (0))]) [1, 2, 3, 4, 5, 6, 7, 0] C dX7_flows_15 rfl rfl rfl ?_
  have lp : ∀ (N : Nat) (i : Nat) (r : Int) (P : List Ly) (Q : List Ly) (pd : Int) (σ1 : Wd), RM (kc κ) σ1 am (setL (setL bs b (ofl mf (P ++ L.drop i))) to (T ++ Q)) ru se pf hd ca evs ln bl th → Keep σ σ1 (inM am) → σ1.1 = σ.1 → P ++ zrL r (L.drop i) = zrL n L → Q ++ takeL r (L.drop i) = takeL n L → pd + sumL (cf pf) (takeL r (L.drop i)) = sumL (cf pf) (takeL n L) → P.length = i → i ≤ L.length → (0 ≤ r ∧ r ≤ 1000000) → (L.length + 1 - i) < N → J κ σ1 [(0, .ref (am 0)), (1, vi ((b : Int))), (2, vi (n)), (3, vi ((to : Int))), (4, vi (r)), (5, vi (pd)), (6, vi ((ly.length : Int))), (7, vi ((i : Int)))] 17 [] 0 0 := by
    intro N
    induction N with
    | zero => intro i r P Q pd σ1 hM1 hk1 hd1 hz hq hc hPl hi hr hN; exact absurd hN (Nat.not_lt_zero _)
    | succ N ih =>
      intro i r P Q pd σ1 hM1 hk1 hd1 hz hq hc hPl hi hr hN
      obtain ⟨bs1, hb1⟩ : ∃ z, setL (setL bs b (ofl mf (P ++ L.drop i))) to (T ++ Q) = z := ⟨_, rfl⟩
      rw [hb1] at hM1
      have hlX : (ofl mf (P ++ L.drop i)).length = ly.length := by rw [ofl_len, List.length_append, List.length_drop, hPl]; omega
      obtain ⟨X, hX⟩ : ∃ z, ofl mf (P ++ L.drop i) = z := ⟨_, rfl⟩
      rw [hX] at hb1 hlX
      have hbl1 : bs1.length = bs.length := by rw [← hb1, setL_len, setL_len]
      have hb9 : b < bs1.length := by omega
      have hg1 : gB bs1 b = (cap, mf, X) := by rw [← hb1, gB_setN (by rw [setL_len]; exact hto) hbt, gB_setS hb, hg]
      have hto9 : to < bs1.length := by omega
      have hgT1 : (gB bs1 to).2.2 = T ++ Q := by rw [← hb1, gB_setS (by rw [setL_len]; exact hto)]
      obtain ⟨hI2, gc2, gm2, gr2, gp2, gb2, go2, gf2, gg2, gt2, gz2, gk2, gl2, _, _, _, h02, ⟨hgc2, hgm2, hgr2, hgp2, hgb2, hgo2, hgf2, hgg2, hgt2, hgz2, hgk2, hgl2⟩, ⟨rfl, rfl, rfl⟩, hBn2, hRu2, hPr2, hTr2, hKi2, hLi2⟩ := id hM1
      have hI := hI2
      have hnb62 := hBn2.1
      have hbk_2 := hBn2.2.2 b hb9
      rw [hg1] at hbk_2
      obtain ⟨⟨hcp_2, hmz_2⟩, ⟨hmn_2, hl9_2⟩, hrw_2⟩ := hbk_2
      dsimp only at hcp_2 hmz_2 hmn_2 hl9_2 hrw_2
      refine j_iload 7 C dX7_flows_17 rfl rfl ?_
      refine j_iload 6 C dX7_flows_19 rfl rfl ?_
      refine j_icmp_ge (tgt := 131) C dX7_flows_21 rfl rfl ⟨by omega, by omega⟩ ⟨by omega, by omega⟩ (fun cc3 => ?_) (fun cc3 => ?_)
      · have he := zr_end (L := L) (i := i) (r := r) (by omega)
        rw [he.1] at hz
        rw [he.2] at hq hc
        rw [List.append_nil] at hq
        have hfX : fpos X = ofl mf (dropL n L) := by rw [← hX, hz, fpos_ofl, fpos_zr n hokL]
        have h09 : ∀ x ∈ (gB bs1 b).2.2, 0 ≤ x.1 ∧ x.1 ≤ 2000 := by rw [hg1]; show ∀ x ∈ X, 0 ≤ x.1 ∧ x.1 ≤ 2000; rw [← hX, hz]; exact fun x hx => zr_in n hokL x (mem_ofl hx)
        have hfin : setL bs1 b (fpos (gB bs1 b).2.2) = setL (outB bs b n) to ((gB bs to).2.2 ++ takeL n (fl (gB bs b))) := by rw [hgT, hg, hLe, hout, hg1]; show setL bs1 b (fpos X) = setL (setL bs b (ofl mf (dropL n L))) to (T ++ takeL n L); rw [hfX, ← hb1, setL_comm (by rw [setL_len]; exact hto) (by rw [setL_len]; exact hb) (Ne.symm hbt), setL_same hb, hq]
        refine j_aload_n 0 C dX7_flows_131 rfl rfl rfl ?_
        refine j_iload_n 1 C dX7_flows_132 rfl rfl rfl ?_
        refine j_callV (st' := []) (As := [vi ((b : Int))]) C dX7_flows_133 rfl m_X7_117 h02 rfl rfl rfl (c_clears (kL κ) hfl (kD κ) (kc κ) σ1 am bs1 ru se pf hd ca evs ln bl th hM1 b hb9 h09) rfl (by omega) (by omega) (by omega) (fun _ _ hx => hx.elim) (fun v5 τ4 hp6 => ?_)
        obtain ⟨rfl, hN, hNk, hNd⟩ := hp6
        rw [hfin] at hN
        show J κ τ4 [(0, .ref (am 0)), (1, vi ((b : Int))), (2, vi (n)), (3, vi ((to : Int))), (4, vi (r)), (5, vi (pd)), (6, vi ((ly.length : Int))), (7, vi ((i : Int)))] 136 [] _ _
        refine j_iload 5 C dX7_flows_136 rfl rfl ?_
        exact j_iret C E dX7_flows_138 (by omega) (by omega) ⟨congrArg some (congrArg vi (by rw [hg, hLe, ← hc]; exact (Int.add_zero _).symm)), hN, hk1.tr hNk, hNd.trans hd1⟩
      · refine j_iload 4 C dX7_flows_24 rfl rfl ?_
        refine j_if_le (tgt := 131) C dX7_flows_26 rfl rfl ⟨by omega, by omega⟩ (fun cc7 => ?_) (fun cc7 => ?_)
        · have he := zr_end (L := L) (i := i) (r := r) (by omega)
          rw [he.1] at hz
          rw [he.2] at hq hc
          rw [List.append_nil] at hq
          have hfX : fpos X = ofl mf (dropL n L) := by rw [← hX, hz, fpos_ofl, fpos_zr n hokL]
          have h09 : ∀ x ∈ (gB bs1 b).2.2, 0 ≤ x.1 ∧ x.1 ≤ 2000 := by rw [hg1]; show ∀ x ∈ X, 0 ≤ x.1 ∧ x.1 ≤ 2000; rw [← hX, hz]; exact fun x hx => zr_in n hokL x (mem_ofl hx)
          have hfin : setL bs1 b (fpos (gB bs1 b).2.2) = setL (outB bs b n) to ((gB bs to).2.2 ++ takeL n (fl (gB bs b))) := by rw [hgT, hg, hLe, hout, hg1]; show setL bs1 b (fpos X) = setL (setL bs b (ofl mf (dropL n L))) to (T ++ takeL n L); rw [hfX, ← hb1, setL_comm (by rw [setL_len]; exact hto) (by rw [setL_len]; exact hb) (Ne.symm hbt), setL_same hb, hq]
          refine j_aload_n 0 C dX7_flows_131 rfl rfl rfl ?_
          refine j_iload_n 1 C dX7_flows_132 rfl rfl rfl ?_
          refine j_callV (st' := []) (As := [vi ((b : Int))]) C dX7_flows_133 rfl m_X7_117 h02 rfl rfl rfl (c_clears (kL κ) hfl (kD κ) (kc κ) σ1 am bs1 ru se pf hd ca evs ln bl th hM1 b hb9 h09) rfl (by omega) (by omega) (by omega) (fun _ _ hx => hx.elim) (fun v9 τ8 hp10 => ?_)
          obtain ⟨rfl, hN, hNk, hNd⟩ := hp10
          rw [hfin] at hN
          show J κ τ8 [(0, .ref (am 0)), (1, vi ((b : Int))), (2, vi (n)), (3, vi ((to : Int))), (4, vi (r)), (5, vi (pd)), (6, vi ((ly.length : Int))), (7, vi ((i : Int)))] 136 [] _ _
          refine j_iload 5 C dX7_flows_136 rfl rfl ?_
          exact j_iret C E dX7_flows_138 (by omega) (by omega) ⟨congrArg some (congrArg vi (by rw [hg, hLe, ← hc]; exact (Int.add_zero _).symm)), hN, hk1.tr hNk, hNd.trans hd1⟩
        · have hi9 : i < L.length := by omega
          have hx0 := hokL _ (lyAt_mem hi9)
          have hdr := drop_ly hi9
          have hflX : fl (cap, mf, X) = P ++ L.drop i := by rw [← hX]; exact fl_ofl cap mf _
          have hxX : lyAt (fl (cap, mf, X)) (i : Int) = lyAt L (i : Int) := by rw [hflX]; exact lyAt_mid hPl hi9
          obtain ⟨x, hxe⟩ : ∃ x, lyAt L (i : Int) = x := ⟨_, rfl⟩
          rw [hxe] at hx0 hdr hxX
          obtain ⟨⟨a1, a2⟩, ⟨b1, b2⟩, ⟨f1, f2⟩, g1, g2⟩ := id hx0
          rw [hdr, zr_step (by omega)] at hz
          rw [hdr, tk_step (by omega) a1] at hq
          rw [hdr, cost_step pf (by omega) a1] at hc
          have hpl := pl_in (m := mf) (n := (X.length : Int)) (i := (i : Int)) ⟨by omega, by omega⟩
          obtain ⟨p, hp9⟩ : ∃ p, pl mf X.length (i : Int) = p := ⟨_, rfl⟩
          rw [hp9] at hpl
          refine j_aload_n 0 C dX7_flows_29 rfl rfl rfl ?_
          refine j_iload_n 1 C dX7_flows_30 rfl rfl rfl ?_
          refine j_iload 7 C dX7_flows_31 rfl rfl ?_
          refine j_callV (st' := []) (As := [vi ((b : Int)), vi ((i : Int))]) C dX7_flows_33 rfl m_X7_109 h02 rfl rfl rfl (c_at (kL κ) hfl (kD κ) (kc κ) σ1 am bs1 ru se pf hd ca evs ln bl th hM1 b hb9 (i : Int)) rfl (by omega) (by omega) (by omega) (fun _ _ hx => hx.elim) (fun v12 τ11 hp13 => ?_)
          obtain ⟨rfl, hs9⟩ := hp13
          replace hs9 := hs9.symm
          subst hs9
          show J κ σ1 [(0, .ref (am 0)), (1, vi ((b : Int))), (2, vi (n)), (3, vi ((to : Int))), (4, vi (r)), (5, vi (pd)), (6, vi ((ly.length : Int))), (7, vi ((i : Int)))] 36 [vi ((90 * (b : Int) + pl (gB bs1 b).2.1 (gB bs1 b).2.2.length (i : Int)))] _ _
          rw [hg1]
          have hsh : ∀ z9 : Int, pl mf X.length (i : Int) = z9 → J κ σ1 [(0, .ref (am 0)), (1, vi ((b : Int))), (2, vi (n)), (3, vi ((to : Int))), (4, vi (r)), (5, vi (pd)), (6, vi ((ly.length : Int))), (7, vi ((i : Int)))] 36 [vi (90 * (b : Int) + z9)] 0 0 := ?_
          · exact hsh _ rfl
          intro z9 hz9
          have hz8 : z9 = p := hz9.symm.trans hp9
          subst hz8
          show J κ σ1 [(0, .ref (am 0)), (1, vi ((b : Int))), (2, vi (n)), (3, vi ((to : Int))), (4, vi (r)), (5, vi (pd)), (6, vi ((ly.length : Int))), (7, vi ((i : Int)))] 36 [vi (90 * (b : Int) + z9)] _ _
          have hpz : z9 = z9 := rfl
          have hmn : 1 ≤ min r x.1 ∧ min r x.1 ≤ 2000 ∧ min r x.1 ≤ r := by omega
          refine j_istore (lv' := [(0, .ref (am 0)), (1, vi ((b : Int))), (2, vi (n)), (3, vi ((to : Int))), (4, vi (r)), (5, vi (pd)), (6, vi ((ly.length : Int))), (7, vi ((i : Int))), (8, vi (90 * (b : Int) + z9))]) [1, 2, 3, 4, 5, 6, 7, 8, 0] C dX7_flows_36 rfl rfl rfl ?_
          refine j_iload 4 C dX7_flows_38 rfl rfl ?_
          refine j_aload_n 0 C dX7_flows_40 rfl rfl rfl ?_
          refine j_get C dX7_flows_41 rfl fg_X7_22 h02 rfl ?_
          refine j_iload 8 C dX7_flows_44 rfl rfl ?_
          refine j_iald C dX7_flows_46 rfl hgb2 ⟨by omega, by omega⟩ (by omega) ((rowF hrw_2 (c := cap) (m := mf) (i := (i : Int)) ⟨by omega, by omega⟩ (z := 90 * (b : Int) + z9) (by rw [hp9]; omega)).1.trans (by rw [hxX])) ?_
          refine j_min (z := (min r x.1)) C dX7_flows_47 rfl mm_X7_112 ms_min mi_math mc_min (Nat.le_of_ble_eq_true rfl) (by omega) (by omega) ⟨by omega, by omega⟩ ⟨by omega, by omega⟩ rfl ?_
          refine j_istore (lv' := [(0, .ref (am 0)), (1, vi ((b : Int))), (2, vi (n)), (3, vi ((to : Int))), (4, vi (r)), (5, vi (pd)), (6, vi ((ly.length : Int))), (7, vi ((i : Int))), (8, vi (90 * (b : Int) + z9)), (9, vi ((min r x.1)))]) [1, 2, 3, 4, 5, 6, 7, 8, 9, 0] C dX7_flows_50 rfl rfl rfl ?_
          refine j_iload_n 3 C dX7_flows_52 rfl rfl rfl ?_
          refine j_if_lt (tgt := 84) C dX7_flows_53 rfl rfl ⟨by omega, by omega⟩ (fun cc14 => ?_) (fun cc14 => ?_)
          · exact absurd cc14 (by omega)
          · refine j_aload_n 0 C dX7_flows_56 rfl rfl rfl ?_
            refine j_iload_n 3 C dX7_flows_57 rfl rfl rfl ?_
            refine j_iload 9 C dX7_flows_58 rfl rfl ?_
            refine j_aload_n 0 C dX7_flows_60 rfl rfl rfl ?_
            refine j_get C dX7_flows_61 rfl fg_X7_25 h02 rfl ?_
            refine j_iload 8 C dX7_flows_64 rfl rfl ?_
            refine j_iald C dX7_flows_66 rfl hgo2 ⟨by omega, by omega⟩ (by omega) ((rowF hrw_2 (c := cap) (m := mf) (i := (i : Int)) ⟨by omega, by omega⟩ (z := 90 * (b : Int) + z9) (by rw [hp9]; omega)).2.1.trans (by rw [hxX])) ?_
            refine j_aload_n 0 C dX7_flows_67 rfl rfl rfl ?_
            refine j_get C dX7_flows_68 rfl fg_X7_28 h02 rfl ?_
            refine j_iload 8 C dX7_flows_71 rfl rfl ?_
            refine j_iald C dX7_flows_73 rfl hgf2 ⟨by omega, by omega⟩ (by omega) ((rowF hrw_2 (c := cap) (m := mf) (i := (i : Int)) ⟨by omega, by omega⟩ (z := 90 * (b : Int) + z9) (by rw [hp9]; omega)).2.2.1.trans (by rw [hxX])) ?_
            refine j_aload_n 0 C dX7_flows_74 rfl rfl rfl ?_
            refine j_get C dX7_flows_75 rfl fg_X7_31 h02 rfl ?_
            refine j_iload 8 C dX7_flows_78 rfl rfl ?_
            refine j_iald C dX7_flows_80 rfl hgg2 ⟨by omega, by omega⟩ (by omega) ((rowF hrw_2 (c := cap) (m := mf) (i := (i : Int)) ⟨by omega, by omega⟩ (z := 90 * (b : Int) + z9) (by rw [hp9]; omega)).2.2.2.trans (by rw [hxX])) ?_
            have hlq := congrArg List.length hq
            rw [List.length_append, List.length_cons] at hlq
            have hlt : (gB bs1 to).2.2.length < 90 := by rw [hgT1, List.length_append]; omega
            refine j_callV (st' := []) (As := [vi ((to : Int)), vi ((min r x.1)), vi (x.2.1), vi (x.2.2.1), vi (x.2.2.2)]) C dX7_flows_81 rfl m_X7_97 h02 rfl rfl rfl (c_lays (kL κ) hfl (kD κ) (kc κ) σ1 am bs1 ru se pf hd ca evs ln bl th hM1 to hto9 hlt (min r x.1) x.2.1 x.2.2.1 x.2.2.2) rfl (by omega) (by omega) (by omega) (fun _ _ hx => hx.elim) (fun v16 τ15 hp17 => ?_)
            obtain ⟨rfl, hN, hNk, hNd⟩ := hp17
            have hkN := hk1.tr hNk
            have hdN := hNd.trans hd1
            obtain ⟨bs2, hb2⟩ : ∃ z, setL bs1 to ((gB bs1 to).2.2 ++ [(min r x.1, x.2.1, x.2.2.1, x.2.2.2)]) = z := ⟨_, rfl⟩
            rw [hb2] at hN
            show J κ τ15 [(0, .ref (am 0)), (1, vi ((b : Int))), (2, vi (n)), (3, vi ((to : Int))), (4, vi (r)), (5, vi (pd)), (6, vi ((ly.length : Int))), (7, vi ((i : Int))), (8, vi (90 * (b : Int) + z9)), (9, vi ((min r x.1)))] 84 [] _ _
            have hb29 : b < bs2.length := by rw [← hb2, setL_len]; exact hb9
            have hg2 : gB bs2 b = (cap, mf, X) := by rw [← hb2, gB_setN hto9 hbt]; exact hg1
            have he2 : bs2 = setL (setL bs b X) to (T ++ (Q ++ [(min r x.1, x.2)])) := by rw [← hb2, hgT1, ← hb1, setL_same (by rw [setL_len]; exact hto), List.append_assoc]
            obtain ⟨hI18, gc18, gm18, gr18, gp18, gb18, go18, gf18, gg18, gt18, gz18, gk18, gl18, _, _, _, h018, ⟨hgc18, hgm18, hgr18, hgp18, hgb18, hgo18, hgf18, hgg18, hgt18, hgz18, hgk18, hgl18⟩, ⟨rfl, rfl, rfl⟩, hBn18, hRu18, hPr18, hTr18, hKi18, hLi18⟩ := id hN
            have hI := hI18
            have hnb618 := hBn18.1
            have hbk_18 := hBn18.2.2 b hb29
            rw [hg2] at hbk_18
            obtain ⟨⟨hcp_18, hmz_18⟩, ⟨hmn_18, hl9_18⟩, hrw_18⟩ := hbk_18
            dsimp only at hcp_18 hmz_18 hmn_18 hl9_18 hrw_18
            refine j_aload_n 0 C dX7_flows_84 rfl rfl rfl ?_
            refine j_get C dX7_flows_85 rfl fg_X7_22 h018 rfl ?_
            refine j_iload 8 C dX7_flows_88 rfl rfl ?_
            refine j_dup2 C dX7_flows_90 rfl rfl rfl ?_
            refine j_iald C dX7_flows_91 rfl hgb18 ⟨by omega, by omega⟩ (by omega) ((rowF hrw_18 (c := cap) (m := mf) (i := (i : Int)) ⟨by omega, by omega⟩ (z := 90 * (b : Int) + z9) (by rw [hp9]; omega)).1.trans (by rw [hxX])) ?_
            refine j_iload 9 C dX7_flows_92 rfl rfl ?_
            refine j_isub C dX7_flows_94 rfl ?_
            refine j_iast C dX7_flows_95 rfl hgb18 ⟨by omega, by omega⟩ (by omega) (fun τ19 ee20 => ?_)
            have u21 := h018.ne' ee20 (hI 0 5 (by decide) (by decide) (by decide))
            have u22 := hgc18.ne' ee20 (hI 1 5 (by decide) (by decide) (by decide))
            have u23 := hgm18.ne' ee20 (hI 2 5 (by decide) (by decide) (by decide))
            have u24 := hgr18.ne' ee20 (hI 3 5 (by decide) (by decide) (by decide))
            have u25 := hgp18.ne' ee20 (hI 4 5 (by decide) (by decide) (by decide))
            have u26 : has τ19 (am 5) (iA (kc κ) 540 (ups gb18 (90 * (b : Int) + z9).toNat (x.1 - (min r x.1)))) := hgb18.self' ee20
            have u27 := hgo18.ne' ee20 (hI 6 5 (by decide) (by decide) (by decide))
            have u28 := hgf18.ne' ee20 (hI 7 5 (by decide) (by decide) (by decide))
            have u29 := hgg18.ne' ee20 (hI 8 5 (by decide) (by decide) (by decide))
            have u30 := hgt18.ne' ee20 (hI 9 5 (by decide) (by decide) (by decide))
            have u31 := hgz18.ne' ee20 (hI 10 5 (by decide) (by decide) (by decide))
            have u32 := hgk18.ne' ee20 (hI 11 5 (by decide) (by decide) (by decide))
            have u33 := hgl18.ne' ee20 (hI 12 5 (by decide) (by decide) (by decide))
            have kp34 := hkN.put ee20 ⟨5, by decide, rfl⟩
            have dm35 := (dom_put ee20).trans hdN
            refine j_iload 5 C dX7_flows_96 rfl rfl ?_
            refine j_iload 9 C dX7_flows_98 rfl rfl ?_
            refine j_aload_n 0 C dX7_flows_100 rfl rfl rfl ?_
            refine j_get C dX7_flows_101 rfl fg_X7_19 u21 rfl ?_
            refine j_aload_n 0 C dX7_flows_104 rfl rfl rfl ?_
            refine j_get C dX7_flows_105 rfl fg_X7_31 u21 rfl ?_
            refine j_iload 8 C dX7_flows_108 rfl rfl ?_
            refine j_iald C dX7_flows_110 rfl u29 ⟨by omega, by omega⟩ (by omega) ((rowF hrw_18 (c := cap) (m := mf) (i := (i : Int)) ⟨by omega, by omega⟩ (z := 90 * (b : Int) + z9) (by rw [hp9]; omega)).2.2.2.trans (by rw [hxX])) ?_
            refine j_iconst C dX7_flows_111 rfl ?_
            refine j_isub C dX7_flows_112 rfl ?_
            refine j_iald C dX7_flows_113 rfl u25 ⟨by omega, by omega⟩ (by omega) (prK hPr18 (g := x.2.2.2) ⟨by omega, by omega⟩ (z := x.2.2.2 - 1) (by omega)) ?_
            refine j_imul C dX7_flows_114 rfl ?_
            refine j_iadd C dX7_flows_115 rfl ?_
            refine j_istore (lv' := [(0, .ref (am 0)), (1, vi ((b : Int))), (2, vi (n)), (3, vi ((to : Int))), (4, vi (r)), (5, vi (pd + ((min r x.1) * (pf x.2.2.2.toNat)))), (6, vi ((ly.length : Int))), (7, vi ((i : Int))), (8, vi (90 * (b : Int) + z9)), (9, vi ((min r x.1)))]) [1, 2, 3, 4, 5, 0, 6, 7, 8, 9] C dX7_flows_116 rfl rfl rfl ?_
            refine j_iload 4 C dX7_flows_118 rfl rfl ?_
            refine j_iload 9 C dX7_flows_120 rfl rfl ?_
            refine j_isub C dX7_flows_122 rfl ?_
            refine j_istore (lv' := [(0, .ref (am 0)), (1, vi ((b : Int))), (2, vi (n)), (3, vi ((to : Int))), (4, vi (r - (min r x.1))), (5, vi (pd + ((min r x.1) * (pf x.2.2.2.toNat)))), (6, vi ((ly.length : Int))), (7, vi ((i : Int))), (8, vi (90 * (b : Int) + z9)), (9, vi ((min r x.1)))]) [1, 2, 3, 4, 0, 5, 6, 7, 8, 9] C dX7_flows_123 rfl rfl rfl ?_
            refine j_iinc (y := (i : Int) + 1) (lv' := [(0, .ref (am 0)), (1, vi ((b : Int))), (2, vi (n)), (3, vi ((to : Int))), (4, vi (r - (min r x.1))), (5, vi (pd + ((min r x.1) * (pf x.2.2.2.toNat)))), (6, vi ((ly.length : Int))), (7, vi ((i : Int) + 1)), (8, vi (90 * (b : Int) + z9)), (9, vi ((min r x.1)))]) 7 [1, 2, 3, 4, 5, 6, 7, 0, 8, 9] C dX7_flows_125 rfl rfl rfl rfl rfl ?_
            refine j_goto (tgt := 17) C dX7_flows_128 rfl ?_
            have hk9 : (90 * (b : Int) + z9).toNat = 90 * b + z9.toNat := by omega
            have hlyX : lyAt X (z9.toNat : Int) = x := by rw [← hxX, lyAt_fl ⟨by omega, by omega⟩, hp9, show ((z9.toNat : Nat) : Int) = z9 by omega]
            have hset : X.set z9.toNat (x.1 - min r x.1, x.2) = ofl mf ((P ++ [(x.1 - min r x.1, x.2)]) ++ L.drop (i + 1)) := by have e := fl_set (c := cap) (m := mf) (ly := X) (i := (i : Int)) ⟨by omega, by omega⟩ (x.1 - min r x.1, x.2); rw [hp9, hflX, hdr, Int.toNat_natCast, set_mid hPl] at e; rw [e, List.append_assoc]; rfl
            have hru := row_upd hrw_18 (j := z9.toNat) (by omega) hk9 (x.1 - min r x.1)
            rw [hlyX] at hru
            have hM3 : RM (kc κ) τ19 am (setL bs2 b (X.set z9.toNat (x.1 - min r x.1, x.2))) ru se pf hd ca evs ln bl th := ⟨hI, _, _, _, _, _, _, _, _, _, _, _, _, _, _, _, u21, ⟨u22, u23, u24, u25, u26, u27, u28, u29, u30, u31, u32, u33⟩, ⟨by rw [setL_len], rfl, rfl⟩, (hBn18.set hb29 (by rw [List.length_set]; omega) (by rw [List.length_set]; exact hmn_18) (fun _ _ => rfl) (G4_b1 (by omega) _) hru), hRu18, hPr18, hTr18, hKi18, hLi18⟩
            have he3 : setL bs2 b (X.set z9.toNat (x.1 - min r x.1, x.2)) = setL (setL bs b (ofl mf ((P ++ [(x.1 - min r x.1, x.2)]) ++ L.drop (i + 1)))) to (T ++ (Q ++ [(min r x.1, x.2)])) := by rw [hset, he2, setL_comm (by rw [setL_len]; exact hto) (by rw [setL_len]; exact hb) (Ne.symm hbt), setL_same hb]
            rw [he3] at hM3
            refine j_locals (lv' := [(0, .ref (am 0)), (1, vi ((b : Int))), (2, vi (n)), (3, vi ((to : Int))), (4, vi (r - (min r x.1))), (5, vi (pd + ((min r x.1) * (pf x.2.2.2.toNat)))), (6, vi ((ly.length : Int))), (7, vi ((i : Int) + 1))]) [0, 1, 2, 3, 4, 5, 6, 7] rfl ?_
            exact ih (i + 1) (r - min r x.1) (P ++ [(x.1 - min r x.1, x.2)]) (Q ++ [(min r x.1, x.2)]) _ τ19 hM3 kp34 dm35 (by rw [List.append_assoc]; exact hz) (by rw [List.append_assoc]; exact hq) (by rw [Int.add_assoc]; exact hc) (by rw [List.length_append, hPl]; rfl) (by omega) (by omega) (by omega)
  exact lp _ 0 n [] [] 0 σ (by show RM _ _ _ (setL (setL bs b (ofl mf L)) to (T ++ [])) _ _ _ _ _ _ _ _ _; rw [hlyL, List.append_nil, show setL bs b ly = bs by have e := setL_self hb; rw [hg] at e; exact e, show setL bs to T = bs by have e := setL_self hto; rw [hgT] at e; exact e]; exact hM) Keep.rf rfl rfl rfl (Int.zero_add _) rfl (Nat.zero_le _) hn (Nat.lt_succ_self _)
