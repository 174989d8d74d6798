/-! GrainElevatorModel: blends, share; what is asked first; numbers -/
theorem lin_step {f : Ly → Int} {r : Int} (h : 0 < r) {x : Ly} (hx : 1 ≤ x.1) (l : List Ly) : sumL f (takeL r (x :: l)) = f (min r x.1, x.2) + sumL f (takeL (r - min r x.1) l) := by
  rw [tk_step h hx]
  rfl
set_option maxHeartbeats 8000000 in
set_option maxRecDepth 20000 in
theorem c_blends (l : Launch) (hfl : l.stackTraces = false) (D : va_G) (cy : Nat → Nat) (σ : Wd) (am : Nat → Nat) (bs : List Bn) (ru : Nat → Int × Int) (se : Int) (pf : Nat → Int) (hd : Hd) (ca : Int) (evs : List Evt) (ln : List Int) (bl : Int × Int × Int) (th : Int) (hM : RM cy σ am bs ru se pf hd ca evs ln bl th) (b : Nat) (hb : b < bs.length) (hok : lysOk (gB bs b).2.2) (n : Int) (hn : 0 ≤ n ∧ n ≤ 1000000) : Ct l yX7_blends cX7_blends 7 none 1 0 0 D cy [.ref (am 0), vi ((b : Int)), vi (n)] σ (fun v σ' => v = none ∧ RM cy σ' am bs ru se pf hd ca evs ln (bl.1 + sumL wf (takeL n (fl (gB bs b))), bl.2.1 + sumL df (takeL n (fl (gB bs b))), bl.2.2 + sumL (cf pf) (takeL n (fl (gB bs b)))) th ∧ Keep σ σ' (inM am) ∧ σ'.1 = σ.1) noX := by
  refine ct_start (by decide +kernel) hfl rfl (fun κ e1 e2 e3 C E NH => ?_)
  subst e1 e2 e3
  have C : Cx κ cX7_blends 7 RX7 "blends" 1 := C
  obtain ⟨-, -, -, -, hc, hs⟩ := id E
  show J κ σ [(0, .ref (am 0)), (1, vi ((b : Int))), (2, vi (n))] 0 [] 0 0
  obtain ⟨hI1, gc1, gm1, gr1, gp1, gb1, go1, gf1, gg1, gt1, gz1, gk1, gl1, _, _, _, h01, ⟨hgc1, hgm1, hgr1, hgp1, hgb1, hgo1, hgf1, hgg1, hgt1, hgz1, hgk1, hgl1⟩, ⟨rfl, rfl, rfl⟩, hBn1, hRu1, hPr1, hTr1, hKi1, hLi1⟩ := id hM
  have hI := hI1
  have hnb61 := hBn1.1
  have kp0 : Keep σ σ (inM am) := Keep.rf
  have dm0 : σ.1 = σ.1 := rfl
  obtain ⟨⟨cap, mf, ly⟩, hg⟩ : ∃ z, gB bs (b : Int) = z := ⟨_, rfl⟩
  have hbk_1 := hBn1.2.2 b hb
  rw [hg] at hbk_1
  obtain ⟨⟨hcp_1, hmz_1⟩, ⟨hmn_1, hl9_1⟩, hrw_1⟩ := hbk_1
  dsimp only at hcp_1 hmz_1 hmn_1 hl9_1 hrw_1
  rw [hg] at hok
  dsimp only at hok
  obtain ⟨L, hLe⟩ : ∃ L, fl (cap, mf, ly) = L := ⟨_, rfl⟩
  have hokL : lysOk L := by rw [← hLe]; exact fl_ok (b := (cap, mf, ly)) hok
  have hlL : L.length = ly.length := by rw [← hLe, fl_len]
  refine j_iload_n 2 C dX7_blends_0 rfl rfl rfl ?_
  refine j_istore_n (lv' := [(0, .ref (am 0)), (1, vi ((b : Int))), (2, vi (n)), (3, vi (n))]) [1, 2, 3, 0] C dX7_blends_1 rfl rfl rfl rfl ?_
  refine j_iconst C dX7_blends_2 rfl ?_
  refine j_istore (lv' := [(0, .ref (am 0)), (1, vi ((b : Int))), (2, vi (n)), (3, vi (n)), (4, vi (0))]) [1, 2, 3, 4, 0] C dX7_blends_3 rfl rfl rfl ?_
  have lp : ∀ (N : Nat) (i : Nat) (r : Int) (bl1 : Int × Int × Int) (σ1 : Wd), RM (kc κ) σ1 am bs ru se pf hd ca evs ln bl1 th → Keep σ σ1 (inM am) → σ1.1 = σ.1 → bl1.1 + sumL wf (takeL r (L.drop i)) = bl.1 + sumL wf (takeL n L) → bl1.2.1 + sumL df (takeL r (L.drop i)) = bl.2.1 + sumL df (takeL n L) → bl1.2.2 + sumL (cf pf) (takeL r (L.drop i)) = bl.2.2 + sumL (cf pf) (takeL n L) → i ≤ L.length → (0 ≤ r ∧ r ≤ 1000000) → (L.length + 1 - i) < N → J κ σ1 [(0, .ref (am 0)), (1, vi ((b : Int))), (2, vi (n)), (3, vi (r)), (4, vi ((i : Int)))] 5 [] 0 0 := by
    intro N
    induction N with
    | zero => intro i r bl1 σ1 hM1 hk1 hd1 hw hf hc hi hr hN; exact absurd hN (Nat.not_lt_zero _)
    | succ N ih =>
      intro i r bl1 σ1 hM1 hk1 hd1 hw hf hc hi hr hN
      obtain ⟨hI2, gc2, gm2, gr2, gp2, gb2, go2, gf2, gg2, gt2, gz2, gk2, gl2, _, _, _, h02, ⟨hgc2, hgm2, hgr2, hgp2, hgb2, hgo2, hgf2, hgg2, hgt2, hgz2, hgk2, hgl2⟩, ⟨rfl, rfl, rfl⟩, hBn2, hRu2, hPr2, hTr2, hKi2, hLi2⟩ := id hM1
      have hI := hI2
      have hnb62 := hBn2.1
      have hbk_2 := hBn2.2.2 b hb
      rw [hg] at hbk_2
      obtain ⟨⟨hcp_2, hmz_2⟩, ⟨hmn_2, hl9_2⟩, hrw_2⟩ := hbk_2
      dsimp only at hcp_2 hmz_2 hmn_2 hl9_2 hrw_2
      refine j_iload 4 C dX7_blends_5 rfl rfl ?_
      refine j_aload_n 0 C dX7_blends_7 rfl rfl rfl ?_
      refine j_get C dX7_blends_8 rfl fg_X7_13 h02 rfl ?_
      refine j_iload_n 1 C dX7_blends_11 rfl rfl rfl ?_
      refine j_iald C dX7_blends_12 rfl hgm2 ⟨by omega, by omega⟩ (by omega) hmn_2 ?_
      refine j_icmp_ge (tgt := 117) C dX7_blends_13 rfl rfl ⟨by omega, by omega⟩ ⟨by omega, by omega⟩ (fun cc3 => ?_) (fun cc3 => ?_)
      · have he := zr_end (L := L) (i := i) (r := r) (by omega)
        rw [he.2] at hw hf hc
        simp only [sumL, Int.add_zero] at hw hf hc
        exact j_vret C E dX7_blends_117 (by omega) (by omega) ⟨rfl, by rw [hg, hLe, ← hw, ← hf, ← hc]; exact hM1, hk1, hd1⟩
      · refine j_iload_n 3 C dX7_blends_16 rfl rfl rfl ?_
        refine j_if_le (tgt := 117) C dX7_blends_17 rfl rfl ⟨by omega, by omega⟩ (fun cc4 => ?_) (fun cc4 => ?_)
        · have he := zr_end (L := L) (i := i) (r := r) (by omega)
          rw [he.2] at hw hf hc
          simp only [sumL, Int.add_zero] at hw hf hc
          exact j_vret C E dX7_blends_117 (by omega) (by omega) ⟨rfl, by rw [hg, hLe, ← hw, ← hf, ← hc]; exact hM1, hk1, hd1⟩
        · have hi9 : i < L.length := by omega
          have hx0 := hokL _ (lyAt_mem hi9)
          have hdr := drop_ly hi9
          have hxX : lyAt (fl (cap, mf, ly)) (i : Int) = lyAt L (i : Int) := by rw [hLe]
          obtain ⟨x, hxe⟩ : ∃ x, lyAt L (i : Int) = x := ⟨_, rfl⟩
          rw [hxe] at hx0 hdr hxX
          obtain ⟨⟨a1, a2⟩, ⟨b1, b2⟩, ⟨f1, f2⟩, g1, g2⟩ := id hx0
          rw [hdr, lin_step (by omega) a1] at hw hf hc
          have hpl := pl_in (m := mf) (n := (ly.length : Int)) (i := (i : Int)) ⟨by omega, by omega⟩
          refine j_aload_n 0 C dX7_blends_20 rfl rfl rfl ?_
          refine j_iload_n 1 C dX7_blends_21 rfl rfl rfl ?_
          refine j_iload 4 C dX7_blends_22 rfl rfl ?_
          refine j_callV (st' := []) (As := [vi ((b : Int)), vi ((i : Int))]) C dX7_blends_24 rfl m_X7_109 h02 rfl rfl rfl (c_at (kL κ) hfl (kD κ) (kc κ) σ1 am bs ru se pf hd ca evs ln bl1 th hM1 b hb (i : Int)) rfl (by omega) (by omega) (by omega) (fun _ _ hx => hx.elim) (fun v6 τ5 hp7 => ?_)
          obtain ⟨rfl, hs9⟩ := hp7
          replace hs9 := hs9.symm
          subst hs9
          show J κ σ1 [(0, .ref (am 0)), (1, vi ((b : Int))), (2, vi (n)), (3, vi (r)), (4, vi ((i : Int)))] 27 [vi ((90 * (b : Int) + pl (gB bs b).2.1 (gB bs b).2.2.length (i : Int)))] _ _
          rw [hg]
          have hsh : ∀ z9 : Int, pl mf ly.length (i : Int) = z9 → J κ σ1 [(0, .ref (am 0)), (1, vi ((b : Int))), (2, vi (n)), (3, vi (r)), (4, vi ((i : Int)))] 27 [vi (90 * (b : Int) + z9)] 0 0 := ?_
          · exact hsh _ rfl
          intro z9 hz9
          rw [hz9] at hpl
          have hmn : 1 ≤ min r x.1 ∧ min r x.1 ≤ 2000 ∧ min r x.1 ≤ r := by omega
          refine j_istore (lv' := [(0, .ref (am 0)), (1, vi ((b : Int))), (2, vi (n)), (3, vi (r)), (4, vi ((i : Int))), (5, vi (90 * (b : Int) + z9))]) [1, 2, 3, 4, 5, 0] C dX7_blends_27 rfl rfl rfl ?_
          refine j_iload_n 3 C dX7_blends_29 rfl rfl rfl ?_
          refine j_aload_n 0 C dX7_blends_30 rfl rfl rfl ?_
          refine j_get C dX7_blends_31 rfl fg_X7_22 h02 rfl ?_
          refine j_iload 5 C dX7_blends_34 rfl rfl ?_
          refine j_iald C dX7_blends_36 rfl hgb2 ⟨by omega, by omega⟩ (by omega) ((rowF hrw_2 (c := cap) (m := mf) (i := (i : Int)) ⟨by omega, by omega⟩ (z := 90 * (b : Int) + z9) (by rw [hz9]; omega)).1.trans (by rw [hxX])) ?_
          refine j_min (z := (min r x.1)) C dX7_blends_37 rfl mm_X7_112 ms_min mi_math mc_min (Nat.le_of_ble_eq_true rfl) (by omega) (by omega) ⟨by omega, by omega⟩ ⟨by omega, by omega⟩ rfl ?_
          refine j_istore (lv' := [(0, .ref (am 0)), (1, vi ((b : Int))), (2, vi (n)), (3, vi (r)), (4, vi ((i : Int))), (5, vi (90 * (b : Int) + z9)), (6, vi ((min r x.1)))]) [1, 2, 3, 4, 5, 6, 0] C dX7_blends_40 rfl rfl rfl ?_
          refine j_aload_n 0 C dX7_blends_42 rfl rfl rfl ?_
          refine j_dup C dX7_blends_43 rfl rfl ?_
          refine j_get C dX7_blends_44 rfl fg_X7_141 h02 rfl ?_
          refine j_iload 6 C dX7_blends_47 rfl rfl ?_
          refine j_aload_n 0 C dX7_blends_49 rfl rfl rfl ?_
          refine j_get C dX7_blends_50 rfl fg_X7_25 h02 rfl ?_
          refine j_iload 5 C dX7_blends_53 rfl rfl ?_
          refine j_iald C dX7_blends_55 rfl hgo2 ⟨by omega, by omega⟩ (by omega) ((rowF hrw_2 (c := cap) (m := mf) (i := (i : Int)) ⟨by omega, by omega⟩ (z := 90 * (b : Int) + z9) (by rw [hz9]; omega)).2.1.trans (by rw [hxX])) ?_
          refine j_imul C dX7_blends_56 rfl ?_
          refine j_iadd C dX7_blends_57 rfl ?_
          refine j_put (fs' := [.ref (am 1), .ref (am 2), .ref (am 3), .ref (am 4), .ref (am 5), .ref (am 6), .ref (am 7), .ref (am 8), .ref (am 9), .ref (am 10), .ref (am 11), .ref (am 12), vi ((bs.length : Int)), vi (se), vi ((evs.length : Int)), vi (hd.2.1), vi (hd.2.2.2.1), vi (hd.2.2.1), vi ((ln.length : Int)), vi (bl1.1 + ((min r x.1) * x.2.1)), vi (bl1.2.1), vi (bl1.2.2), vi (th), vl (hd.2.2.2.2), vl (ca)]) C dX7_blends_58 rfl fa_X7_141 h02 rfl rfl rfl rfl (fun τ8 ee9 => ?_)
          have u10 : has τ8 (am 0) (.inr (7, [.ref (am 1), .ref (am 2), .ref (am 3), .ref (am 4), .ref (am 5), .ref (am 6), .ref (am 7), .ref (am 8), .ref (am 9), .ref (am 10), .ref (am 11), .ref (am 12), vi ((bs.length : Int)), vi (se), vi ((evs.length : Int)), vi (hd.2.1), vi (hd.2.2.2.1), vi (hd.2.2.1), vi ((ln.length : Int)), vi (bl1.1 + ((min r x.1) * x.2.1)), vi (bl1.2.1), vi (bl1.2.2), vi (th), vl (hd.2.2.2.2), vl (ca)])) := h02.self' ee9
          have u11 := hgc2.ne' ee9 (hI 1 0 (by decide) (by decide) (by decide))
          have u12 := hgm2.ne' ee9 (hI 2 0 (by decide) (by decide) (by decide))
          have u13 := hgr2.ne' ee9 (hI 3 0 (by decide) (by decide) (by decide))
          have u14 := hgp2.ne' ee9 (hI 4 0 (by decide) (by decide) (by decide))
          have u15 := hgb2.ne' ee9 (hI 5 0 (by decide) (by decide) (by decide))
          have u16 := hgo2.ne' ee9 (hI 6 0 (by decide) (by decide) (by decide))
          have u17 := hgf2.ne' ee9 (hI 7 0 (by decide) (by decide) (by decide))
          have u18 := hgg2.ne' ee9 (hI 8 0 (by decide) (by decide) (by decide))
          have u19 := hgt2.ne' ee9 (hI 9 0 (by decide) (by decide) (by decide))
          have u20 := hgz2.ne' ee9 (hI 10 0 (by decide) (by decide) (by decide))
          have u21 := hgk2.ne' ee9 (hI 11 0 (by decide) (by decide) (by decide))
          have u22 := hgl2.ne' ee9 (hI 12 0 (by decide) (by decide) (by decide))
          have kp23 := hk1.put ee9 ⟨0, by decide, rfl⟩
          have dm24 := (dom_put ee9).trans hd1
          refine j_aload_n 0 C dX7_blends_61 rfl rfl rfl ?_
          refine j_dup C dX7_blends_62 rfl rfl ?_
          refine j_get C dX7_blends_63 rfl fg_X7_144 u10 rfl ?_
          refine j_iload 6 C dX7_blends_66 rfl rfl ?_
          refine j_aload_n 0 C dX7_blends_68 rfl rfl rfl ?_
          refine j_get C dX7_blends_69 rfl fg_X7_28 u10 rfl ?_
          refine j_iload 5 C dX7_blends_72 rfl rfl ?_
          refine j_iald C dX7_blends_74 rfl u17 ⟨by omega, by omega⟩ (by omega) ((rowF hrw_2 (c := cap) (m := mf) (i := (i : Int)) ⟨by omega, by omega⟩ (z := 90 * (b : Int) + z9) (by rw [hz9]; omega)).2.2.1.trans (by rw [hxX])) ?_
          refine j_imul C dX7_blends_75 rfl ?_
          refine j_iadd C dX7_blends_76 rfl ?_
          refine j_put (fs' := [.ref (am 1), .ref (am 2), .ref (am 3), .ref (am 4), .ref (am 5), .ref (am 6), .ref (am 7), .ref (am 8), .ref (am 9), .ref (am 10), .ref (am 11), .ref (am 12), vi ((bs.length : Int)), vi (se), vi ((evs.length : Int)), vi (hd.2.1), vi (hd.2.2.2.1), vi (hd.2.2.1), vi ((ln.length : Int)), vi (bl1.1 + ((min r x.1) * x.2.1)), vi (bl1.2.1 + ((min r x.1) * x.2.2.1)), vi (bl1.2.2), vi (th), vl (hd.2.2.2.2), vl (ca)]) C dX7_blends_77 rfl fa_X7_144 u10 rfl rfl rfl rfl (fun τ25 ee26 => ?_)
          have u27 : has τ25 (am 0) (.inr (7, [.ref (am 1), .ref (am 2), .ref (am 3), .ref (am 4), .ref (am 5), .ref (am 6), .ref (am 7), .ref (am 8), .ref (am 9), .ref (am 10), .ref (am 11), .ref (am 12), vi ((bs.length : Int)), vi (se), vi ((evs.length : Int)), vi (hd.2.1), vi (hd.2.2.2.1), vi (hd.2.2.1), vi ((ln.length : Int)), vi (bl1.1 + ((min r x.1) * x.2.1)), vi (bl1.2.1 + ((min r x.1) * x.2.2.1)), vi (bl1.2.2), vi (th), vl (hd.2.2.2.2), vl (ca)])) := u10.self' ee26
          have u28 := u11.ne' ee26 (hI 1 0 (by decide) (by decide) (by decide))
          have u29 := u12.ne' ee26 (hI 2 0 (by decide) (by decide) (by decide))
          have u30 := u13.ne' ee26 (hI 3 0 (by decide) (by decide) (by decide))
          have u31 := u14.ne' ee26 (hI 4 0 (by decide) (by decide) (by decide))
          have u32 := u15.ne' ee26 (hI 5 0 (by decide) (by decide) (by decide))
          have u33 := u16.ne' ee26 (hI 6 0 (by decide) (by decide) (by decide))
          have u34 := u17.ne' ee26 (hI 7 0 (by decide) (by decide) (by decide))
          have u35 := u18.ne' ee26 (hI 8 0 (by decide) (by decide) (by decide))
          have u36 := u19.ne' ee26 (hI 9 0 (by decide) (by decide) (by decide))
          have u37 := u20.ne' ee26 (hI 10 0 (by decide) (by decide) (by decide))
          have u38 := u21.ne' ee26 (hI 11 0 (by decide) (by decide) (by decide))
          have u39 := u22.ne' ee26 (hI 12 0 (by decide) (by decide) (by decide))
          have kp40 := kp23.put ee26 ⟨0, by decide, rfl⟩
          have dm41 := (dom_put ee26).trans dm24
          refine j_aload_n 0 C dX7_blends_80 rfl rfl rfl ?_
          refine j_dup C dX7_blends_81 rfl rfl ?_
          refine j_get C dX7_blends_82 rfl fg_X7_147 u27 rfl ?_
          refine j_iload 6 C dX7_blends_85 rfl rfl ?_
          refine j_aload_n 0 C dX7_blends_87 rfl rfl rfl ?_
          refine j_get C dX7_blends_88 rfl fg_X7_19 u27 rfl ?_
          refine j_aload_n 0 C dX7_blends_91 rfl rfl rfl ?_
          refine j_get C dX7_blends_92 rfl fg_X7_31 u27 rfl ?_
          refine j_iload 5 C dX7_blends_95 rfl rfl ?_
          refine j_iald C dX7_blends_97 rfl u35 ⟨by omega, by omega⟩ (by omega) ((rowF hrw_2 (c := cap) (m := mf) (i := (i : Int)) ⟨by omega, by omega⟩ (z := 90 * (b : Int) + z9) (by rw [hz9]; omega)).2.2.2.trans (by rw [hxX])) ?_
          refine j_iconst C dX7_blends_98 rfl ?_
          refine j_isub C dX7_blends_99 rfl ?_
          refine j_iald C dX7_blends_100 rfl u31 ⟨by omega, by omega⟩ (by omega) (prK hPr2 (g := x.2.2.2) ⟨by omega, by omega⟩ (z := x.2.2.2 - 1) (by omega)) ?_
          refine j_imul C dX7_blends_101 rfl ?_
          refine j_iadd C dX7_blends_102 rfl ?_
          refine j_put (fs' := [.ref (am 1), .ref (am 2), .ref (am 3), .ref (am 4), .ref (am 5), .ref (am 6), .ref (am 7), .ref (am 8), .ref (am 9), .ref (am 10), .ref (am 11), .ref (am 12), vi ((bs.length : Int)), vi (se), vi ((evs.length : Int)), vi (hd.2.1), vi (hd.2.2.2.1), vi (hd.2.2.1), vi ((ln.length : Int)), vi (bl1.1 + ((min r x.1) * x.2.1)), vi (bl1.2.1 + ((min r x.1) * x.2.2.1)), vi (bl1.2.2 + ((min r x.1) * (pf x.2.2.2.toNat))), vi (th), vl (hd.2.2.2.2), vl (ca)]) C dX7_blends_103 rfl fa_X7_147 u27 rfl rfl rfl rfl (fun τ42 ee43 => ?_)
          have u44 : has τ42 (am 0) (.inr (7, [.ref (am 1), .ref (am 2), .ref (am 3), .ref (am 4), .ref (am 5), .ref (am 6), .ref (am 7), .ref (am 8), .ref (am 9), .ref (am 10), .ref (am 11), .ref (am 12), vi ((bs.length : Int)), vi (se), vi ((evs.length : Int)), vi (hd.2.1), vi (hd.2.2.2.1), vi (hd.2.2.1), vi ((ln.length : Int)), vi (bl1.1 + ((min r x.1) * x.2.1)), vi (bl1.2.1 + ((min r x.1) * x.2.2.1)), vi (bl1.2.2 + ((min r x.1) * (pf x.2.2.2.toNat))), vi (th), vl (hd.2.2.2.2), vl (ca)])) := u27.self' ee43
          have u45 := u28.ne' ee43 (hI 1 0 (by decide) (by decide) (by decide))
          have u46 := u29.ne' ee43 (hI 2 0 (by decide) (by decide) (by decide))
          have u47 := u30.ne' ee43 (hI 3 0 (by decide) (by decide) (by decide))
          have u48 := u31.ne' ee43 (hI 4 0 (by decide) (by decide) (by decide))
          have u49 := u32.ne' ee43 (hI 5 0 (by decide) (by decide) (by decide))
          have u50 := u33.ne' ee43 (hI 6 0 (by decide) (by decide) (by decide))
          have u51 := u34.ne' ee43 (hI 7 0 (by decide) (by decide) (by decide))
          have u52 := u35.ne' ee43 (hI 8 0 (by decide) (by decide) (by decide))
          have u53 := u36.ne' ee43 (hI 9 0 (by decide) (by decide) (by decide))
          have u54 := u37.ne' ee43 (hI 10 0 (by decide) (by decide) (by decide))
          have u55 := u38.ne' ee43 (hI 11 0 (by decide) (by decide) (by decide))
          have u56 := u39.ne' ee43 (hI 12 0 (by decide) (by decide) (by decide))
          have kp57 := kp40.put ee43 ⟨0, by decide, rfl⟩
          have dm58 := (dom_put ee43).trans dm41
          refine j_iload_n 3 C dX7_blends_106 rfl rfl rfl ?_
          refine j_iload 6 C dX7_blends_107 rfl rfl ?_
          refine j_isub C dX7_blends_109 rfl ?_
          refine j_istore_n (lv' := [(0, .ref (am 0)), (1, vi ((b : Int))), (2, vi (n)), (3, vi (r - (min r x.1))), (4, vi ((i : Int))), (5, vi (90 * (b : Int) + z9)), (6, vi ((min r x.1)))]) [1, 2, 3, 0, 4, 5, 6] C dX7_blends_110 rfl rfl rfl rfl ?_
          refine j_iinc (y := (i : Int) + 1) (lv' := [(0, .ref (am 0)), (1, vi ((b : Int))), (2, vi (n)), (3, vi (r - (min r x.1))), (4, vi ((i : Int) + 1)), (5, vi (90 * (b : Int) + z9)), (6, vi ((min r x.1)))]) 4 [1, 2, 3, 4, 0, 5, 6] C dX7_blends_111 rfl rfl rfl rfl rfl ?_
          refine j_goto (tgt := 5) C dX7_blends_114 rfl ?_
          have hM2 : RM (kc κ) τ42 am bs ru se pf hd ca evs ln (bl1.1 + ((min r x.1) * x.2.1), bl1.2.1 + ((min r x.1) * x.2.2.1), bl1.2.2 + ((min r x.1) * (pf x.2.2.2.toNat))) th := ⟨hI, _, _, _, _, _, _, _, _, _, _, _, _, _, _, _, u44, ⟨u45, u46, u47, u48, u49, u50, u51, u52, u53, u54, u55, u56⟩, ⟨rfl, rfl, rfl⟩, hBn2, hRu2, hPr2, hTr2, hKi2, hLi2⟩
          refine j_locals (lv' := [(0, .ref (am 0)), (1, vi ((b : Int))), (2, vi (n)), (3, vi (r - (min r x.1))), (4, vi ((i : Int) + 1))]) [0, 1, 2, 3, 4] rfl ?_
          exact ih (i + 1) (r - min r x.1) _ τ42 hM2 kp57 dm58 (by rw [← hw]; exact Int.add_assoc _ _ _) (by rw [← hf]; exact Int.add_assoc _ _ _) (by rw [← hc]; exact Int.add_assoc _ _ _) (by omega) (by omega) (by omega)
  exact lp _ 0 n bl σ hM Keep.rf rfl rfl rfl rfl (Nat.zero_le _) hn (Nat.lt_succ_self _)
def mixD (L1 L2 : List Ly) (n s : Int) : Int := sumL df (takeL s L1) + sumL df (takeL (n - s) L2)
/-- what the blend of a share brings -/
abbrev mixB (pf : Nat → Int) (L1 L2 : List Ly) (n s : Int) : Int × Int × Int := (mixW L1 L2 n s, mixD L1 L2 n s, mixC pf L1 L2 n s)
set_option maxHeartbeats 4000000 in
set_option maxRecDepth 20000 in
theorem c_blends2 (l : Launch) (hfl : l.stackTraces = false) (D : va_G) (cy : Nat → Nat) (σ : Wd) (am : Nat → Nat) (bs : List Bn) (ru : Nat → Int × Int) (se : Int) (pf : Nat → Int) (hd : Hd) (ca : Int) (evs : List Evt) (ln : List Int) (bl : Int × Int × Int) (th : Int) (hM : RM cy σ am bs ru se pf hd ca evs ln bl th) (a b : Nat) (ha : a < bs.length) (hb : b < bs.length) (hoa : lysOk (gB bs a).2.2) (hob : lysOk (gB bs b).2.2) (s n : Int) (hs9 : 0 ≤ s ∧ s ≤ 1000000) (hns : 0 ≤ n - s ∧ n - s ≤ 1000000) : Ct l yX7_blends_ cX7_blends_ 5 none 2 0 0 D cy [.ref (am 0), vi ((a : Int)), vi ((b : Int)), vi (s), vi (n)] σ (fun v σ' => v = none ∧ RM cy σ' am bs ru se pf hd ca evs ln (mixB pf (fl (gB bs a)) (fl (gB bs b)) n s) th ∧ Keep σ σ' (inM am) ∧ σ'.1 = σ.1) noX := by
  refine ct_start (by decide +kernel) hfl rfl (fun κ e1 e2 e3 C E NH => ?_)
  subst e1 e2 e3
  have C : Cx κ cX7_blends_ 5 RX7 "blends" 2 := C
  obtain ⟨-, -, -, -, hc, hs⟩ := id E
  show J κ σ [(0, .ref (am 0)), (1, vi ((a : Int))), (2, vi ((b : Int))), (3, vi (s)), (4, vi (n))] 0 [] 0 0
  obtain ⟨hI1, gc1, gm1, gr1, gp1, gb1, go1, gf1, gg1, gt1, gz1, gk1, gl1, _, _, _, h01, ⟨hgc1, hgm1, hgr1, hgp1, hgb1, hgo1, hgf1, hgg1, hgt1, hgz1, hgk1, hgl1⟩, ⟨rfl, rfl, rfl⟩, hBn1, hRu1, hPr1, hTr1, hKi1, hLi1⟩ := id hM
  have hI := hI1
  have hnb61 := hBn1.1
  have kp0 : Keep σ σ (inM am) := Keep.rf
  have dm0 : σ.1 = σ.1 := rfl
  refine j_aload_n 0 C dX7_blends__0 rfl rfl rfl ?_
  refine j_iconst C dX7_blends__1 rfl ?_
  refine j_put (fs' := [.ref (am 1), .ref (am 2), .ref (am 3), .ref (am 4), .ref (am 5), .ref (am 6), .ref (am 7), .ref (am 8), .ref (am 9), .ref (am 10), .ref (am 11), .ref (am 12), vi ((bs.length : Int)), vi (se), vi ((evs.length : Int)), vi (hd.2.1), vi (hd.2.2.2.1), vi (hd.2.2.1), vi ((ln.length : Int)), vi (0), vi (bl.2.1), vi (bl.2.2), vi (th), vl (hd.2.2.2.2), vl (ca)]) C dX7_blends__2 rfl fa_X7_141 h01 rfl rfl rfl rfl (fun τ2 ee3 => ?_)
  have u4 : has τ2 (am 0) (.inr (7, [.ref (am 1), .ref (am 2), .ref (am 3), .ref (am 4), .ref (am 5), .ref (am 6), .ref (am 7), .ref (am 8), .ref (am 9), .ref (am 10), .ref (am 11), .ref (am 12), vi ((bs.length : Int)), vi (se), vi ((evs.length : Int)), vi (hd.2.1), vi (hd.2.2.2.1), vi (hd.2.2.1), vi ((ln.length : Int)), vi (0), vi (bl.2.1), vi (bl.2.2), vi (th), vl (hd.2.2.2.2), vl (ca)])) := h01.self' ee3
  have u5 := hgc1.ne' ee3 (hI 1 0 (by decide) (by decide) (by decide))
  have u6 := hgm1.ne' ee3 (hI 2 0 (by decide) (by decide) (by decide))
  have u7 := hgr1.ne' ee3 (hI 3 0 (by decide) (by decide) (by decide))
  have u8 := hgp1.ne' ee3 (hI 4 0 (by decide) (by decide) (by decide))
  have u9 := hgb1.ne' ee3 (hI 5 0 (by decide) (by decide) (by decide))
  have u10 := hgo1.ne' ee3 (hI 6 0 (by decide) (by decide) (by decide))
  have u11 := hgf1.ne' ee3 (hI 7 0 (by decide) (by decide) (by decide))
  have u12 := hgg1.ne' ee3 (hI 8 0 (by decide) (by decide) (by decide))
  have u13 := hgt1.ne' ee3 (hI 9 0 (by decide) (by decide) (by decide))
  have u14 := hgz1.ne' ee3 (hI 10 0 (by decide) (by decide) (by decide))
  have u15 := hgk1.ne' ee3 (hI 11 0 (by decide) (by decide) (by decide))
  have u16 := hgl1.ne' ee3 (hI 12 0 (by decide) (by decide) (by decide))
  have kp17 := kp0.put ee3 ⟨0, by decide, rfl⟩
  have dm18 := (dom_put ee3).trans dm0
  refine j_aload_n 0 C dX7_blends__5 rfl rfl rfl ?_
  refine j_iconst C dX7_blends__6 rfl ?_
  refine j_put (fs' := [.ref (am 1), .ref (am 2), .ref (am 3), .ref (am 4), .ref (am 5), .ref (am 6), .ref (am 7), .ref (am 8), .ref (am 9), .ref (am 10), .ref (am 11), .ref (am 12), vi ((bs.length : Int)), vi (se), vi ((evs.length : Int)), vi (hd.2.1), vi (hd.2.2.2.1), vi (hd.2.2.1), vi ((ln.length : Int)), vi (0), vi (0), vi (bl.2.2), vi (th), vl (hd.2.2.2.2), vl (ca)]) C dX7_blends__7 rfl fa_X7_144 u4 rfl rfl rfl rfl (fun τ19 ee20 => ?_)
  have u21 : has τ19 (am 0) (.inr (7, [.ref (am 1), .ref (am 2), .ref (am 3), .ref (am 4), .ref (am 5), .ref (am 6), .ref (am 7), .ref (am 8), .ref (am 9), .ref (am 10), .ref (am 11), .ref (am 12), vi ((bs.length : Int)), vi (se), vi ((evs.length : Int)), vi (hd.2.1), vi (hd.2.2.2.1), vi (hd.2.2.1), vi ((ln.length : Int)), vi (0), vi (0), vi (bl.2.2), vi (th), vl (hd.2.2.2.2), vl (ca)])) := u4.self' ee20
  have u22 := u5.ne' ee20 (hI 1 0 (by decide) (by decide) (by decide))
  have u23 := u6.ne' ee20 (hI 2 0 (by decide) (by decide) (by decide))
  have u24 := u7.ne' ee20 (hI 3 0 (by decide) (by decide) (by decide))
  have u25 := u8.ne' ee20 (hI 4 0 (by decide) (by decide) (by decide))
  have u26 := u9.ne' ee20 (hI 5 0 (by decide) (by decide) (by decide))
  have u27 := u10.ne' ee20 (hI 6 0 (by decide) (by decide) (by decide))
  have u28 := u11.ne' ee20 (hI 7 0 (by decide) (by decide) (by decide))
  have u29 := u12.ne' ee20 (hI 8 0 (by decide) (by decide) (by decide))
  have u30 := u13.ne' ee20 (hI 9 0 (by decide) (by decide) (by decide))
  have u31 := u14.ne' ee20 (hI 10 0 (by decide) (by decide) (by decide))
  have u32 := u15.ne' ee20 (hI 11 0 (by decide) (by decide) (by decide))
  have u33 := u16.ne' ee20 (hI 12 0 (by decide) (by decide) (by decide))
  have kp34 := kp17.put ee20 ⟨0, by decide, rfl⟩
  have dm35 := (dom_put ee20).trans dm18
  refine j_aload_n 0 C dX7_blends__10 rfl rfl rfl ?_
  refine j_iconst C dX7_blends__11 rfl ?_
  refine j_put (fs' := [.ref (am 1), .ref (am 2), .ref (am 3), .ref (am 4), .ref (am 5), .ref (am 6), .ref (am 7), .ref (am 8), .ref (am 9), .ref (am 10), .ref (am 11), .ref (am 12), vi ((bs.length : Int)), vi (se), vi ((evs.length : Int)), vi (hd.2.1), vi (hd.2.2.2.1), vi (hd.2.2.1), vi ((ln.length : Int)), vi (0), vi (0), vi (0), vi (th), vl (hd.2.2.2.2), vl (ca)]) C dX7_blends__12 rfl fa_X7_147 u21 rfl rfl rfl rfl (fun τ36 ee37 => ?_)
  have u38 : has τ36 (am 0) (.inr (7, [.ref (am 1), .ref (am 2), .ref (am 3), .ref (am 4), .ref (am 5), .ref (am 6), .ref (am 7), .ref (am 8), .ref (am 9), .ref (am 10), .ref (am 11), .ref (am 12), vi ((bs.length : Int)), vi (se), vi ((evs.length : Int)), vi (hd.2.1), vi (hd.2.2.2.1), vi (hd.2.2.1), vi ((ln.length : Int)), vi (0), vi (0), vi (0), vi (th), vl (hd.2.2.2.2), vl (ca)])) := u21.self' ee37
  have u39 := u22.ne' ee37 (hI 1 0 (by decide) (by decide) (by decide))
  have u40 := u23.ne' ee37 (hI 2 0 (by decide) (by decide) (by decide))
  have u41 := u24.ne' ee37 (hI 3 0 (by decide) (by decide) (by decide))
  have u42 := u25.ne' ee37 (hI 4 0 (by decide) (by decide) (by decide))
  have u43 := u26.ne' ee37 (hI 5 0 (by decide) (by decide) (by decide))
  have u44 := u27.ne' ee37 (hI 6 0 (by decide) (by decide) (by decide))
  have u45 := u28.ne' ee37 (hI 7 0 (by decide) (by decide) (by decide))
  have u46 := u29.ne' ee37 (hI 8 0 (by decide) (by decide) (by decide))
  have u47 := u30.ne' ee37 (hI 9 0 (by decide) (by decide) (by decide))
  have u48 := u31.ne' ee37 (hI 10 0 (by decide) (by decide) (by decide))
  have u49 := u32.ne' ee37 (hI 11 0 (by decide) (by decide) (by decide))
  have u50 := u33.ne' ee37 (hI 12 0 (by decide) (by decide) (by decide))
  have kp51 := kp34.put ee37 ⟨0, by decide, rfl⟩
  have dm52 := (dom_put ee37).trans dm35
  refine j_aload_n 0 C dX7_blends__15 rfl rfl rfl ?_
  refine j_iload_n 1 C dX7_blends__16 rfl rfl rfl ?_
  refine j_iload_n 3 C dX7_blends__17 rfl rfl rfl ?_
  have hM2 : RM (kc κ) τ36 am bs ru se pf hd ca evs ln (0, 0, 0) th := ⟨hI, _, _, _, _, _, _, _, _, _, _, _, _, _, _, _, u38, ⟨u39, u40, u41, u42, u43, u44, u45, u46, u47, u48, u49, u50⟩, ⟨rfl, rfl, rfl⟩, hBn1, hRu1, hPr1, hTr1, hKi1, hLi1⟩
  refine j_callV (st' := []) (As := [vi ((a : Int)), vi (s)]) C dX7_blends__18 rfl m_X7_150 u38 rfl rfl rfl (c_blends (kL κ) hfl (kD κ) (kc κ) τ36 am bs ru se pf hd ca evs ln (0, 0, 0) th hM2 a ha hoa s hs9) rfl (by omega) (by omega) (by omega) (fun _ _ hx => hx.elim) (fun v54 τ53 hp55 => ?_)
  obtain ⟨rfl, hN56, hN56k, hN56d⟩ := hp55
  show J κ τ53 [(0, .ref (am 0)), (1, vi ((a : Int))), (2, vi ((b : Int))), (3, vi (s)), (4, vi (n))] 21 [] _ _
  have hN56K := kp51.tr hN56k
  have hN56D := hN56d.trans dm52
  obtain ⟨hI57, gc57, gm57, gr57, gp57, gb57, go57, gf57, gg57, gt57, gz57, gk57, gl57, _, _, _, h057, ⟨hgc57, hgm57, hgr57, hgp57, hgb57, hgo57, hgf57, hgg57, hgt57, hgz57, hgk57, hgl57⟩, ⟨rfl, rfl, rfl⟩, hBn57, hRu57, hPr57, hTr57, hKi57, hLi57⟩ := id hN56
  have hI := hI57
  have hnb657 := hBn57.1
  refine j_aload_n 0 C dX7_blends__21 rfl rfl rfl ?_
  refine j_iload_n 2 C dX7_blends__22 rfl rfl rfl ?_
  refine j_iload 4 C dX7_blends__23 rfl rfl ?_
  refine j_iload_n 3 C dX7_blends__25 rfl rfl rfl ?_
  refine j_isub C dX7_blends__26 rfl ?_
  refine j_callV (st' := []) (As := [vi ((b : Int)), vi (n - s)]) C dX7_blends__27 rfl m_X7_150 h057 rfl rfl rfl (c_blends (kL κ) hfl (kD κ) (kc κ) τ53 am bs ru se pf hd ca evs ln (0 + sumL wf (takeL s (fl (gB bs a))), 0 + sumL df (takeL s (fl (gB bs a))), 0 + sumL (cf pf) (takeL s (fl (gB bs a)))) th hN56 b hb hob (n - s) hns) rfl (by omega) (by omega) (by omega) (fun _ _ hx => hx.elim) (fun v59 τ58 hp60 => ?_)
  obtain ⟨rfl, hN61, hN61k, hN61d⟩ := hp60
  show J κ τ58 [(0, .ref (am 0)), (1, vi ((a : Int))), (2, vi ((b : Int))), (3, vi (s)), (4, vi (n))] 30 [] _ _
  have hN61K := hN56K.tr hN61k
  have hN61D := hN61d.trans hN56D
  obtain ⟨hI62, gc62, gm62, gr62, gp62, gb62, go62, gf62, gg62, gt62, gz62, gk62, gl62, _, _, _, h062, ⟨hgc62, hgm62, hgr62, hgp62, hgb62, hgo62, hgf62, hgg62, hgt62, hgz62, hgk62, hgl62⟩, ⟨rfl, rfl, rfl⟩, hBn62, hRu62, hPr62, hTr62, hKi62, hLi62⟩ := id hN61
  have hI := hI62
  have hnb662 := hBn62.1
  have e9 : ((0 + sumL wf (takeL s (fl (gB bs a))), 0 + sumL df (takeL s (fl (gB bs a))), 0 + sumL (cf pf) (takeL s (fl (gB bs a)))).1 + sumL wf (takeL (n - s) (fl (gB bs b))), (0 + sumL wf (takeL s (fl (gB bs a))), 0 + sumL df (takeL s (fl (gB bs a))), 0 + sumL (cf pf) (takeL s (fl (gB bs a)))).2.1 + sumL df (takeL (n - s) (fl (gB bs b))), (0 + sumL wf (takeL s (fl (gB bs a))), 0 + sumL df (takeL s (fl (gB bs a))), 0 + sumL (cf pf) (takeL s (fl (gB bs a)))).2.2 + sumL (cf pf) (takeL (n - s) (fl (gB bs b)))) = mixB pf (fl (gB bs a)) (fl (gB bs b)) n s := by unfold mixB mixW mixD mixC; simp only [Int.zero_add]
  exact j_vret C E dX7_blends__30 (by omega) (by omega) ⟨rfl, by rw [← e9]; exact hN61, hN61K, hN61D⟩
def bsO (b : Bl) : Int := if b.1 = true then b.2.1 else -1
def lsO (b : Bl) : Int := if b.1 = true then b.2.2 else 2147483647
theorem off_T {b : Bl} {s c w mw : Int} (h1 : w ≤ mw) (h2 : c < lsO b) : offF b s c w mw = (true, s, c) := by
  unfold offF lsO at *
  refine if_pos ⟨h1, ?_⟩
  by_cases hb : b.1 = true
  · rw [if_pos hb] at h2; exact Or.inr h2
  · exact Or.inl (by simpa using hb)
theorem off_F1 {b : Bl} {s c w mw : Int} (h1 : mw < w) : offF b s c w mw = b := if_neg (by omega)
theorem off_F2 {b : Bl} {s c w mw : Int} (h2 : lsO b ≤ c) (hc : c < 2147483647) : offF b s c w mw = b := by
  unfold offF lsO at *
  by_cases hb : b.1 = true
  · rw [if_pos hb] at h2
    exact if_neg (fun z => by rcases z.2 with z | z; rw [hb] at z; exact absurd z (by decide); omega)
  · rw [if_neg hb] at h2; omega
/-- how many shares have been tried below x -/
def cntS (lo hi x : Int) : Nat := (min x (hi + 1) - lo).toNat
theorem cntS_in {lo hi x : Int} (h : lo ≤ x ∧ x ≤ hi) : cntS lo hi (x + 1) = cntS lo hi x + 1 ∧ lo + (cntS lo hi x : Int) = x := by unfold cntS; omega
theorem cntS_out {lo hi x : Int} (h : ¬ (lo ≤ x ∧ x ≤ hi)) : cntS lo hi (x + 1) = cntS lo hi x := by unfold cntS; omega
theorem cntS_0 {lo hi : Int} (h : 0 ≤ lo) : cntS lo hi 0 = 0 := by unfold cntS; omega
theorem lsO_in {b : Bl} (h : 0 ≤ b.2.2 ∧ b.2.2 ≤ 20000000) : 0 ≤ lsO b ∧ lsO b ≤ 2147483647 := by unfold lsO; split <;> omega
set_option maxHeartbeats 8000000 in
set_option maxRecDepth 20000 in
theorem c_share (l : Launch) (hfl : l.stackTraces = false) (D : va_G) (cy : Nat → Nat) (σ : Wd) (am : Nat → Nat) (bs : List Bn) (ru : Nat → Int × Int) (se : Int) (pf : Nat → Int) (hd : Hd) (ca : Int) (evs : List Evt) (ln : List Int) (bl : Int × Int × Int) (th : Int) (hM : RM cy σ am bs ru se pf hd ca evs ln bl th) (a b : Nat) (ha : a < bs.length) (hb : b < bs.length) (hoa : lysOk (gB bs a).2.2) (hob : lysOk (gB bs b).2.2) (hpr : ∀ i, i < 5 → 0 ≤ pf i ∧ pf i ≤ 2000) (hta : tot (gB bs a).2.2 ≤ 5000) (htb : tot (gB bs b).2.2 ≤ 5000) (n m : Int) (hn : 1 ≤ n ∧ n ≤ 500) (hmw : 0 ≤ m * n ∧ m * n ≤ 1000000) : Ct l yX7_share cX7_share 9 (some .int) 3 0 0 D cy [.ref (am 0), vi ((a : Int)), vi ((b : Int)), vi (n), vi (m)] σ (fun v σ' => v = some (vi (bsO (bestF pf (fl (gB bs a)) (fl (gB bs b)) n (m * n)))) ∧ (∃ bl', RM cy σ' am bs ru se pf hd ca evs ln bl' th) ∧ Keep σ σ' (inM am) ∧ σ'.1 = σ.1) noX := by
  refine ct_start (by decide +kernel) hfl rfl (fun κ e1 e2 e3 C E NH => ?_)
  subst e1 e2 e3
  have C : Cx κ cX7_share 9 RX7 "share" 3 := C
  obtain ⟨-, -, -, -, hc, hs⟩ := id E
  show J κ σ [(0, .ref (am 0)), (1, vi ((a : Int))), (2, vi ((b : Int))), (3, vi (n)), (4, vi (m))] 0 [] 0 0
  obtain ⟨hI1, gc1, gm1, gr1, gp1, gb1, go1, gf1, gg1, gt1, gz1, gk1, gl1, _, _, _, h01, ⟨hgc1, hgm1, hgr1, hgp1, hgb1, hgo1, hgf1, hgg1, hgt1, hgz1, hgk1, hgl1⟩, ⟨rfl, rfl, rfl⟩, hBn1, hRu1, hPr1, hTr1, hKi1, hLi1⟩ := id hM
  have hI := hI1
  have hnb61 := hBn1.1
  have kp0 : Keep σ σ (inM am) := Keep.rf
  have dm0 : σ.1 = σ.1 := rfl
  obtain ⟨LA, hLA⟩ : ∃ L, fl (gB bs a) = L := ⟨_, rfl⟩
  obtain ⟨LB, hLB⟩ : ∃ L, fl (gB bs b) = L := ⟨_, rfl⟩
  have htA : tot (gB bs a).2.2 = tot LA := by rw [← hLA]; exact (sum_fl _ _).symm
  have htB : tot (gB bs b).2.2 = tot LB := by rw [← hLB]; exact (sum_fl _ _).symm
  have hokA : lysOk LA := by rw [← hLA]; exact fl_ok hoa
  have hokB : lysOk LB := by rw [← hLB]; exact fl_ok hob
  have ht0A := tot_0 hokA
  have ht0B := tot_0 hokB
  have hbF : bestF pf (fl (gB bs a)) (fl (gB bs b)) n (m * n) = bestK pf LA LB n (m * n) (loS LB n) (cntS (loS LB n) (hiS LA n) (n + 1)) := by rw [hLA, hLB]; unfold bestF; congr 1; unfold cntS hiS; omega
  obtain ⟨lo, hlo⟩ : ∃ z, loS LB n = z := ⟨_, rfl⟩
  obtain ⟨hi, hhi⟩ : ∃ z, hiS LA n = z := ⟨_, rfl⟩
  rw [hlo, hhi] at hbF
  unfold loS at hlo
  unfold hiS at hhi
  refine j_iconst C dX7_share_0 rfl ?_
  refine j_istore (lv' := [(0, .ref (am 0)), (1, vi ((a : Int))), (2, vi ((b : Int))), (3, vi (n)), (4, vi (m)), (5, vi (-1))]) [1, 2, 3, 4, 5, 0] C dX7_share_1 rfl rfl rfl ?_
  refine j_ldc (z := 2147483647) C dX7_share_3 rfl kc_X7_156 ?_
  refine j_istore (lv' := [(0, .ref (am 0)), (1, vi ((a : Int))), (2, vi ((b : Int))), (3, vi (n)), (4, vi (m)), (5, vi (-1)), (6, vi (2147483647))]) [1, 2, 3, 4, 5, 6, 0] C dX7_share_5 rfl rfl rfl ?_
  refine j_iconst C dX7_share_7 rfl ?_
  refine j_istore (lv' := [(0, .ref (am 0)), (1, vi ((a : Int))), (2, vi ((b : Int))), (3, vi (n)), (4, vi (m)), (5, vi (-1)), (6, vi (2147483647)), (7, vi (0))]) [1, 2, 3, 4, 5, 6, 7, 0] C dX7_share_8 rfl rfl rfl ?_
  have lp : ∀ (N : Nat) (x : Int) (β : Bl) (bl1 : Int × Int × Int) (σ1 : Wd), RM (kc κ) σ1 am bs ru se pf hd ca evs ln bl1 th → Keep σ σ1 (inM am) → σ1.1 = σ.1 → bestK pf LA LB n (m * n) lo (cntS lo hi x) = β → (0 ≤ x ∧ x ≤ n + 1) → ((n + 1 - x).toNat) < N → J κ σ1 [(0, .ref (am 0)), (1, vi ((a : Int))), (2, vi ((b : Int))), (3, vi (n)), (4, vi (m)), (5, vi ((bsO β))), (6, vi ((lsO β))), (7, vi (x))] 10 [] 0 0 := by
    intro N
    induction N with
    | zero => intro x β bl1 σ1 hM1 hk1 hd1 hβ hx hN; exact absurd hN (Nat.not_lt_zero _)
    | succ N ih =>
      intro x β bl1 σ1 hM1 hk1 hd1 hβ hx hN
      obtain ⟨hI2, gc2, gm2, gr2, gp2, gb2, go2, gf2, gg2, gt2, gz2, gk2, gl2, _, _, _, h02, ⟨hgc2, hgm2, hgr2, hgp2, hgb2, hgo2, hgf2, hgg2, hgt2, hgz2, hgk2, hgl2⟩, ⟨rfl, rfl, rfl⟩, hBn2, hRu2, hPr2, hTr2, hKi2, hLi2⟩ := id hM1
      have hI := hI2
      have hnb62 := hBn2.1
      have hβi := bestK_in hpr hokA hokB (by omega) (by omega) n (m * n) lo (cntS lo hi x)
      rw [hβ] at hβi
      have hls := lsO_in hβi
      refine j_iload 7 C dX7_share_10 rfl rfl ?_
      refine j_iload_n 3 C dX7_share_12 rfl rfl rfl ?_
      refine j_icmp_gt (tgt := 110) C dX7_share_13 rfl rfl ⟨by omega, by omega⟩ ⟨by omega, by omega⟩ (fun cc3 => ?_) (fun cc3 => ?_)
      · refine j_iload 5 C dX7_share_110 rfl rfl ?_
        have hxn : x = n + 1 := by omega
        rw [hxn] at hβ
        exact j_iret C E dX7_share_112 (by omega) (by omega) ⟨congrArg some (congrArg vi (by rw [hbF, hβ])), ⟨_, hM1⟩, hk1, hd1⟩
      · refine j_iload 7 C dX7_share_16 rfl rfl ?_
        refine j_aload_n 0 C dX7_share_18 rfl rfl rfl ?_
        refine j_iload_n 1 C dX7_share_19 rfl rfl rfl ?_
        refine j_callV (st' := [vi (x)]) (As := [vi ((a : Int))]) C dX7_share_20 rfl m_X7_93 h02 rfl rfl rfl (c_within (kL κ) hfl (kD κ) (kc κ) σ1 am bs ru se pf hd ca evs ln bl1 th hM1 a ha) rfl (by omega) (by omega) (by omega) (fun _ _ hx => hx.elim) (fun v5 τ4 hp6 => ?_)
        obtain ⟨rfl, hs9⟩ := hp6
        replace hs9 := hs9.symm
        subst hs9
        show J κ σ1 [(0, .ref (am 0)), (1, vi ((a : Int))), (2, vi ((b : Int))), (3, vi (n)), (4, vi (m)), (5, vi ((bsO β))), (6, vi ((lsO β))), (7, vi (x))] 23 [vi ((tot (gB bs a).2.2)), vi (x)] _ _
        rw [htA]
        refine j_icmp_gt (tgt := 104) C dX7_share_23 rfl rfl ⟨by omega, by omega⟩ ⟨by omega, by omega⟩ (fun cc7 => ?_) (fun cc7 => ?_)
        · refine j_iinc (y := x + 1) (lv' := [(0, .ref (am 0)), (1, vi ((a : Int))), (2, vi ((b : Int))), (3, vi (n)), (4, vi (m)), (5, vi ((bsO β))), (6, vi ((lsO β))), (7, vi (x + 1))]) 7 [1, 2, 3, 4, 5, 6, 7, 0] C dX7_share_104 rfl rfl rfl rfl rfl ?_
          refine j_goto (tgt := 10) C dX7_share_107 rfl ?_
          have hnx : bestK pf LA LB n (m * n) lo (cntS lo hi (x + 1)) = β := by rw [cntS_out (by omega)]; exact hβ
          exact ih (x + 1) β _ σ1 hM1 hk1 hd1 hnx (by omega) (by omega)
        · refine j_iload_n 3 C dX7_share_26 rfl rfl rfl ?_
          refine j_iload 7 C dX7_share_27 rfl rfl ?_
          refine j_isub C dX7_share_29 rfl ?_
          refine j_aload_n 0 C dX7_share_30 rfl rfl rfl ?_
          refine j_iload_n 2 C dX7_share_31 rfl rfl rfl ?_
          refine j_callV (st' := [vi (n - x)]) (As := [vi ((b : Int))]) C dX7_share_32 rfl m_X7_93 h02 rfl rfl rfl (c_within (kL κ) hfl (kD κ) (kc κ) σ1 am bs ru se pf hd ca evs ln bl1 th hM1 b hb) rfl (by omega) (by omega) (by omega) (fun _ _ hx => hx.elim) (fun v9 τ8 hp10 => ?_)
          obtain ⟨rfl, hs9⟩ := hp10
          replace hs9 := hs9.symm
          subst hs9
          show J κ σ1 [(0, .ref (am 0)), (1, vi ((a : Int))), (2, vi ((b : Int))), (3, vi (n)), (4, vi (m)), (5, vi ((bsO β))), (6, vi ((lsO β))), (7, vi (x))] 35 [vi ((tot (gB bs b).2.2)), vi (n - x)] _ _
          rw [htB]
          refine j_icmp_gt (tgt := 104) C dX7_share_35 rfl rfl ⟨by omega, by omega⟩ ⟨by omega, by omega⟩ (fun cc11 => ?_) (fun cc11 => ?_)
          · refine j_iinc (y := x + 1) (lv' := [(0, .ref (am 0)), (1, vi ((a : Int))), (2, vi ((b : Int))), (3, vi (n)), (4, vi (m)), (5, vi ((bsO β))), (6, vi ((lsO β))), (7, vi (x + 1))]) 7 [1, 2, 3, 4, 5, 6, 7, 0] C dX7_share_104 rfl rfl rfl rfl rfl ?_
            refine j_goto (tgt := 10) C dX7_share_107 rfl ?_
            have hnx : bestK pf LA LB n (m * n) lo (cntS lo hi (x + 1)) = β := by rw [cntS_out (by omega)]; exact hβ
            exact ih (x + 1) β _ σ1 hM1 hk1 hd1 hnx (by omega) (by omega)
          · refine j_aload_n 0 C dX7_share_38 rfl rfl rfl ?_
            refine j_iload_n 1 C dX7_share_39 rfl rfl rfl ?_
            refine j_iload_n 2 C dX7_share_40 rfl rfl rfl ?_
            refine j_iload 7 C dX7_share_41 rfl rfl ?_
            refine j_iload_n 3 C dX7_share_43 rfl rfl rfl ?_
            have hmc := sums_in hpr hokA (by omega) x
            have hmd := sums_in hpr hokB (by omega) (n - x)
            refine j_callV (st' := []) (As := [vi ((a : Int)), vi ((b : Int)), vi (x), vi (n)]) C dX7_share_44 rfl m_X7_157 h02 rfl rfl rfl (c_blends2 (kL κ) hfl (kD κ) (kc κ) σ1 am bs ru se pf hd ca evs ln bl1 th hM1 a b ha hb hoa hob x n ⟨by omega, by omega⟩ ⟨by omega, by omega⟩) rfl (by omega) (by omega) (by omega) (fun _ _ hx => hx.elim) (fun v13 τ12 hp14 => ?_)
            obtain ⟨rfl, hN, hNk, hNd⟩ := hp14
            have hNK := hk1.tr hNk
            have hND := hNd.trans hd1
            rw [hLA, hLB] at hN
            obtain ⟨W, hW⟩ : ∃ z, mixW LA LB n x = z := ⟨_, rfl⟩
            obtain ⟨K, hK⟩ : ∃ z, mixC pf LA LB n x = z := ⟨_, rfl⟩
            have hWr : 0 ≤ W ∧ W ≤ 3000000 := by rw [← hW]; unfold mixW; omega
            have hKr : 0 ≤ K ∧ K ≤ 20000000 := by rw [← hK]; unfold mixC; omega
            rw [mixB, hW, hK] at hN
            show J κ τ12 [(0, .ref (am 0)), (1, vi ((a : Int))), (2, vi ((b : Int))), (3, vi (n)), (4, vi (m)), (5, vi ((bsO β))), (6, vi ((lsO β))), (7, vi (x))] 47 [] _ _
            obtain ⟨hI15, gc15, gm15, gr15, gp15, gb15, go15, gf15, gg15, gt15, gz15, gk15, gl15, _, _, _, h015, ⟨hgc15, hgm15, hgr15, hgp15, hgb15, hgo15, hgf15, hgg15, hgt15, hgz15, hgk15, hgl15⟩, ⟨rfl, rfl, rfl⟩, hBn15, hRu15, hPr15, hTr15, hKi15, hLi15⟩ := id hN
            have hI := hI15
            have hnb615 := hBn15.1
            have h0y : has τ12 (am 0) (.inr (7, [.ref (am 1), .ref (am 2), .ref (am 3), .ref (am 4), .ref (am 5), .ref (am 6), .ref (am 7), .ref (am 8), .ref (am 9), .ref (am 10), .ref (am 11), .ref (am 12), vi ((bs.length : Int)), vi (se), vi ((evs.length : Int)), vi (hd.2.1), vi (hd.2.2.2.1), vi (hd.2.2.1), vi ((ln.length : Int)), vi (W), vi ((W, mixD LA LB n x, K).2.1), vi (K), vi (th), vl (hd.2.2.2.2), vl (ca)])) := h015
            obtain ⟨hc1, hc2⟩ := cntS_in (lo := lo) (hi := hi) (x := x) ⟨by omega, by omega⟩
            have hnx : bestK pf LA LB n (m * n) lo (cntS lo hi (x + 1)) = offF β x K W (m * n) := by rw [hc1]; show offF _ (lo + (cntS lo hi x : Int)) (mixC pf LA LB n (lo + (cntS lo hi x : Int))) (mixW LA LB n (lo + (cntS lo hi x : Int))) _ = _; rw [hc2, hβ, hW, hK]
            refine j_aload_n 0 C dX7_share_47 rfl rfl rfl ?_
            refine j_get C dX7_share_48 rfl fg_X7_141 h0y rfl ?_
            refine j_iload 4 C dX7_share_51 rfl rfl ?_
            refine j_iload_n 3 C dX7_share_53 rfl rfl rfl ?_
            refine j_imul C dX7_share_54 rfl ?_
            refine j_icmp_gt (tgt := 71) C dX7_share_55 rfl rfl ⟨by omega, by omega⟩ ⟨by omega, by omega⟩ (fun cc16 => ?_) (fun cc16 => ?_)
            · refine j_iconst C dX7_share_71 rfl ?_
              refine j_istore (lv' := [(0, .ref (am 0)), (1, vi ((a : Int))), (2, vi ((b : Int))), (3, vi (n)), (4, vi (m)), (5, vi ((bsO β))), (6, vi ((lsO β))), (7, vi (x)), (8, vi (0))]) [1, 2, 3, 4, 5, 6, 7, 8, 0] C dX7_share_72 rfl rfl rfl ?_
              refine j_iload 8 C dX7_share_74 rfl rfl ?_
              refine j_if_eq (tgt := 84) C dX7_share_76 rfl rfl ⟨by omega, by omega⟩ (fun _ => ?_) (fun cc17 => absurd cc17 (by decide))
              refine j_iload 5 C dX7_share_84 rfl rfl ?_
              refine j_istore (lv' := [(0, .ref (am 0)), (1, vi ((a : Int))), (2, vi ((b : Int))), (3, vi (n)), (4, vi (m)), (5, vi ((bsO β))), (6, vi ((lsO β))), (7, vi (x)), (8, vi (0))]) [1, 2, 3, 4, 5, 0, 6, 7, 8] C dX7_share_86 rfl rfl rfl ?_
              refine j_iload 8 C dX7_share_88 rfl rfl ?_
              refine j_if_eq (tgt := 100) C dX7_share_90 rfl rfl ⟨by omega, by omega⟩ (fun _ => ?_) (fun cc18 => absurd cc18 (by decide))
              refine j_iload 6 C dX7_share_100 rfl rfl ?_
              refine j_istore (lv' := [(0, .ref (am 0)), (1, vi ((a : Int))), (2, vi ((b : Int))), (3, vi (n)), (4, vi (m)), (5, vi ((bsO β))), (6, vi ((lsO β))), (7, vi (x)), (8, vi (0))]) [1, 2, 3, 4, 5, 6, 0, 7, 8] C dX7_share_102 rfl rfl rfl ?_
              refine j_iinc (y := x + 1) (lv' := [(0, .ref (am 0)), (1, vi ((a : Int))), (2, vi ((b : Int))), (3, vi (n)), (4, vi (m)), (5, vi ((bsO β))), (6, vi ((lsO β))), (7, vi (x + 1)), (8, vi (0))]) 7 [1, 2, 3, 4, 5, 6, 7, 0, 8] C dX7_share_104 rfl rfl rfl rfl rfl ?_
              refine j_goto (tgt := 10) C dX7_share_107 rfl ?_
              have hof : offF β x K W (m * n) = β := by first | exact off_F1 (by omega) | exact off_F2 (by omega) (by omega)
              rw [hof] at hnx
              refine j_locals (lv' := [(0, .ref (am 0)), (1, vi ((a : Int))), (2, vi ((b : Int))), (3, vi (n)), (4, vi (m)), (5, vi ((bsO β))), (6, vi ((lsO β))), (7, vi (x + 1))]) [0, 1, 2, 3, 4, 5, 6, 7] rfl ?_
              exact ih (x + 1) β _ τ12 hN hNK hND hnx (by omega) (by omega)
            · refine j_aload_n 0 C dX7_share_58 rfl rfl rfl ?_
              refine j_get C dX7_share_59 rfl fg_X7_147 h0y rfl ?_
              refine j_iload 6 C dX7_share_62 rfl rfl ?_
              refine j_icmp_ge (tgt := 71) C dX7_share_64 rfl rfl ⟨by omega, by omega⟩ ⟨by omega, by omega⟩ (fun cc19 => ?_) (fun cc19 => ?_)
              · refine j_iconst C dX7_share_71 rfl ?_
                refine j_istore (lv' := [(0, .ref (am 0)), (1, vi ((a : Int))), (2, vi ((b : Int))), (3, vi (n)), (4, vi (m)), (5, vi ((bsO β))), (6, vi ((lsO β))), (7, vi (x)), (8, vi (0))]) [1, 2, 3, 4, 5, 6, 7, 8, 0] C dX7_share_72 rfl rfl rfl ?_
                refine j_iload 8 C dX7_share_74 rfl rfl ?_
                refine j_if_eq (tgt := 84) C dX7_share_76 rfl rfl ⟨by omega, by omega⟩ (fun _ => ?_) (fun cc20 => absurd cc20 (by decide))
                refine j_iload 5 C dX7_share_84 rfl rfl ?_
                refine j_istore (lv' := [(0, .ref (am 0)), (1, vi ((a : Int))), (2, vi ((b : Int))), (3, vi (n)), (4, vi (m)), (5, vi ((bsO β))), (6, vi ((lsO β))), (7, vi (x)), (8, vi (0))]) [1, 2, 3, 4, 5, 0, 6, 7, 8] C dX7_share_86 rfl rfl rfl ?_
                refine j_iload 8 C dX7_share_88 rfl rfl ?_
                refine j_if_eq (tgt := 100) C dX7_share_90 rfl rfl ⟨by omega, by omega⟩ (fun _ => ?_) (fun cc21 => absurd cc21 (by decide))
                refine j_iload 6 C dX7_share_100 rfl rfl ?_
                refine j_istore (lv' := [(0, .ref (am 0)), (1, vi ((a : Int))), (2, vi ((b : Int))), (3, vi (n)), (4, vi (m)), (5, vi ((bsO β))), (6, vi ((lsO β))), (7, vi (x)), (8, vi (0))]) [1, 2, 3, 4, 5, 6, 0, 7, 8] C dX7_share_102 rfl rfl rfl ?_
                refine j_iinc (y := x + 1) (lv' := [(0, .ref (am 0)), (1, vi ((a : Int))), (2, vi ((b : Int))), (3, vi (n)), (4, vi (m)), (5, vi ((bsO β))), (6, vi ((lsO β))), (7, vi (x + 1)), (8, vi (0))]) 7 [1, 2, 3, 4, 5, 6, 7, 0, 8] C dX7_share_104 rfl rfl rfl rfl rfl ?_
                refine j_goto (tgt := 10) C dX7_share_107 rfl ?_
                have hof : offF β x K W (m * n) = β := by first | exact off_F1 (by omega) | exact off_F2 (by omega) (by omega)
                rw [hof] at hnx
                refine j_locals (lv' := [(0, .ref (am 0)), (1, vi ((a : Int))), (2, vi ((b : Int))), (3, vi (n)), (4, vi (m)), (5, vi ((bsO β))), (6, vi ((lsO β))), (7, vi (x + 1))]) [0, 1, 2, 3, 4, 5, 6, 7] rfl ?_
                exact ih (x + 1) β _ τ12 hN hNK hND hnx (by omega) (by omega)
              · refine j_iconst C dX7_share_67 rfl ?_
                refine j_goto (tgt := 72) C dX7_share_68 rfl ?_
                refine j_istore (lv' := [(0, .ref (am 0)), (1, vi ((a : Int))), (2, vi ((b : Int))), (3, vi (n)), (4, vi (m)), (5, vi ((bsO β))), (6, vi ((lsO β))), (7, vi (x)), (8, vi (1))]) [1, 2, 3, 4, 5, 6, 7, 8, 0] C dX7_share_72 rfl rfl rfl ?_
                refine j_iload 8 C dX7_share_74 rfl rfl ?_
                refine j_if_eq (tgt := 84) C dX7_share_76 rfl rfl ⟨by omega, by omega⟩ (fun cc22 => absurd cc22 (by decide)) (fun _ => ?_)
                refine j_iload 7 C dX7_share_79 rfl rfl ?_
                refine j_goto (tgt := 86) C dX7_share_81 rfl ?_
                refine j_istore (lv' := [(0, .ref (am 0)), (1, vi ((a : Int))), (2, vi ((b : Int))), (3, vi (n)), (4, vi (m)), (5, vi (x)), (6, vi ((lsO β))), (7, vi (x)), (8, vi (1))]) [1, 2, 3, 4, 5, 0, 6, 7, 8] C dX7_share_86 rfl rfl rfl ?_
                refine j_iload 8 C dX7_share_88 rfl rfl ?_
                refine j_if_eq (tgt := 100) C dX7_share_90 rfl rfl ⟨by omega, by omega⟩ (fun cc23 => absurd cc23 (by decide)) (fun _ => ?_)
                refine j_aload_n 0 C dX7_share_93 rfl rfl rfl ?_
                refine j_get C dX7_share_94 rfl fg_X7_147 h0y rfl ?_
                refine j_goto (tgt := 102) C dX7_share_97 rfl ?_
                refine j_istore (lv' := [(0, .ref (am 0)), (1, vi ((a : Int))), (2, vi ((b : Int))), (3, vi (n)), (4, vi (m)), (5, vi (x)), (6, vi (K)), (7, vi (x)), (8, vi (1))]) [1, 2, 3, 4, 5, 6, 0, 7, 8] C dX7_share_102 rfl rfl rfl ?_
                refine j_iinc (y := x + 1) (lv' := [(0, .ref (am 0)), (1, vi ((a : Int))), (2, vi ((b : Int))), (3, vi (n)), (4, vi (m)), (5, vi (x)), (6, vi (K)), (7, vi (x + 1)), (8, vi (1))]) 7 [1, 2, 3, 4, 5, 6, 7, 0, 8] C dX7_share_104 rfl rfl rfl rfl rfl ?_
                refine j_goto (tgt := 10) C dX7_share_107 rfl ?_
                rw [off_T (by omega) (by omega)] at hnx
                refine j_locals (lv' := [(0, .ref (am 0)), (1, vi ((a : Int))), (2, vi ((b : Int))), (3, vi (n)), (4, vi (m)), (5, vi (x)), (6, vi (K)), (7, vi (x + 1))]) [0, 1, 2, 3, 4, 5, 6, 7] rfl ?_
                exact ih (x + 1) (true, x, K) _ τ12 hN hNK hND hnx (by omega) (by omega)
  exact lp _ 0 (false, 0, 0) bl σ hM Keep.rf rfl (by rw [cntS_0 (by omega)]; rfl) ⟨by omega, by omega⟩ (Nat.lt_succ_self _)
